/-! constructors: table, model -/
section CTOR2
variable {E : En} {μ : Mm} {K : Option Value → Mm → Prop}
theorem Fr.same {S : Nat → Prop} {μ' : Mm} {q : Nat} (f : Fr S μ μ') (h : ¬ S q) : same q μ μ' := ⟨by rw [f.2.1], by rw [f.2.2.1], (f.2.2.2.2.2 q h).1, (f.2.2.2.2.2 q h).2.1, (f.2.2.2.2.2 q h).2.2.1, (f.2.2.2.2.2 q h).2.2.2, by rw [f.2.2.2.1], by rw [f.2.2.2.2.1]⟩
theorem n0 : (0 : Int32) = nI 0 := rfl
theorem b26 : ∀ i, i < 26 → (nI (97 + i)).toInt8.toInt32.toInt8.toInt32 = nI (97 + i) := by decide +kernel
theorem i_table {ν μ0 : Mm} {t : Nat} (o0 : Ob ν μ0 t 7 [] (fun _ => none) (fun _ => 0)) (k : ∀ μ', mN μ' = t + 3 → Tg μ' t → Tt μ' t (fun i => [97 + i]) → (∀ q, q < t → same q ν μ') → K none μ') : Cl E M_X6_init [.ref t] μ0 K := by
  have mk0 := o0.2.1
  refine Cl.of (nn := 1) pn_X6 (Nat.le_of_ble_eq_true rfl) rfl ?_
  refine e_al0 1 rfl dX6_init_0 ?_
  refine e_obj 4 rfl dX6_init_1 k_X6_3 (Nat.le_of_ble_eq_true rfl) (Nat.le_of_ble_eq_true rfl) ?_
  refine e_al0 5 rfl dX6_init_4 ?_
  refine e_bipush (nI 78) 7 rfl dX6_init_5 bc_78 ?_
  refine e_newaB 1 26 9 rfl dX6_init_7 (Or.inl ⟨rfl, rfl⟩) ac_byte rfl (by decide) rfl rfl ?_
  have n0 := o0.mkN 12 78
  refine e_putR 12 rfl dX6_init_9 f_X6_9 (by assumption) rfl rfl (fun _ => ⟨rfl, rfl⟩) ?_
  have o1 := o0.na 12 78 0
  generalize sP (sN μ0 12 78) t 0 (some (mN μ0)) = μ1 at o1 ⊢
  clear n0
  have mk1 := o1.2.1
  clear mk0 o0
  refine e_al0 13 rfl dX6_init_12 ?_
  refine e_bipush (nI 26) 15 rfl dX6_init_13 bc_26 ?_
  refine e_newaB 0 0 17 rfl dX6_init_15 (Or.inr (Or.inl ⟨rfl, rfl⟩)) ac_int rfl (by decide) rfl rfl ?_
  have n1 := o1.mkN 13 26
  refine e_putR 20 rfl dX6_init_17 f_X6_15 (by assumption) rfl rfl (fun _ => ⟨rfl, rfl⟩) ?_
  have o2 := o1.na 13 26 1
  generalize sP (sN μ1 13 26) t 1 (some (mN μ1)) = μ2 at o2 ⊢
  clear n1
  have mk2 := o2.2.1
  clear mk1 o1
  obtain ⟨h1, h2, h3, h4, h5, h6⟩ := id o2
  have c1 := h5 0 (12, 78) rfl
  have c2 := h5 1 (13, 26) rfl
  have hTg : Tg μ2 t := ⟨h2, by rw [h3]; rfl, by rw [h3]; rfl, c1.1, c1.2.1, c2.1, c2.2.1⟩
  refine e_iconst (nI 0) 21 rfl dX6_init_20 ic_0 ?_
  refine e_is1 22 rfl dX6_init_21 (by decide) rfl ?_
  have loop : ∀ (fu i : Nat), i + fu = 26 → ∀ μ', Fr (fun q => q = t + 1 ∨ q = t + 2) μ2 μ' → (∀ j, j < i → mB μ' (t + 1) (j * 3) = nI (97 + j) ∧ mA μ' (t + 2) j = nI 1) → Ev E M_X6_init 0 0 22 [some (.ref t), some (.int (nI i))] [] μ' K := by
    intro fu
    induction fu with
    | zero =>
      intro i hi μ' hF hI
      refine e_il1 23 rfl dX6_init_22 ?_
      refine e_bipush (nI 26) 25 rfl dX6_init_23 bc_26 ?_
      first | refine e_cmp_geN 54 28 (by decide) rfl dX6_init_25 rfl rfl (by omega) (by omega) (fun y1 => ?_) (fun y1 => ?_) | refine e_cmp_ge 54 28 (by decide) rfl dX6_init_25 (fun y1 => ?_) (fun y1 => ?_)
      rotate_left
      · omega
      refine e_ret dX6_init_54 rfl ?_
      refine k μ' (by rw [hF.1, h1]; rfl) (hTg.fr hF) (fun j hj => ?_) (fun q hq => (h6 q hq).trans (hF.same (by omega)))
      obtain ⟨a1, a2⟩ := hI j (by omega)
      refine ⟨a2, (show 1 ≤ 3 by decide), fun r c hr => ?_, fun c hc => ?_⟩
      · have hr0 : r = 0 := by have := (List.getElem?_eq_some_iff.mp hr).1; simp at this; omega
        subst hr0
        have : 97 + j = c := by simpa using hr
        show mB μ' (t + 1) (j * 3 + 0) = nI c
        rw [← this]; exact a1
      · simp at hc; omega
    | succ fu ih =>
      intro i hi μ' hF hI
      obtain ⟨gk, g0, g1, gk1, gl1, gk2, gl2⟩ := hTg.fr hF
      refine e_il1 23 rfl dX6_init_22 ?_
      refine e_bipush (nI 26) 25 rfl dX6_init_23 bc_26 ?_
      first | refine e_cmp_geN 54 28 (by decide) rfl dX6_init_25 rfl rfl (by omega) (by omega) (fun y1 => ?_) (fun y1 => ?_) | refine e_cmp_ge 54 28 (by decide) rfl dX6_init_25 (fun y1 => ?_) (fun y1 => ?_)
      · omega
      refine e_al0 29 rfl dX6_init_28 ?_
      refine e_getR 32 rfl dX6_init_29 f_X6_9 (by assumption) (by assumption) ?_
      refine e_il1 33 rfl dX6_init_32 ?_
      refine e_iconst (nI 3) 34 rfl dX6_init_33 ic_3 ?_
      first | refine e_imulN 35 rfl dX6_init_34 rfl rfl ?_ | refine e_imul 35 rfl dX6_init_34 ?_
      refine e_bipush (nI 97) 37 rfl dX6_init_35 bc_97 ?_
      refine e_il1 38 rfl dX6_init_37 ?_
      first | refine e_iaddN 39 rfl dX6_init_38 rfl rfl ?_ | refine e_iadd 39 rfl dX6_init_38 ?_
      refine e_i2b 40 rfl dX6_init_39 ?_
      first | refine e_bast 41 rfl dX6_init_40 (by assumption) (by assumption) (by first | rfl | simp only [pk_mul, nI_add]) (by omega) (by omega) ?_ | refine e_zast 41 rfl dX6_init_40 (by assumption) (by assumption) (by first | rfl | simp only [pk_mul, nI_add]) (by omega) (by omega) (by first | exact z0 | exact z1 | exact bI01 _ | assumption) ?_
      rw [b26 i (by omega)]
      have gk2' : mK (sB μ' (t + 1) (i * 3) (nI (97 + i))) (t + 2) = 13 := gk2
      have gl2' : mL (sB μ' (t + 1) (i * 3) (nI (97 + i))) (t + 2) = 26 := gl2
      refine e_al0 42 rfl dX6_init_41 ?_
      refine e_getR 45 rfl dX6_init_42 f_X6_15 (by assumption) (by assumption) ?_
      refine e_il1 46 rfl dX6_init_45 ?_
      refine e_iconst (nI 1) 47 rfl dX6_init_46 ic_1 ?_
      refine e_iast 48 rfl dX6_init_47 (by assumption) (by assumption) (by first | rfl | simp only [pk_mul, nI_add]) (by omega) (by omega) ?_
      refine e_ii1 (nI (_ + 1)) 51 rfl dX6_init_48 (ii1 _) rfl ?_
      refine e_goto 22 (by decide) dX6_init_51 ?_
      refine ih (i + 1) (by omega) _ ((hF.sB (Or.inl rfl) _ _).sA (Or.inr rfl) _ _) (fun j hj => ?_)
      rw [mB_sA, sB_s, sA_s]
      by_cases c : j = i
      · subst c; simp
      · simp only [if_neg c, if_neg (show j * 3 ≠ i * 3 by omega)]
        exact hI j (by omega)
  exact loop 26 0 (by omega) μ2 Fr.rf (fun j hj => by omega)
theorem i_model {ν μ0 : Mm} {t : Nat} (o0 : Ob ν μ0 t 11 [] (fun _ => none) (fun _ => 0)) (k : ∀ μ', mN μ' = t + 38 → MI t S0 μ' → (∀ q, q < t → same q ν μ') → K none μ') : Cl E M_X10_init [.ref t] μ0 K := by
  have mk0 := o0.2.1
  refine Cl.of (nn := 1) pn_X10 (Nat.le_of_ble_eq_true rfl) rfl ?_
  refine e_al0 1 rfl dX10_init_0 ?_
  refine e_obj 4 rfl dX10_init_1 k_X10_1 (Nat.le_of_ble_eq_true rfl) (Nat.le_of_ble_eq_true rfl) ?_
  refine e_al0 5 rfl dX10_init_4 ?_
  refine e_sipush (nI 400) 8 rfl dX10_init_5 sc_400 ?_
  refine e_newaB 36 26557 10 rfl dX10_init_8 (Or.inr (Or.inl ⟨rfl, rfl⟩)) ac_int rfl (by decide) rfl rfl ?_
  have n0 := o0.mkN 13 400
  refine e_putR 13 rfl dX10_init_10 f_X10_7 (by assumption) rfl rfl (fun _ => ⟨rfl, rfl⟩) ?_
  have o1 := o0.na 13 400 0
  generalize sP (sN μ0 13 400) t 0 (some (mN μ0)) = μ1 at o1 ⊢
  clear n0
  have mk1 := o1.2.1
  clear mk0 o0
  refine e_al0 14 rfl dX10_init_13 ?_
  refine e_bipush (nI 80) 16 rfl dX10_init_14 bc_80 ?_
  refine e_newaB 35 26477 18 rfl dX10_init_16 (Or.inr (Or.inl ⟨rfl, rfl⟩)) ac_int rfl (by decide) rfl rfl ?_
  have n1 := o1.mkN 13 80
  refine e_putR 21 rfl dX10_init_18 f_X10_13 (by assumption) rfl rfl (fun _ => ⟨rfl, rfl⟩) ?_
  have o2 := o1.na 13 80 4
  generalize sP (sN μ1 13 80) t 4 (some (mN μ1)) = μ2 at o2 ⊢
  clear n1
  have mk2 := o2.2.1
  clear mk1 o1
  refine e_al0 22 rfl dX10_init_21 ?_
  refine e_bipush (nI 80) 24 rfl dX10_init_22 bc_80 ?_
  refine e_newaB 34 26397 26 rfl dX10_init_24 (Or.inr (Or.inl ⟨rfl, rfl⟩)) ac_int rfl (by decide) rfl rfl ?_
  have n2 := o2.mkN 13 80
  refine e_putR 29 rfl dX10_init_26 f_X10_16 (by assumption) rfl rfl (fun _ => ⟨rfl, rfl⟩) ?_
  have o3 := o2.na 13 80 5
  generalize sP (sN μ2 13 80) t 5 (some (mN μ2)) = μ3 at o3 ⊢
  clear n2
  have mk3 := o3.2.1
  clear mk2 o2
  refine e_al0 30 rfl dX10_init_29 ?_
  refine e_bipush (nI 80) 32 rfl dX10_init_30 bc_80 ?_
  refine e_newaB 33 26317 34 rfl dX10_init_32 (Or.inr (Or.inl ⟨rfl, rfl⟩)) ac_int rfl (by decide) rfl rfl ?_
  have n3 := o3.mkN 13 80
  refine e_putR 37 rfl dX10_init_34 f_X10_19 (by assumption) rfl rfl (fun _ => ⟨rfl, rfl⟩) ?_
  have o4 := o3.na 13 80 6
  generalize sP (sN μ3 13 80) t 6 (some (mN μ3)) = μ4 at o4 ⊢
  clear n3
  have mk4 := o4.2.1
  clear mk3 o3
  refine e_al0 38 rfl dX10_init_37 ?_
  refine e_sipush (nI 1680) 41 rfl dX10_init_38 sc_1680 ?_
  refine e_newaB 32 24637 43 rfl dX10_init_41 (Or.inr (Or.inl ⟨rfl, rfl⟩)) ac_int rfl (by decide) rfl rfl ?_
  have n4 := o4.mkN 13 1680
  refine e_putR 46 rfl dX10_init_43 f_X10_22 (by assumption) rfl rfl (fun _ => ⟨rfl, rfl⟩) ?_
  have o5 := o4.na 13 1680 7
  generalize sP (sN μ4 13 1680) t 7 (some (mN μ4)) = μ5 at o5 ⊢
  clear n4
  have mk5 := o5.2.1
  clear mk4 o4
  refine e_al0 47 rfl dX10_init_46 ?_
  refine e_bipush (nI 6) 49 rfl dX10_init_47 bc_6 ?_
  refine e_newaB 31 24631 51 rfl dX10_init_49 (Or.inr (Or.inr (Or.inr ⟨rfl, rfl⟩))) ac_boolean rfl (by decide) rfl rfl ?_
  have n5 := o5.mkN 15 6
  refine e_putR 54 rfl dX10_init_51 f_X10_25 (by assumption) rfl rfl (fun _ => ⟨rfl, rfl⟩) ?_
  have o6 := o5.na 15 6 8
  generalize sP (sN μ5 15 6) t 8 (some (mN μ5)) = μ6 at o6 ⊢
  clear n5
  have mk6 := o6.2.1
  clear mk5 o5
  refine e_al0 55 rfl dX10_init_54 ?_
  refine e_bipush (nI 6) 57 rfl dX10_init_55 bc_6 ?_
  refine e_newaB 30 24625 59 rfl dX10_init_57 (Or.inr (Or.inl ⟨rfl, rfl⟩)) ac_int rfl (by decide) rfl rfl ?_
  have n6 := o6.mkN 13 6
  refine e_putR 62 rfl dX10_init_59 f_X10_29 (by assumption) rfl rfl (fun _ => ⟨rfl, rfl⟩) ?_
  have o7 := o6.na 13 6 9
  generalize sP (sN μ6 13 6) t 9 (some (mN μ6)) = μ7 at o7 ⊢
  clear n6
  have mk7 := o7.2.1
  clear mk6 o6
  refine e_al0 63 rfl dX10_init_62 ?_
  refine e_bipush (nI 48) 65 rfl dX10_init_63 bc_48 ?_
  refine e_newaB 29 24577 67 rfl dX10_init_65 (Or.inr (Or.inl ⟨rfl, rfl⟩)) ac_int rfl (by decide) rfl rfl ?_
  have n7 := o7.mkN 13 48
  refine e_putR 70 rfl dX10_init_67 f_X10_32 (by assumption) rfl rfl (fun _ => ⟨rfl, rfl⟩) ?_
  have o8 := o7.na 13 48 10
  generalize sP (sN μ7 13 48) t 10 (some (mN μ7)) = μ8 at o8 ⊢
  clear n7
  have mk8 := o8.2.1
  clear mk7 o7
  refine e_al0 71 rfl dX10_init_70 ?_
  refine e_bipush (nI 48) 73 rfl dX10_init_71 bc_48 ?_
  refine e_newaB 28 24529 75 rfl dX10_init_73 (Or.inr (Or.inl ⟨rfl, rfl⟩)) ac_int rfl (by decide) rfl rfl ?_
  have n8 := o8.mkN 13 48
  refine e_putR 78 rfl dX10_init_75 f_X10_35 (by assumption) rfl rfl (fun _ => ⟨rfl, rfl⟩) ?_
  have o9 := o8.na 13 48 11
  generalize sP (sN μ8 13 48) t 11 (some (mN μ8)) = μ9 at o9 ⊢
  clear n8
  have mk9 := o9.2.1
  clear mk8 o8
  refine e_al0 79 rfl dX10_init_78 ?_
  refine e_bipush (nI 6) 81 rfl dX10_init_79 bc_6 ?_
  refine e_newaB 27 24523 83 rfl dX10_init_81 (Or.inr (Or.inl ⟨rfl, rfl⟩)) ac_int rfl (by decide) rfl rfl ?_
  have n9 := o9.mkN 13 6
  refine e_putR 86 rfl dX10_init_83 f_X10_38 (by assumption) rfl rfl (fun _ => ⟨rfl, rfl⟩) ?_
  have o10 := o9.na 13 6 12
  generalize sP (sN μ9 13 6) t 12 (some (mN μ9)) = μ10 at o10 ⊢
  clear n9
  have mk10 := o10.2.1
  clear mk9 o9
  refine e_al0 87 rfl dX10_init_86 ?_
  refine e_bipush (nI 42) 89 rfl dX10_init_87 bc_42 ?_
  refine e_newaB 26 24481 91 rfl dX10_init_89 (Or.inr (Or.inl ⟨rfl, rfl⟩)) ac_int rfl (by decide) rfl rfl ?_
  have n10 := o10.mkN 13 42
  refine e_putR 94 rfl dX10_init_91 f_X10_41 (by assumption) rfl rfl (fun _ => ⟨rfl, rfl⟩) ?_
  have o11 := o10.na 13 42 13
  generalize sP (sN μ10 13 42) t 13 (some (mN μ10)) = μ11 at o11 ⊢
  clear n10
  have mk11 := o11.2.1
  clear mk10 o10
  refine e_al0 95 rfl dX10_init_94 ?_
  refine e_bipush (nI 6) 97 rfl dX10_init_95 bc_6 ?_
  refine e_newaB 25 24475 99 rfl dX10_init_97 (Or.inr (Or.inl ⟨rfl, rfl⟩)) ac_int rfl (by decide) rfl rfl ?_
  have n11 := o11.mkN 13 6
  refine e_putR 102 rfl dX10_init_99 f_X10_44 (by assumption) rfl rfl (fun _ => ⟨rfl, rfl⟩) ?_
  have o12 := o11.na 13 6 14
  generalize sP (sN μ11 13 6) t 14 (some (mN μ11)) = μ12 at o12 ⊢
  clear n11
  have mk12 := o12.2.1
  clear mk11 o11
  refine e_al0 103 rfl dX10_init_102 ?_
  refine e_bipush (nI 42) 105 rfl dX10_init_103 bc_42 ?_
  refine e_newaB 24 24433 107 rfl dX10_init_105 (Or.inr (Or.inl ⟨rfl, rfl⟩)) ac_int rfl (by decide) rfl rfl ?_
  have n12 := o12.mkN 13 42
  refine e_putR 110 rfl dX10_init_107 f_X10_47 (by assumption) rfl rfl (fun _ => ⟨rfl, rfl⟩) ?_
  have o13 := o12.na 13 42 15
  generalize sP (sN μ12 13 42) t 15 (some (mN μ12)) = μ13 at o13 ⊢
  clear n12
  have mk13 := o13.2.1
  clear mk12 o12
  refine e_al0 111 rfl dX10_init_110 ?_
  refine e_bipush (nI 6) 113 rfl dX10_init_111 bc_6 ?_
  refine e_newaB 23 24427 115 rfl dX10_init_113 (Or.inr (Or.inl ⟨rfl, rfl⟩)) ac_int rfl (by decide) rfl rfl ?_
  have n13 := o13.mkN 13 6
  refine e_putR 118 rfl dX10_init_115 f_X10_50 (by assumption) rfl rfl (fun _ => ⟨rfl, rfl⟩) ?_
  have o14 := o13.na 13 6 16
  generalize sP (sN μ13 13 6) t 16 (some (mN μ13)) = μ14 at o14 ⊢
  clear n13
  have mk14 := o14.2.1
  clear mk13 o13
  refine e_al0 119 rfl dX10_init_118 ?_
  refine e_bipush (nI 36) 121 rfl dX10_init_119 bc_36 ?_
  refine e_newaB 22 24391 123 rfl dX10_init_121 (Or.inr (Or.inl ⟨rfl, rfl⟩)) ac_int rfl (by decide) rfl rfl ?_
  have n14 := o14.mkN 13 36
  refine e_putR 126 rfl dX10_init_123 f_X10_53 (by assumption) rfl rfl (fun _ => ⟨rfl, rfl⟩) ?_
  have o15 := o14.na 13 36 17
  generalize sP (sN μ14 13 36) t 17 (some (mN μ14)) = μ15 at o15 ⊢
  clear n14
  have mk15 := o15.2.1
  clear mk14 o14
  refine e_al0 127 rfl dX10_init_126 ?_
  refine e_iconst (-1) 128 rfl dX10_init_127 ic_m1 ?_
  refine e_putI 131 rfl dX10_init_128 f_X10_56 (by assumption) ?_
  have o16 := o15.sF 19 (-1)
  generalize sF μ15 t 19 (-1) = μ16 at o16 ⊢
  have mk16 := o16.2.1
  clear mk15 o15
  refine e_al0 132 rfl dX10_init_131 ?_
  refine e_bipush (nI 30) 134 rfl dX10_init_132 bc_30 ?_
  refine e_newaB 21 24361 136 rfl dX10_init_134 (Or.inr (Or.inl ⟨rfl, rfl⟩)) ac_int rfl (by decide) rfl rfl ?_
  have n16 := o16.mkN 13 30
  refine e_putR 139 rfl dX10_init_136 f_X10_60 (by assumption) rfl rfl (fun _ => ⟨rfl, rfl⟩) ?_
  have o17 := o16.na 13 30 21
  generalize sP (sN μ16 13 30) t 21 (some (mN μ16)) = μ17 at o17 ⊢
  clear n16
  have mk17 := o17.2.1
  clear mk16 o16
  refine e_al0 140 rfl dX10_init_139 ?_
  refine e_bipush (nI 30) 142 rfl dX10_init_140 bc_30 ?_
  refine e_newaB 20 24331 144 rfl dX10_init_142 (Or.inr (Or.inl ⟨rfl, rfl⟩)) ac_int rfl (by decide) rfl rfl ?_
  have n17 := o17.mkN 13 30
  refine e_putR 147 rfl dX10_init_144 f_X10_63 (by assumption) rfl rfl (fun _ => ⟨rfl, rfl⟩) ?_
  have o18 := o17.na 13 30 22
  generalize sP (sN μ17 13 30) t 22 (some (mN μ17)) = μ18 at o18 ⊢
  clear n17
  have mk18 := o18.2.1
  clear mk17 o17
  refine e_al0 148 rfl dX10_init_147 ?_
  refine e_sipush (nI 5040) 151 rfl dX10_init_148 sc_5040 ?_
  refine e_newaB 19 19291 153 rfl dX10_init_151 (Or.inr (Or.inl ⟨rfl, rfl⟩)) ac_int rfl (by decide) rfl rfl ?_
  have n18 := o18.mkN 13 5040
  refine e_putR 156 rfl dX10_init_153 f_X10_66 (by assumption) rfl rfl (fun _ => ⟨rfl, rfl⟩) ?_
  have o19 := o18.na 13 5040 23
  generalize sP (sN μ18 13 5040) t 23 (some (mN μ18)) = μ19 at o19 ⊢
  clear n18
  have mk19 := o19.2.1
  clear mk18 o18
  refine e_al0 157 rfl dX10_init_156 ?_
  refine e_sipush (nI 240) 160 rfl dX10_init_157 sc_240 ?_
  refine e_newaB 18 19051 162 rfl dX10_init_160 (Or.inr (Or.inl ⟨rfl, rfl⟩)) ac_int rfl (by decide) rfl rfl ?_
  have n19 := o19.mkN 13 240
  refine e_putR 165 rfl dX10_init_162 f_X10_69 (by assumption) rfl rfl (fun _ => ⟨rfl, rfl⟩) ?_
  have o20 := o19.na 13 240 24
  generalize sP (sN μ19 13 240) t 24 (some (mN μ19)) = μ20 at o20 ⊢
  clear n19
  have mk20 := o20.2.1
  clear mk19 o19
  refine e_al0 166 rfl dX10_init_165 ?_
  refine e_sipush (nI 5040) 169 rfl dX10_init_166 sc_5040 ?_
  refine e_newaB 17 14011 171 rfl dX10_init_169 (Or.inr (Or.inl ⟨rfl, rfl⟩)) ac_int rfl (by decide) rfl rfl ?_
  have n20 := o20.mkN 13 5040
  refine e_putR 174 rfl dX10_init_171 f_X10_72 (by assumption) rfl rfl (fun _ => ⟨rfl, rfl⟩) ?_
  have o21 := o20.na 13 5040 25
  generalize sP (sN μ20 13 5040) t 25 (some (mN μ20)) = μ21 at o21 ⊢
  clear n20
  have mk21 := o21.2.1
  clear mk20 o20
  refine e_al0 175 rfl dX10_init_174 ?_
  refine e_sipush (nI 240) 178 rfl dX10_init_175 sc_240 ?_
  refine e_newaB 16 13771 180 rfl dX10_init_178 (Or.inr (Or.inl ⟨rfl, rfl⟩)) ac_int rfl (by decide) rfl rfl ?_
  have n21 := o21.mkN 13 240
  refine e_putR 183 rfl dX10_init_180 f_X10_75 (by assumption) rfl rfl (fun _ => ⟨rfl, rfl⟩) ?_
  have o22 := o21.na 13 240 26
  generalize sP (sN μ21 13 240) t 26 (some (mN μ21)) = μ22 at o22 ⊢
  clear n21
  have mk22 := o22.2.1
  clear mk21 o21
  refine e_al0 184 rfl dX10_init_183 ?_
  refine e_bipush (nI 78) 186 rfl dX10_init_184 bc_78 ?_
  refine e_newaB 15 13693 188 rfl dX10_init_186 (Or.inr (Or.inl ⟨rfl, rfl⟩)) ac_int rfl (by decide) rfl rfl ?_
  have n22 := o22.mkN 13 78
  refine e_putR 191 rfl dX10_init_188 f_X10_78 (by assumption) rfl rfl (fun _ => ⟨rfl, rfl⟩) ?_
  have o23 := o22.na 13 78 27
  generalize sP (sN μ22 13 78) t 27 (some (mN μ22)) = μ23 at o23 ⊢
  clear n22
  have mk23 := o23.2.1
  clear mk22 o22
  refine e_al0 192 rfl dX10_init_191 ?_
  refine e_bipush (nI 26) 194 rfl dX10_init_192 bc_26 ?_
  refine e_newaB 14 13667 196 rfl dX10_init_194 (Or.inr (Or.inl ⟨rfl, rfl⟩)) ac_int rfl (by decide) rfl rfl ?_
  have n23 := o23.mkN 13 26
  refine e_putR 199 rfl dX10_init_196 f_X10_81 (by assumption) rfl rfl (fun _ => ⟨rfl, rfl⟩) ?_
  have o24 := o23.na 13 26 28
  generalize sP (sN μ23 13 26) t 28 (some (mN μ23)) = μ24 at o24 ⊢
  clear n23
  have mk24 := o24.2.1
  clear mk23 o23
  refine e_al0 200 rfl dX10_init_199 ?_
  refine e_bipush (nI 8) 202 rfl dX10_init_200 bc_8 ?_
  refine e_newaB 13 13659 204 rfl dX10_init_202 (Or.inr (Or.inl ⟨rfl, rfl⟩)) ac_int rfl (by decide) rfl rfl ?_
  have n24 := o24.mkN 13 8
  refine e_putR 207 rfl dX10_init_204 f_X10_84 (by assumption) rfl rfl (fun _ => ⟨rfl, rfl⟩) ?_
  have o25 := o24.na 13 8 32
  generalize sP (sN μ24 13 8) t 32 (some (mN μ24)) = μ25 at o25 ⊢
  clear n24
  have mk25 := o25.2.1
  clear mk24 o24
  refine e_al0 208 rfl dX10_init_207 ?_
  refine e_bipush (nI 8) 210 rfl dX10_init_208 bc_8 ?_
  refine e_newaB 12 13651 212 rfl dX10_init_210 (Or.inr (Or.inl ⟨rfl, rfl⟩)) ac_int rfl (by decide) rfl rfl ?_
  have n25 := o25.mkN 13 8
  refine e_putR 215 rfl dX10_init_212 f_X10_87 (by assumption) rfl rfl (fun _ => ⟨rfl, rfl⟩) ?_
  have o26 := o25.na 13 8 33
  generalize sP (sN μ25 13 8) t 33 (some (mN μ25)) = μ26 at o26 ⊢
  clear n25
  have mk26 := o26.2.1
  clear mk25 o25
  refine e_al0 216 rfl dX10_init_215 ?_
  refine e_bipush (nI 14) 218 rfl dX10_init_216 bc_14 ?_
  refine e_newaB 11 13637 220 rfl dX10_init_218 (Or.inr (Or.inl ⟨rfl, rfl⟩)) ac_int rfl (by decide) rfl rfl ?_
  have n26 := o26.mkN 13 14
  refine e_putR 223 rfl dX10_init_220 f_X10_90 (by assumption) rfl rfl (fun _ => ⟨rfl, rfl⟩) ?_
  have o27 := o26.na 13 14 34
  generalize sP (sN μ26 13 14) t 34 (some (mN μ26)) = μ27 at o27 ⊢
  clear n26
  have mk27 := o27.2.1
  clear mk26 o26
  refine e_al0 224 rfl dX10_init_223 ?_
  refine e_iconst (nI 2) 225 rfl dX10_init_224 ic_2 ?_
  refine e_newaB 10 13635 227 rfl dX10_init_225 (Or.inr (Or.inl ⟨rfl, rfl⟩)) ac_int rfl (by decide) rfl rfl ?_
  have n27 := o27.mkN 13 2
  refine e_putR 230 rfl dX10_init_227 f_X10_93 (by assumption) rfl rfl (fun _ => ⟨rfl, rfl⟩) ?_
  have o28 := o27.na 13 2 35
  generalize sP (sN μ27 13 2) t 35 (some (mN μ27)) = μ28 at o28 ⊢
  clear n27
  have mk28 := o28.2.1
  clear mk27 o27
  refine e_al0 231 rfl dX10_init_230 ?_
  refine e_bipush (nI 6) 233 rfl dX10_init_231 bc_6 ?_
  refine e_newaB 9 13629 235 rfl dX10_init_233 (Or.inr (Or.inl ⟨rfl, rfl⟩)) ac_int rfl (by decide) rfl rfl ?_
  have n28 := o28.mkN 13 6
  refine e_putR 238 rfl dX10_init_235 f_X10_96 (by assumption) rfl rfl (fun _ => ⟨rfl, rfl⟩) ?_
  have o29 := o28.na 13 6 37
  generalize sP (sN μ28 13 6) t 37 (some (mN μ28)) = μ29 at o29 ⊢
  clear n28
  have mk29 := o29.2.1
  clear mk28 o28
  refine e_al0 239 rfl dX10_init_238 ?_
  refine e_bipush (nI 24) 241 rfl dX10_init_239 bc_24 ?_
  refine e_newaB 8 13605 243 rfl dX10_init_241 (Or.inr (Or.inl ⟨rfl, rfl⟩)) ac_int rfl (by decide) rfl rfl ?_
  have n29 := o29.mkN 13 24
  refine e_putR 246 rfl dX10_init_243 f_X10_99 (by assumption) rfl rfl (fun _ => ⟨rfl, rfl⟩) ?_
  have o30 := o29.na 13 24 38
  generalize sP (sN μ29 13 24) t 38 (some (mN μ29)) = μ30 at o30 ⊢
  clear n29
  have mk30 := o30.2.1
  clear mk29 o29
  refine e_al0 247 rfl dX10_init_246 ?_
  refine e_bipush (nI 56) 249 rfl dX10_init_247 bc_56 ?_
  refine e_newaB 7 13549 251 rfl dX10_init_249 (Or.inr (Or.inl ⟨rfl, rfl⟩)) ac_int rfl (by decide) rfl rfl ?_
  have n30 := o30.mkN 13 56
  refine e_putR 254 rfl dX10_init_251 f_X10_102 (by assumption) rfl rfl (fun _ => ⟨rfl, rfl⟩) ?_
  have o31 := o30.na 13 56 40
  generalize sP (sN μ30 13 56) t 40 (some (mN μ30)) = μ31 at o31 ⊢
  clear n30
  have mk31 := o31.2.1
  clear mk30 o30
  refine e_al0 255 rfl dX10_init_254 ?_
  refine e_bipush (nI 9) 257 rfl dX10_init_255 bc_9 ?_
  refine e_newaB 6 13540 259 rfl dX10_init_257 (Or.inr (Or.inl ⟨rfl, rfl⟩)) ac_int rfl (by decide) rfl rfl ?_
  have n31 := o31.mkN 13 9
  refine e_putR 262 rfl dX10_init_259 f_X10_105 (by assumption) rfl rfl (fun _ => ⟨rfl, rfl⟩) ?_
  have o32 := o31.na 13 9 41
  generalize sP (sN μ31 13 9) t 41 (some (mN μ31)) = μ32 at o32 ⊢
  clear n31
  have mk32 := o32.2.1
  clear mk31 o31
  refine e_al0 263 rfl dX10_init_262 ?_
  refine e_sipush (nI 6500) 266 rfl dX10_init_263 sc_6500 ?_
  refine e_newaB 5 7040 268 rfl dX10_init_266 (Or.inr (Or.inl ⟨rfl, rfl⟩)) ac_int rfl (by decide) rfl rfl ?_
  have n32 := o32.mkN 13 6500
  refine e_putR 271 rfl dX10_init_268 f_X10_108 (by assumption) rfl rfl (fun _ => ⟨rfl, rfl⟩) ?_
  have o33 := o32.na 13 6500 42
  generalize sP (sN μ32 13 6500) t 42 (some (mN μ32)) = μ33 at o33 ⊢
  clear n32
  have mk33 := o33.2.1
  clear mk32 o32
  refine e_al0 272 rfl dX10_init_271 ?_
  refine e_sipush (nI 6500) 275 rfl dX10_init_272 sc_6500 ?_
  refine e_newaB 4 540 277 rfl dX10_init_275 (Or.inr (Or.inl ⟨rfl, rfl⟩)) ac_int rfl (by decide) rfl rfl ?_
  have n33 := o33.mkN 13 6500
  refine e_putR 280 rfl dX10_init_277 f_X10_111 (by assumption) rfl rfl (fun _ => ⟨rfl, rfl⟩) ?_
  have o34 := o33.na 13 6500 43
  generalize sP (sN μ33 13 6500) t 43 (some (mN μ33)) = μ34 at o34 ⊢
  clear n33
  have mk34 := o34.2.1
  clear mk33 o33
  refine e_al0 281 rfl dX10_init_280 ?_
  refine e_sipush (nI 240) 284 rfl dX10_init_281 sc_240 ?_
  refine e_newaB 3 300 286 rfl dX10_init_284 (Or.inr (Or.inl ⟨rfl, rfl⟩)) ac_int rfl (by decide) rfl rfl ?_
  have n34 := o34.mkN 13 240
  refine e_putR 289 rfl dX10_init_286 f_X10_114 (by assumption) rfl rfl (fun _ => ⟨rfl, rfl⟩) ?_
  have o35 := o34.na 13 240 45
  generalize sP (sN μ34 13 240) t 45 (some (mN μ34)) = μ35 at o35 ⊢
  clear n34
  have mk35 := o35.2.1
  clear mk34 o34
  refine e_al0 290 rfl dX10_init_289 ?_
  refine e_bipush (nI 30) 292 rfl dX10_init_290 bc_30 ?_
  refine e_newaB 2 270 294 rfl dX10_init_292 (Or.inr (Or.inr (Or.inr ⟨rfl, rfl⟩))) ac_boolean rfl (by decide) rfl rfl ?_
  have n35 := o35.mkN 15 30
  refine e_putR 297 rfl dX10_init_294 f_X10_117 (by assumption) rfl rfl (fun _ => ⟨rfl, rfl⟩) ?_
  have o36 := o35.na 15 30 46
  generalize sP (sN μ35 15 30) t 46 (some (mN μ35)) = μ36 at o36 ⊢
  clear n35
  have mk36 := o36.2.1
  clear mk35 o35
  refine e_al0 298 rfl dX10_init_297 ?_
  refine e_sipush (nI 240) 301 rfl dX10_init_298 sc_240 ?_
  refine e_newaB 1 30 303 rfl dX10_init_301 (Or.inr (Or.inl ⟨rfl, rfl⟩)) ac_int rfl (by decide) rfl rfl ?_
  have n36 := o36.mkN 13 240
  refine e_putR 306 rfl dX10_init_303 f_X10_120 (by assumption) rfl rfl (fun _ => ⟨rfl, rfl⟩) ?_
  have o37 := o36.na 13 240 47
  generalize sP (sN μ36 13 240) t 47 (some (mN μ36)) = μ37 at o37 ⊢
  clear n36
  have mk37 := o37.2.1
  clear mk36 o36
  refine e_al0 307 rfl dX10_init_306 ?_
  refine e_bipush (nI 30) 309 rfl dX10_init_307 bc_30 ?_
  refine e_newaB 0 0 311 rfl dX10_init_309 (Or.inr (Or.inl ⟨rfl, rfl⟩)) ac_int rfl (by decide) rfl rfl ?_
  have n37 := o37.mkN 13 30
  refine e_putR 314 rfl dX10_init_311 f_X10_123 (by assumption) rfl rfl (fun _ => ⟨rfl, rfl⟩) ?_
  have o38 := o37.na 13 30 48
  generalize sP (sN μ37 13 30) t 48 (some (mN μ37)) = μ38 at o38 ⊢
  clear n37
  have mk38 := o38.2.1
  clear mk37 o37
  obtain ⟨h1, h2, h3, h4, h5, h6⟩ := id o38
  have hMg : Mg μ38 t := ⟨h2, ⟨by rw [h3]; rfl, (h5 0 (13, 400) rfl).1, (h5 0 (13, 400) rfl).2.1⟩, ⟨by rw [h3]; rfl, (h5 1 (13, 80) rfl).1, (h5 1 (13, 80) rfl).2.1⟩, ⟨by rw [h3]; rfl, (h5 2 (13, 80) rfl).1, (h5 2 (13, 80) rfl).2.1⟩, ⟨by rw [h3]; rfl, (h5 3 (13, 80) rfl).1, (h5 3 (13, 80) rfl).2.1⟩, ⟨by rw [h3]; rfl, (h5 4 (13, 1680) rfl).1, (h5 4 (13, 1680) rfl).2.1⟩, ⟨by rw [h3]; rfl, (h5 5 (15, 6) rfl).1, (h5 5 (15, 6) rfl).2.1⟩, ⟨by rw [h3]; rfl, (h5 6 (13, 6) rfl).1, (h5 6 (13, 6) rfl).2.1⟩, ⟨by rw [h3]; rfl, (h5 7 (13, 48) rfl).1, (h5 7 (13, 48) rfl).2.1⟩, ⟨by rw [h3]; rfl, (h5 8 (13, 48) rfl).1, (h5 8 (13, 48) rfl).2.1⟩, ⟨by rw [h3]; rfl, (h5 9 (13, 6) rfl).1, (h5 9 (13, 6) rfl).2.1⟩, ⟨by rw [h3]; rfl, (h5 10 (13, 42) rfl).1, (h5 10 (13, 42) rfl).2.1⟩, ⟨by rw [h3]; rfl, (h5 11 (13, 6) rfl).1, (h5 11 (13, 6) rfl).2.1⟩, ⟨by rw [h3]; rfl, (h5 12 (13, 42) rfl).1, (h5 12 (13, 42) rfl).2.1⟩, ⟨by rw [h3]; rfl, (h5 13 (13, 6) rfl).1, (h5 13 (13, 6) rfl).2.1⟩, ⟨by rw [h3]; rfl, (h5 14 (13, 36) rfl).1, (h5 14 (13, 36) rfl).2.1⟩, ⟨by rw [h3]; rfl, (h5 15 (13, 30) rfl).1, (h5 15 (13, 30) rfl).2.1⟩, ⟨by rw [h3]; rfl, (h5 16 (13, 30) rfl).1, (h5 16 (13, 30) rfl).2.1⟩, ⟨by rw [h3]; rfl, (h5 17 (13, 5040) rfl).1, (h5 17 (13, 5040) rfl).2.1⟩, ⟨by rw [h3]; rfl, (h5 18 (13, 240) rfl).1, (h5 18 (13, 240) rfl).2.1⟩, ⟨by rw [h3]; rfl, (h5 19 (13, 5040) rfl).1, (h5 19 (13, 5040) rfl).2.1⟩, ⟨by rw [h3]; rfl, (h5 20 (13, 240) rfl).1, (h5 20 (13, 240) rfl).2.1⟩, ⟨by rw [h3]; rfl, (h5 21 (13, 78) rfl).1, (h5 21 (13, 78) rfl).2.1⟩, ⟨by rw [h3]; rfl, (h5 22 (13, 26) rfl).1, (h5 22 (13, 26) rfl).2.1⟩, ⟨by rw [h3]; rfl, (h5 23 (13, 8) rfl).1, (h5 23 (13, 8) rfl).2.1⟩, ⟨by rw [h3]; rfl, (h5 24 (13, 8) rfl).1, (h5 24 (13, 8) rfl).2.1⟩, ⟨by rw [h3]; rfl, (h5 25 (13, 14) rfl).1, (h5 25 (13, 14) rfl).2.1⟩, ⟨by rw [h3]; rfl, (h5 26 (13, 2) rfl).1, (h5 26 (13, 2) rfl).2.1⟩, ⟨by rw [h3]; rfl, (h5 27 (13, 6) rfl).1, (h5 27 (13, 6) rfl).2.1⟩, ⟨by rw [h3]; rfl, (h5 28 (13, 24) rfl).1, (h5 28 (13, 24) rfl).2.1⟩, ⟨by rw [h3]; rfl, (h5 29 (13, 56) rfl).1, (h5 29 (13, 56) rfl).2.1⟩, ⟨by rw [h3]; rfl, (h5 30 (13, 9) rfl).1, (h5 30 (13, 9) rfl).2.1⟩, ⟨by rw [h3]; rfl, (h5 31 (13, 6500) rfl).1, (h5 31 (13, 6500) rfl).2.1⟩, ⟨by rw [h3]; rfl, (h5 32 (13, 6500) rfl).1, (h5 32 (13, 6500) rfl).2.1⟩, ⟨by rw [h3]; rfl, (h5 33 (13, 240) rfl).1, (h5 33 (13, 240) rfl).2.1⟩, ⟨by rw [h3]; rfl, (h5 34 (15, 30) rfl).1, (h5 34 (15, 30) rfl).2.1⟩, ⟨by rw [h3]; rfl, (h5 35 (13, 240) rfl).1, (h5 35 (13, 240) rfl).2.1⟩, ⟨by rw [h3]; rfl, (h5 36 (13, 30) rfl).1, (h5 36 (13, 30) rfl).2.1⟩⟩
  have cB : cell0 μ38 (t + 6) 15 6 := h5 5 (15, 6) rfl
  have hf : mF μ38 t 1 = nI 0 ∧ mF μ38 t 3 = nI 0 ∧ mF μ38 t 18 = nI 0 ∧ mF μ38 t 19 = -1 ∧ mF μ38 t 20 = nI 0 := by rw [h4]; exact ⟨rfl, rfl, rfl, rfl, rfl⟩
  clear h3 h4 h5 o38
  refine e_iconst (nI 0) 315 rfl dX10_init_314 ic_0 ?_
  refine e_is1 316 rfl dX10_init_315 (by decide) rfl ?_
  have loop : ∀ (fu i : Nat), i + fu = 26 → ∀ μ', Fr (fun q => q = t + 22 ∨ q = t + 23) μ38 μ' → (∀ j, j < i → mA μ' (t + 22) (3 * j) = nI (97 + j) ∧ mA μ' (t + 23) j = nI 1) → Ev E M_X10_init 0 0 316 [some (.ref t), some (.int (nI i))] [] μ' K := by
    intro fu
    induction fu with
    | zero =>
      intro i hi μ' hF hI
      have fm : mF μ' t = mF μ38 t := (hF.2.2.2.2.2 t (by omega)).1
      refine e_il1 317 rfl dX10_init_316 ?_
      refine e_bipush (nI 26) 319 rfl dX10_init_317 bc_26 ?_
      first | refine e_cmp_geN 347 322 (by decide) rfl dX10_init_319 rfl rfl (by omega) (by omega) (fun y1 => ?_) (fun y1 => ?_) | refine e_cmp_ge 347 322 (by decide) rfl dX10_init_319 (fun y1 => ?_) (fun y1 => ?_)
      rotate_left
      · omega
      refine e_ret dX10_init_347 rfl ?_
      refine k μ' (by rw [hF.1, h1]; rfl) ⟨hMg.fr hF, ⟨by rw [fm]; exact hf.1, Hd.nil⟩, ⟨[], List.Perm.refl _, by rw [fm]; exact hf.2.1, fun i e he => by simp at he⟩, fun l hl => ⟨?_, fun x hx => by cases hx⟩, ⟨by rw [fm]; exact hf.2.2.1, by rw [fm]; exact hf.2.2.2.1⟩, ⟨by rw [fm]; exact hf.2.2.2.2, fun i nm he => by have he' : ([] : List Nm)[i]? = some nm := he; simp at he'⟩, fun j hj => ?_⟩ (fun q hq => (h6 q hq).trans (hF.same (by omega)))
      · rw [(hF.2.2.2.2.2 (t + 6) (by omega)).2.1, cB.2.2.2.1]; rfl
      · obtain ⟨a1, a2⟩ := hI j (by omega)
        refine ⟨a2, fun r c hr => ?_⟩
        have hr' : [97 + j][r]? = some c := hr
        have hr0 : r = 0 := by have := (List.getElem?_eq_some_iff.mp hr').1; simp at this; omega
        subst hr0
        have : 97 + j = c := by simpa using hr'
        show mA μ' (t + 22) (3 * j + 0) = nI c
        rw [← this]; exact a1
    | succ fu ih =>
      intro i hi μ' hF hI
      have hg := hMg.fr hF
      have gk := hg.1
      obtain ⟨pb, kb, lb⟩ := hg.becomes
      obtain ⟨pz, kz, lz⟩ := hg.becomesSize
      refine e_il1 317 rfl dX10_init_316 ?_
      refine e_bipush (nI 26) 319 rfl dX10_init_317 bc_26 ?_
      first | refine e_cmp_geN 347 322 (by decide) rfl dX10_init_319 rfl rfl (by omega) (by omega) (fun y1 => ?_) (fun y1 => ?_) | refine e_cmp_ge 347 322 (by decide) rfl dX10_init_319 (fun y1 => ?_) (fun y1 => ?_)
      · omega
      refine e_al0 323 rfl dX10_init_322 ?_
      refine e_getR 326 rfl dX10_init_323 f_X10_78 (by assumption) (by assumption) ?_
      refine e_iconst (nI 3) 327 rfl dX10_init_326 ic_3 ?_
      refine e_il1 328 rfl dX10_init_327 ?_
      first | refine e_imulN 329 rfl dX10_init_328 rfl rfl ?_ | refine e_imul 329 rfl dX10_init_328 ?_
      refine e_bipush (nI 97) 331 rfl dX10_init_329 bc_97 ?_
      refine e_il1 332 rfl dX10_init_331 ?_
      first | refine e_iaddN 333 rfl dX10_init_332 rfl rfl ?_ | refine e_iadd 333 rfl dX10_init_332 ?_
      refine e_iast 334 rfl dX10_init_333 (by assumption) (by assumption) (by first | rfl | simp only [pk_mul, nI_add]) (by omega) (by omega) ?_
      refine e_al0 335 rfl dX10_init_334 ?_
      refine e_getR 338 rfl dX10_init_335 f_X10_81 (by assumption) (by assumption) ?_
      refine e_il1 339 rfl dX10_init_338 ?_
      refine e_iconst (nI 1) 340 rfl dX10_init_339 ic_1 ?_
      refine e_iast 341 rfl dX10_init_340 (by assumption) (by assumption) (by first | rfl | simp only [pk_mul, nI_add]) (by omega) (by omega) ?_
      refine e_ii1 (nI (_ + 1)) 344 rfl dX10_init_341 (ii1 _) rfl ?_
      refine e_goto 316 (by decide) dX10_init_344 ?_
      refine ih (i + 1) (by omega) _ ((hF.sA (Or.inl rfl) _ _).sA (Or.inr rfl) _ _) (fun j hj => ?_)
      rw [sA_o (show t + 22 ≠ t + 23 by omega), sA_s, sA_s, sA_o (show t + 23 ≠ t + 22 by omega)]
      by_cases c : j = i
      · subst c; simp
      · simp only [if_neg c, if_neg (show 3 * j ≠ 3 * i by omega)]
        exact hI j (by omega)
  exact loop 26 0 (by omega) μ38 Fr.rf (fun j hj => by omega)
end CTOR2
