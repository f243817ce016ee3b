/-! constructors: book, name -/
section CTOR3
variable {E : En} {μ : Mm} {K : Option Value → Mm → Prop}
theorem Ob.wd {ν : Mm} {t : Nat} {P : Nat → Option Nat} {F : Nat → Int32} (h : Ob ν μ t 9 [(12, 21), (12, 20)] P F) (h0 : P 0 = some (t + 1)) (h2 : P 2 = some (t + 2)) : Wd μ t := by
  obtain ⟨g1, g2, g3, g4, g5, g6⟩ := h
  have c1 := g5 0 (12, 21) rfl
  have c2 := g5 1 (12, 20) rfl
  exact ⟨g2, by rw [g3]; exact h0, by rw [g3]; exact h2, c1.1, c1.2.1, c2.1, c2.2.1⟩
theorem Ob.ln {ν : Mm} {t : Nat} {P : Nat → Option Nat} {F : Nat → Int32} (h : Ob ν μ t 2 [(12, 488)] P F) (h0 : P 0 = some (t + 1)) : Ln μ t := by
  obtain ⟨g1, g2, g3, g4, g5, g6⟩ := h
  have c1 := g5 0 (12, 488) rfl
  exact ⟨g2, by rw [g3]; exact h0, c1.1, c1.2.1⟩
theorem Wd.sm {μ' : Mm} {a : Nat} (h : Wd μ a) (s : ∀ q, a ≤ q → q < a + 3 → same q μ μ') : Wd μ' a := by
  unfold Wd
  rw [(s a (by omega) (by omega)).1, (s a (by omega) (by omega)).2.2.2.2.2.2.1, (s (a + 1) (by omega) (by omega)).1, (s (a + 1) (by omega) (by omega)).2.1, (s (a + 2) (by omega) (by omega)).1, (s (a + 2) (by omega) (by omega)).2.1]
  exact h
theorem Ln.sm {μ' : Mm} {a : Nat} (h : Ln μ a) (s : ∀ q, a ≤ q → q < a + 2 → same q μ μ') : Ln μ' a := by
  unfold Ln
  rw [(s a (by omega) (by omega)).1, (s a (by omega) (by omega)).2.2.2.2.2.2.1, (s (a + 1) (by omega) (by omega)).1, (s (a + 1) (by omega) (by omega)).2.1]
  exact h
theorem i_book {ν μ0 : Mm} {t : Nat} (o0 : Ob ν μ0 t 1 [] (fun _ => none) (fun _ => 0)) (k : ∀ μ', mN μ' = t + 244 → Bk μ' t → Bc μ' t [] → (∀ q, q < t → same q ν μ') → K none μ') : Cl E M_X0_init [.ref t] μ0 K := by
  have mk0 := o0.2.1
  refine Cl.of (nn := 1) pn_X0 (Nat.le_of_ble_eq_true rfl) rfl ?_
  refine e_al0 1 rfl dX0_init_0 ?_
  refine e_obj 4 rfl dX0_init_1 k_X0_3 (Nat.le_of_ble_eq_true rfl) (Nat.le_of_ble_eq_true rfl) ?_
  refine e_al0 5 rfl dX0_init_4 ?_
  refine e_bipush (nI 80) 7 rfl dX0_init_5 bc_80 ?_
  refine e_newqB 242 3760 10 rfl dX0_init_7 (Or.inr (Or.inr ⟨rfl, rfl⟩)) cl_X0_9 rfl (by decide) rfl rfl ?_
  have n0 := o0.mkN 18 80
  refine e_putR 13 rfl dX0_init_10 f_X0_11 (by assumption) rfl rfl (fun _ => ⟨rfl, rfl⟩) ?_
  have o1 := o0.na 18 80 0
  generalize sP (sN μ0 18 80) t 0 (some (mN μ0)) = μ1 at o1 ⊢
  clear n0
  have mk1 := o1.2.1
  clear mk0 o0
  refine e_al0 14 rfl dX0_init_13 ?_
  refine e_bipush (nI 80) 16 rfl dX0_init_14 bc_80 ?_
  refine e_newaB 241 3680 18 rfl dX0_init_16 (Or.inr (Or.inl ⟨rfl, rfl⟩)) ac_int rfl (by decide) rfl rfl ?_
  have n1 := o1.mkN 13 80
  refine e_putR 21 rfl dX0_init_18 f_X0_17 (by assumption) rfl rfl (fun _ => ⟨rfl, rfl⟩) ?_
  have o2 := o1.na 13 80 1
  generalize sP (sN μ1 13 80) t 1 (some (mN μ1)) = μ2 at o2 ⊢
  clear n1
  have mk2 := o2.2.1
  clear mk1 o1
  refine e_al0 22 rfl dX0_init_21 ?_
  refine e_bipush (nI 80) 24 rfl dX0_init_22 bc_80 ?_
  refine e_newaB 240 3600 26 rfl dX0_init_24 (Or.inr (Or.inl ⟨rfl, rfl⟩)) ac_int rfl (by decide) rfl rfl ?_
  have n2 := o2.mkN 13 80
  refine e_putR 29 rfl dX0_init_26 f_X0_21 (by assumption) rfl rfl (fun _ => ⟨rfl, rfl⟩) ?_
  have o3 := o2.na 13 80 2
  generalize sP (sN μ2 13 80) t 2 (some (mN μ2)) = μ3 at o3 ⊢
  clear n2
  have mk3 := o3.2.1
  clear mk2 o2
  refine e_al0 30 rfl dX0_init_29 ?_
  refine e_iconst (nI 0) 31 rfl dX0_init_30 ic_0 ?_
  refine e_putI 34 rfl dX0_init_31 f_X0_24 (by assumption) ?_
  have o4 := o3.sF 3 (nI 0)
  generalize sF μ3 t 3 (nI 0) = μ4 at o4 ⊢
  have mk4 := o4.2.1
  clear mk3 o3
  obtain ⟨h1, h2, h3, h4, h5, h6⟩ := id o4
  have c1 := h5 0 (18, 80) rfl
  have c2 := h5 1 (13, 80) rfl
  have c3 := h5 2 (13, 80) rfl
  have p0 : mP μ4 t 0 = some (t + 1) := by rw [h3]; rfl
  have p1 : mP μ4 t 1 = some (t + 2) := by rw [h3]; rfl
  have p2 : mP μ4 t 2 = some (t + 3) := by rw [h3]; rfl
  have f3 : mF μ4 t 3 = nI 0 := by rw [h4]; rfl
  refine e_iconst (nI 0) 35 rfl dX0_init_34 ic_0 ?_
  refine e_is1 36 rfl dX0_init_35 (by decide) rfl ?_
  have loop : ∀ (fu i : Nat), i + fu = 80 → ∀ μ', mN μ' = t + 4 + 3 * i → (∀ q, q ≤ t + 3 → q ≠ t + 1 → same q μ4 μ') → mK μ' (t + 1) = 18 ∧ mL μ' (t + 1) = 80 → (∀ j, j < i → mO μ' (t + 1) j = some (t + 4 + 3 * j) ∧ Wd μ' (t + 4 + 3 * j)) → Ev E M_X0_init (3 * fu) (45 * fu) 36 [some (.ref t), some (.int (nI i))] [] μ' K := by
    intro fu
    induction fu with
    | zero =>
      intro i hi μ' hn hs hk hw
      refine e_il1 37 rfl dX0_init_36 ?_
      refine e_bipush (nI 80) 39 rfl dX0_init_37 bc_80 ?_
      first | refine e_cmp_geN 61 42 (by decide) rfl dX0_init_39 rfl rfl (by omega) (by omega) (fun y1 => ?_) (fun y1 => ?_) | refine e_cmp_ge 61 42 (by decide) rfl dX0_init_39 (fun y1 => ?_) (fun y1 => ?_)
      rotate_left
      · omega
      refine e_ret dX0_init_61 rfl ?_
      have st := hs t (by omega) (by omega)
      have s2 := hs (t + 2) (by omega) (by omega)
      have s3 := hs (t + 3) (by omega) (by omega)
      refine k μ' (by rw [hn]; omega) ⟨⟨by rw [st.1]; exact h2, by rw [st.2.2.2.2.2.2.1]; exact p0, by rw [st.2.2.2.2.2.2.1]; exact p1, by rw [st.2.2.2.2.2.2.1]; exact p2, hk.1, hk.2, by rw [s2.1]; exact c2.1, by rw [s2.2.1]; exact c2.2.1, by rw [s3.1]; exact c3.1, by rw [s3.2.1]; exact c3.2.1⟩, fun j hj => (hw j (by omega)).2⟩ ⟨by rw [st.2.2.1]; exact f3, by simp, fun j => j, fun j hj => ⟨hj, (hw j (by omega)).1⟩, fun i j _ _ h => h, fun i e he => by simp at he⟩ (fun q hq => (h6 q hq).trans (hs q (by omega) (by omega)))
    | succ fu ih =>
      intro i hi μ' hn hs hk hw
      have st := hs t (by omega) (by omega)
      have gk : mK μ' t = 1 := by rw [st.1]; exact h2
      have g0 : mP μ' t 0 = some (t + 1) := by rw [st.2.2.2.2.2.2.1]; exact p0
      refine e_il1 37 rfl dX0_init_36 ?_
      refine e_bipush (nI 80) 39 rfl dX0_init_37 bc_80 ?_
      first | refine e_cmp_geN 61 42 (by decide) rfl dX0_init_39 rfl rfl (by omega) (by omega) (fun y1 => ?_) (fun y1 => ?_) | refine e_cmp_ge 61 42 (by decide) rfl dX0_init_39 (fun y1 => ?_) (fun y1 => ?_)
      · omega
      refine e_al0 43 rfl dX0_init_42 ?_
      refine e_getR 46 rfl dX0_init_43 f_X0_11 (by assumption) (by assumption) ?_
      refine e_il1 47 rfl dX0_init_46 ?_
      refine e_newB (3 * fu + 2) (45 * fu + 41) 50 rfl dX0_init_47 nc_X0_9 (by omega) (by omega) ?_
      refine e_dup 51 rfl dX0_init_50 rfl ?_
      refine e_invINB [] (3 * fu) (45 * fu) 54 rfl dX0_init_51 k_X0_28 mo_X8_init rm_X0_init_X8_init rfl rfl rfl rfl (Nat.le_of_ble_eq_true rfl) ?_
      refine i_word Ob.start (fun μ2 ob2 => ?_)
      have hWd := ob2.wd rfl rfl
      have hn2 := ob2.1
      have hs2 : ∀ q, q < t + 4 + 3 * i → same q μ' μ2 := fun q hq => (sN_same (by rw [hn]; omega)).trans (ob2.2.2.2.2.2 q (by rw [hn]; exact hq))
      rw [hn] at hWd hn2 ⊢
      have k1 : mK μ2 (t + 1) = 18 := by rw [(hs2 (t + 1) (by omega)).1]; exact hk.1
      have l1 : mL μ2 (t + 1) = 80 := by rw [(hs2 (t + 1) (by omega)).2.1]; exact hk.2
      have wk := hWd.1
      refine e_aast 55 rfl dX0_init_54 (by assumption) (by first | exact Or.inl ⟨rfl, rfl⟩ | exact Or.inr (Or.inl ⟨rfl, rfl⟩) | exact Or.inr (Or.inr ⟨rfl, rfl⟩)) (by assumption) (by first | rfl | simp only [pk_mul, nI_add]) (by omega) (by omega) (by assumption) ?_
      refine e_ii1 (nI (_ + 1)) 58 rfl dX0_init_55 (ii1 _) rfl ?_
      refine e_goto 36 (by decide) dX0_init_58 ?_
      refine ih (i + 1) (by omega) _ (by show mN μ2 = _; rw [hn2]; simp; omega) (fun q h1 h2 => ((hs q h1 h2).trans (hs2 q (by omega))).trans (sO_same h2)) ⟨k1, l1⟩ (fun j hj => ?_)
      by_cases c : j = i
      · subst c
        refine ⟨?_, hWd.sm (fun q _ _ => sO_same (by omega))⟩
        show up2 _ (t + 1) _ _ (t + 1) _ = _
        rw [up2_s]
      · refine ⟨?_, ((hw j (by omega)).2.sm (fun q a b => hs2 q (by omega))).sm (fun q _ _ => sO_same (by omega))⟩
        show up2 _ (t + 1) _ _ (t + 1) _ = _
        rw [up2_k c, (hs2 (t + 1) (by omega)).2.2.2.2.2.2.2]
        exact (hw j (by omega)).1
  exact loop 80 0 (by omega) μ4 (by rw [h1]; rfl) (fun q _ _ => same.rf) ⟨c1.1, c1.2.1⟩ (fun j hj => by omega)
theorem i_name {ν μ0 : Mm} {t : Nat} (o0 : Ob ν μ0 t 3 [] (fun _ => none) (fun _ => 0)) (k : ∀ μ', mN μ' = t + 30 → Ng μ' t → (∀ q, q < t → same q ν μ') → K none μ') : Cl E M_X2_init [.ref t] μ0 K := by
  have mk0 := o0.2.1
  refine Cl.of (nn := 1) pn_X2 (Nat.le_of_ble_eq_true rfl) rfl ?_
  refine e_al0 1 rfl dX2_init_0 ?_
  refine e_obj 4 rfl dX2_init_1 k_X2_3 (Nat.le_of_ble_eq_true rfl) (Nat.le_of_ble_eq_true rfl) ?_
  refine e_al0 5 rfl dX2_init_4 ?_
  refine e_iconst (nI 0) 6 rfl dX2_init_5 ic_0 ?_
  refine e_putI 9 rfl dX2_init_6 f_X2_9 (by assumption) ?_
  have o1 := o0.sF 0 (nI 0)
  generalize sF μ0 t 0 (nI 0) = μ1 at o1 ⊢
  have mk1 := o1.2.1
  clear mk0 o0
  refine e_al0 10 rfl dX2_init_9 ?_
  refine e_iconst (nI 0) 11 rfl dX2_init_10 ic_0 ?_
  refine e_putI 14 rfl dX2_init_11 f_X2_15 (by assumption) ?_
  have o2 := o1.sF 1 (nI 0)
  generalize sF μ1 t 1 (nI 0) = μ2 at o2 ⊢
  have mk2 := o2.2.1
  clear mk1 o1
  refine e_al0 15 rfl dX2_init_14 ?_
  refine e_bipush (nI 8) 17 rfl dX2_init_15 bc_8 ?_
  refine e_newqB 28 866 20 rfl dX2_init_17 (Or.inr (Or.inr ⟨rfl, rfl⟩)) cl_X2_18 rfl (by decide) rfl rfl ?_
  have n2 := o2.mkN 18 8
  refine e_putR 23 rfl dX2_init_20 f_X2_20 (by assumption) rfl rfl (fun _ => ⟨rfl, rfl⟩) ?_
  have o3 := o2.na 18 8 2
  generalize sP (sN μ2 18 8) t 2 (some (mN μ2)) = μ3 at o3 ⊢
  clear n2
  have mk3 := o3.2.1
  clear mk2 o2
  refine e_al0 24 rfl dX2_init_23 ?_
  refine e_iconst (nI 0) 25 rfl dX2_init_24 ic_0 ?_
  refine e_putZ 28 rfl dX2_init_25 f_X2_24 (by assumption) (by first | exact z0 | exact z1 | exact bI01 _ | assumption) ?_
  have o4 := o3.sF 3 (nI 0)
  generalize sF μ3 t 3 (nI 0) = μ4 at o4 ⊢
  have mk4 := o4.2.1
  clear mk3 o3
  refine e_al0 29 rfl dX2_init_28 ?_
  refine e_iconst (nI 0) 30 rfl dX2_init_29 ic_0 ?_
  refine e_putZ 33 rfl dX2_init_30 f_X2_28 (by assumption) (by first | exact z0 | exact z1 | exact bI01 _ | assumption) ?_
  have o5 := o4.sF 4 (nI 0)
  generalize sF μ4 t 4 (nI 0) = μ5 at o5 ⊢
  have mk5 := o5.2.1
  clear mk4 o4
  refine e_al0 34 rfl dX2_init_33 ?_
  refine e_bipush (nI 8) 36 rfl dX2_init_34 bc_8 ?_
  refine e_newaB 27 858 38 rfl dX2_init_36 (Or.inr (Or.inl ⟨rfl, rfl⟩)) ac_int rfl (by decide) rfl rfl ?_
  have n5 := o5.mkN 13 8
  refine e_putR 41 rfl dX2_init_38 f_X2_31 (by assumption) rfl rfl (fun _ => ⟨rfl, rfl⟩) ?_
  have o6 := o5.na 13 8 5
  generalize sP (sN μ5 13 8) t 5 (some (mN μ5)) = μ6 at o6 ⊢
  clear n5
  have mk6 := o6.2.1
  clear mk5 o5
  refine e_al0 42 rfl dX2_init_41 ?_
  refine e_bipush (nI 8) 44 rfl dX2_init_42 bc_8 ?_
  refine e_newaB 26 850 46 rfl dX2_init_44 (Or.inr (Or.inl ⟨rfl, rfl⟩)) ac_int rfl (by decide) rfl rfl ?_
  have n6 := o6.mkN 13 8
  refine e_putR 49 rfl dX2_init_46 f_X2_35 (by assumption) rfl rfl (fun _ => ⟨rfl, rfl⟩) ?_
  have o7 := o6.na 13 8 6
  generalize sP (sN μ6 13 8) t 6 (some (mN μ6)) = μ7 at o7 ⊢
  clear n6
  have mk7 := o7.2.1
  clear mk6 o6
  refine e_al0 50 rfl dX2_init_49 ?_
  refine e_iconst (nI 0) 51 rfl dX2_init_50 ic_0 ?_
  refine e_putI 54 rfl dX2_init_51 f_X2_38 (by assumption) ?_
  have o8 := o7.sF 7 (nI 0)
  generalize sF μ7 t 7 (nI 0) = μ8 at o8 ⊢
  have mk8 := o8.2.1
  clear mk7 o7
  refine e_al0 55 rfl dX2_init_54 ?_
  refine e_iconst (nI 0) 56 rfl dX2_init_55 ic_0 ?_
  refine e_putZ 59 rfl dX2_init_56 f_X2_41 (by assumption) (by first | exact z0 | exact z1 | exact bI01 _ | assumption) ?_
  have o9 := o8.sF 8 (nI 0)
  generalize sF μ8 t 8 (nI 0) = μ9 at o9 ⊢
  have mk9 := o9.2.1
  clear mk8 o8
  obtain ⟨h1, h2, h3, h4, h5, h6⟩ := id o9
  have c1 := h5 0 (18, 8) rfl
  have c2 := h5 1 (13, 8) rfl
  have c3 := h5 2 (13, 8) rfl
  have q2 : mP μ9 t 2 = some (t + 1) := by rw [h3]; rfl
  have q5 : mP μ9 t 5 = some (t + 2) := by rw [h3]; rfl
  have q6 : mP μ9 t 6 = some (t + 3) := by rw [h3]; rfl
  have hn9 : mN μ9 = t + 4 := h1
  refine e_al0 60 rfl dX2_init_59 ?_
  refine e_newB 25 848 63 rfl dX2_init_60 nc_X2_44 rfl rfl ?_
  refine e_dup 64 rfl dX2_init_63 rfl ?_
  refine e_invINB [] 24 360 67 rfl dX2_init_64 k_X2_46 mo_X1_init rm_X2_init_X1_init rfl rfl rfl rfl (Nat.le_of_ble_eq_true rfl) ?_
  refine i_line Ob.start (fun μa oba => ?_)
  have hLn := oba.ln rfl
  have hna := oba.1
  have hsa : ∀ q, q < t + 4 → same q μ9 μa := fun q hq => (sN_same (by rw [hn9]; omega)).trans (oba.2.2.2.2.2 q (by rw [hn9]; exact hq))
  rw [hn9] at hLn hna ⊢
  have gka : mK μa t = 3 := by rw [(hsa t (by omega)).1]; exact h2
  refine e_putR 70 rfl dX2_init_67 f_X2_47 (by assumption) rfl rfl (fun _ => ⟨rfl, rfl⟩) ?_
  have hPb : ∀ g, mP (sP μa t 9 (some (t + 4))) t g = if g = 9 then some (t + 4) else mP μ9 t g := fun g => by
    show up2 _ t 9 _ t g = _
    by_cases c : g = 9
    · rw [c, up2_s, if_pos rfl]
    · rw [up2_k c, if_neg c, (hsa t (by omega)).2.2.2.2.2.2.1]
  have hsb : ∀ q, q ≠ t → same q μa (sP μa t 9 (some (t + 4))) := fun q hq => sP_same hq
  have hKb : mK (sP μa t 9 (some (t + 4))) t = 3 := gka
  have hNb : mN (sP μa t 9 (some (t + 4))) = t + 6 := by show mN μa = _; rw [hna]; rfl
  generalize sP μa t 9 (some (t + 4)) = μb at hPb hsb hKb hNb ⊢
  have hLnb : Ln μb (t + 4) := hLn.sm (fun q _ _ => hsb q (by omega))
  have hcb : ∀ q, q < t + 4 → q ≠ t → same q μ9 μb := fun q h h' => (hsa q h).trans (hsb q h')
  refine e_iconst (nI 0) 71 rfl dX2_init_70 ic_0 ?_
  refine e_is1 72 rfl dX2_init_71 (by decide) rfl ?_
  have loop : ∀ (fu i : Nat), i + fu = 8 → ∀ μ', mN μ' = t + 6 + 3 * i → (∀ q, q ≤ t + 5 → q ≠ t + 1 → same q μb μ') → mK μ' (t + 1) = 18 ∧ mL μ' (t + 1) = 8 → (∀ j, j < i → mO μ' (t + 1) j = some (t + 6 + 3 * j) ∧ Wd μ' (t + 6 + 3 * j)) → Ev E M_X2_init (3 * fu) (45 * fu) 72 [some (.ref t), some (.int (nI i))] [] μ' K := by
    intro fu
    induction fu with
    | zero =>
      intro i hi μ' hn hs hk hw
      refine e_il1 73 rfl dX2_init_72 ?_
      refine e_bipush (nI 8) 75 rfl dX2_init_73 bc_8 ?_
      first | refine e_cmp_geN 97 78 (by decide) rfl dX2_init_75 rfl rfl (by omega) (by omega) (fun y1 => ?_) (fun y1 => ?_) | refine e_cmp_ge 97 78 (by decide) rfl dX2_init_75 (fun y1 => ?_) (fun y1 => ?_)
      rotate_left
      · omega
      refine e_ret dX2_init_97 rfl ?_
      have st := hs t (by omega) (by omega)
      have s2 := (hcb (t + 2) (by omega) (by omega)).trans (hs (t + 2) (by omega) (by omega))
      have s3 := (hcb (t + 3) (by omega) (by omega)).trans (hs (t + 3) (by omega) (by omega))
      refine k μ' (by rw [hn]; omega) ⟨⟨by rw [st.1]; exact hKb, by rw [st.2.2.2.2.2.2.1, hPb]; exact q2, by rw [st.2.2.2.2.2.2.1, hPb]; exact q5, by rw [st.2.2.2.2.2.2.1, hPb]; exact q6, by rw [st.2.2.2.2.2.2.1, hPb]; rfl, hk.1, hk.2, by rw [s2.1]; exact c2.1, by rw [s2.2.1]; exact c2.2.1, by rw [s3.1]; exact c3.1, by rw [s3.2.1]; exact c3.2.1⟩, hLnb.sm (fun q a b => hs q (by omega) (by omega)), fun j hj => hw j (by omega)⟩ (fun q hq => ((h6 q hq).trans (hcb q (by omega) (by omega))).trans (hs q (by omega) (by omega)))
    | succ fu ih =>
      intro i hi μ' hn hs hk hw
      have st := hs t (by omega) (by omega)
      have gk : mK μ' t = 3 := by rw [st.1]; exact hKb
      have g0 : mP μ' t 2 = some (t + 1) := by rw [st.2.2.2.2.2.2.1, hPb]; exact q2
      refine e_il1 73 rfl dX2_init_72 ?_
      refine e_bipush (nI 8) 75 rfl dX2_init_73 bc_8 ?_
      first | refine e_cmp_geN 97 78 (by decide) rfl dX2_init_75 rfl rfl (by omega) (by omega) (fun y1 => ?_) (fun y1 => ?_) | refine e_cmp_ge 97 78 (by decide) rfl dX2_init_75 (fun y1 => ?_) (fun y1 => ?_)
      · omega
      refine e_al0 79 rfl dX2_init_78 ?_
      refine e_getR 82 rfl dX2_init_79 f_X2_20 (by assumption) (by assumption) ?_
      refine e_il1 83 rfl dX2_init_82 ?_
      refine e_newB (3 * fu + 2) (45 * fu + 41) 86 rfl dX2_init_83 nc_X2_18 (by omega) (by omega) ?_
      refine e_dup 87 rfl dX2_init_86 rfl ?_
      refine e_invINB [] (3 * fu) (45 * fu) 90 rfl dX2_init_87 k_X2_51 mo_X8_init rm_X2_init_X8_init rfl rfl rfl rfl (Nat.le_of_ble_eq_true rfl) ?_
      refine i_word Ob.start (fun μ2 ob2 => ?_)
      have hWd := ob2.wd rfl rfl
      have hn2 := ob2.1
      have hs2 : ∀ q, q < t + 6 + 3 * i → same q μ' μ2 := fun q hq => (sN_same (by rw [hn]; omega)).trans (ob2.2.2.2.2.2 q (by rw [hn]; exact hq))
      rw [hn] at hWd hn2 ⊢
      have k1 : mK μ2 (t + 1) = 18 := by rw [(hs2 (t + 1) (by omega)).1]; exact hk.1
      have l1 : mL μ2 (t + 1) = 8 := by rw [(hs2 (t + 1) (by omega)).2.1]; exact hk.2
      have wk := hWd.1
      refine e_aast 91 rfl dX2_init_90 (by assumption) (by first | exact Or.inl ⟨rfl, rfl⟩ | exact Or.inr (Or.inl ⟨rfl, rfl⟩) | exact Or.inr (Or.inr ⟨rfl, rfl⟩)) (by assumption) (by first | rfl | simp only [pk_mul, nI_add]) (by omega) (by omega) (by assumption) ?_
      refine e_ii1 (nI (_ + 1)) 94 rfl dX2_init_91 (ii1 _) rfl ?_
      refine e_goto 72 (by decide) dX2_init_94 ?_
      refine ih (i + 1) (by omega) _ (by show mN μ2 = _; rw [hn2]; simp; omega) (fun q h1 h2 => ((hs q h1 h2).trans (hs2 q (by omega))).trans (sO_same h2)) ⟨k1, l1⟩ (fun j hj => ?_)
      by_cases c : j = i
      · subst c
        refine ⟨?_, hWd.sm (fun q _ _ => sO_same (by omega))⟩
        show up2 _ (t + 1) _ _ (t + 1) _ = _
        rw [up2_s]
      · refine ⟨?_, ((hw j (by omega)).2.sm (fun q a b => hs2 q (by omega))).sm (fun q _ _ => sO_same (by omega))⟩
        show up2 _ (t + 1) _ _ (t + 1) _ = _
        rw [up2_k c, (hs2 (t + 1) (by omega)).2.2.2.2.2.2.2]
        exact (hw j (by omega)).1
  exact loop 8 0 (by omega) μb hNb (fun q _ _ => same.rf) ⟨by rw [(hcb (t + 1) (by omega) (by omega)).1]; exact c1.1, by rw [(hcb (t + 1) (by omega) (by omega)).2.1]; exact c1.2.1⟩ (fun j hj => by omega)
end CTOR3
