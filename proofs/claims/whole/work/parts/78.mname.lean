/-! NameDeskModel: table, name -/
section MNAME
variable {E : En} {μ : Mm} {K : Option Value → Mm → Prop}
theorem m_table {m : Nat} {S : Ast} {x n : Int32} (hW : WF S) (hM : MI m S μ) (k : ∀ μ', MF m μ μ' → MI m (q_table S x n).2 μ' → K (some (.int (q_table S x n).1)) μ') : Cl E M_X10_table [.ref m, .int x, .int n] μ K := by
  have mk0 := hM.1.1
  have hM1 := hM.thr (nI 0)
  have f1 : MF m μ (sF μ m 2 (nI 0)) := MF.thr _
  have h400 := hW.1.1
  unfold q_table at k
  have failT : okT x = none → ∀ μ2, MF m μ μ2 → MI m S μ2 → K (some (.int (nI 0))) μ2 := fun h μ2 h1 h2 => by rw [h] at k; exact k μ2 h1 h2
  have failH : okH (aT S) n = none → ∀ μ2, MF m μ μ2 → MI m S μ2 → K (some (.int (nI 0))) μ2 := fun h μ2 h1 h2 => by
    rw [h] at k
    cases e : okT x with
    | none => rw [e] at k; exact k μ2 h1 h2
    | some i => rw [e] at k; exact k μ2 h1 h2
  refine Cl.of0 1 pn_X10 (Nat.le_of_ble_eq_true rfl) ⟨rfl, rfl⟩ rfl ?_
  refine e_al0 1 rfl dX10_table_0 ?_
  refine e_iconst (nI 0) 2 rfl dX10_table_1 ic_0 ?_
  refine e_putI 5 rfl dX10_table_2 f_X10_126 (by assumption) ?_
  generalize sF μ m 2 (nI 0) = μ1 at hM1 f1 ⊢
  have mk := hM1.1.1
  have t1 := hM1.2.1.1
  rcases okT_cases x with ⟨hx, qx⟩ | ⟨i, hi31, hx, ⟨hi, qx⟩ | ⟨hi, qx⟩⟩
  · refine e_il1 6 rfl dX10_table_5 ?_
    refine e_if_lt 32 9 (by decide) rfl dX10_table_6 (fun y1 => ?_) (fun y1 => ?_)
    · refine e_iconst (nI 0) 33 rfl dX10_table_32 ic_0 ?_
      refine e_zret dX10_table_33 rfl (by first | exact z0 | exact z1 | exact bI01 _ | assumption) ?_
      exact failT qx μ1 f1 hM1
    · exact absurd hx y1
  · subst hx
    refine e_il1 6 rfl dX10_table_5 ?_
    first | refine e_if_ltN 32 9 (by decide) rfl dX10_table_6 rfl (by omega) ?_ | refine e_if_lt 32 9 (by decide) rfl dX10_table_6 (fun h => ?_) (fun h => ?_)
    refine e_il1 10 rfl dX10_table_9 ?_
    refine e_bipush (nI 25) 12 rfl dX10_table_10 bc_25 ?_
    first | refine e_cmp_gtN 32 15 (by decide) rfl dX10_table_12 rfl rfl (by omega) (by omega) (fun y1 => ?_) (fun y1 => ?_) | refine e_cmp_gt 32 15 (by decide) rfl dX10_table_12 (fun y1 => ?_) (fun y1 => ?_)
    · refine e_iconst (nI 0) 33 rfl dX10_table_32 ic_0 ?_
      refine e_zret dX10_table_33 rfl (by first | exact z0 | exact z1 | exact bI01 _ | assumption) ?_
      exact failT qx μ1 f1 hM1
    · omega
  subst hx
  rw [qx] at k
  refine e_il1 6 rfl dX10_table_5 ?_
  first | refine e_if_ltN 32 9 (by decide) rfl dX10_table_6 rfl (by omega) ?_ | refine e_if_lt 32 9 (by decide) rfl dX10_table_6 (fun h => ?_) (fun h => ?_)
  refine e_il1 10 rfl dX10_table_9 ?_
  refine e_bipush (nI 25) 12 rfl dX10_table_10 bc_25 ?_
  first | refine e_cmp_gtN 32 15 (by decide) rfl dX10_table_12 rfl rfl (by omega) (by omega) (fun y1 => ?_) (fun y1 => ?_) | refine e_cmp_gt 32 15 (by decide) rfl dX10_table_12 (fun y1 => ?_) (fun y1 => ?_)
  · omega
  rcases okH_cases (aT S) n with ⟨hn, qn⟩ | ⟨nn, hn31, hn, hcase⟩
  · refine e_il2 16 rfl dX10_table_15 ?_
    refine e_if_lt 32 19 (by decide) rfl dX10_table_16 (fun y2 => ?_) (fun y2 => ?_)
    · refine e_iconst (nI 0) 33 rfl dX10_table_32 ic_0 ?_
      refine e_zret dX10_table_33 rfl (by first | exact z0 | exact z1 | exact bI01 _ | assumption) ?_
      exact failH qn μ1 f1 hM1
    · exact absurd hn y2
  subst hn
  refine e_il2 16 rfl dX10_table_15 ?_
  first | refine e_if_ltN 32 19 (by decide) rfl dX10_table_16 rfl (by omega) ?_ | refine e_if_lt 32 19 (by decide) rfl dX10_table_16 (fun h => ?_) (fun h => ?_)
  refine e_il2 20 rfl dX10_table_19 ?_
  refine e_iconst (nI 3) 21 rfl dX10_table_20 ic_3 ?_
  first | refine e_cmp_gtN 32 24 (by decide) rfl dX10_table_21 rfl rfl (by omega) (by omega) (fun y3 => ?_) (fun y3 => ?_) | refine e_cmp_gt 32 24 (by decide) rfl dX10_table_21 (fun y3 => ?_) (fun y3 => ?_)
  · have kk : K (some (.int (nI 0))) μ1 := by
      rcases hcase with ⟨hh, qn⟩ | ⟨hh, qn⟩
      · exact failH qn μ1 f1 hM1
      · rw [qn] at k
        simp only [] at k
        rw [if_neg (fun q => by omega)] at k
        exact k μ1 f1 hM1
    refine e_iconst (nI 0) 33 rfl dX10_table_32 ic_0 ?_
    refine e_zret dX10_table_33 rfl (by first | exact z0 | exact z1 | exact bI01 _ | assumption) ?_
    exact kk
  rcases hcase with ⟨hh, qn⟩ | ⟨hh, qn⟩
  · refine e_il2 25 rfl dX10_table_24 ?_
    refine e_al0 26 rfl dX10_table_25 ?_
    first | refine e_getIv 29 rfl dX10_table_26 f_X10_129 (by assumption) (by first | assumption | (simp only [mN_sF, mK_sF, mL_sF, mF_sF, mB_sF, mA_sF, mJ_sF, mP_sF, mO_sF, mN_sB, mK_sB, mL_sB, mF_sB, mB_sB, mA_sB, mJ_sB, mP_sB, mO_sB, mN_sA, mK_sA, mL_sA, mF_sA, mB_sA, mA_sA, mJ_sA, mP_sA, mO_sA, mN_sJ, mK_sJ, mL_sJ, mF_sJ, mB_sJ, mA_sJ, mJ_sJ, mP_sJ, mO_sJ, mN_sP, mK_sP, mL_sP, mF_sP, mB_sP, mA_sP, mJ_sP, mP_sP, mO_sP, mN_sO, mK_sO, mL_sO, mF_sO, mB_sO, mA_sO, mJ_sO, mP_sO, mO_sO, up2, if_true, if_false, eq_self, ite_true, ite_false, reduceIte, Nat.add_left_cancel_iff, Nat.add_eq_left, Nat.left_eq_add, Nat.reduceEqDiff]; assumption) | (simp only [mN_sF, mK_sF, mL_sF, mF_sF, mB_sF, mA_sF, mJ_sF, mP_sF, mO_sF, mN_sB, mK_sB, mL_sB, mF_sB, mB_sB, mA_sB, mJ_sB, mP_sB, mO_sB, mN_sA, mK_sA, mL_sA, mF_sA, mB_sA, mA_sA, mJ_sA, mP_sA, mO_sA, mN_sJ, mK_sJ, mL_sJ, mF_sJ, mB_sJ, mA_sJ, mJ_sJ, mP_sJ, mO_sJ, mN_sP, mK_sP, mL_sP, mF_sP, mB_sP, mA_sP, mJ_sP, mP_sP, mO_sP, mN_sO, mK_sO, mL_sO, mF_sO, mB_sO, mA_sO, mJ_sO, mP_sO, mO_sO, up2, if_true, if_false, eq_self, ite_true, ite_false, reduceIte, Nat.add_left_cancel_iff, Nat.add_eq_left, Nat.left_eq_add, Nat.reduceEqDiff]; done)) ?_ | refine e_getI 29 rfl dX10_table_26 f_X10_129 (by assumption) ?_
    first | refine e_cmp_leN 34 32 (by decide) rfl dX10_table_29 rfl rfl (by omega) (by omega) (fun y4 => ?_) (fun y4 => ?_) | refine e_cmp_le 34 32 (by decide) rfl dX10_table_29 (fun y4 => ?_) (fun y4 => ?_)
    · omega
    refine e_iconst (nI 0) 33 rfl dX10_table_32 ic_0 ?_
    refine e_zret dX10_table_33 rfl (by first | exact z0 | exact z1 | exact bI01 _ | assumption) ?_
    exact failH qn μ1 f1 hM1
  rw [qn] at k
  simp only [] at k
  refine e_il2 25 rfl dX10_table_24 ?_
  refine e_al0 26 rfl dX10_table_25 ?_
  first | refine e_getIv 29 rfl dX10_table_26 f_X10_129 (by assumption) (by first | assumption | (simp only [mN_sF, mK_sF, mL_sF, mF_sF, mB_sF, mA_sF, mJ_sF, mP_sF, mO_sF, mN_sB, mK_sB, mL_sB, mF_sB, mB_sB, mA_sB, mJ_sB, mP_sB, mO_sB, mN_sA, mK_sA, mL_sA, mF_sA, mB_sA, mA_sA, mJ_sA, mP_sA, mO_sA, mN_sJ, mK_sJ, mL_sJ, mF_sJ, mB_sJ, mA_sJ, mJ_sJ, mP_sJ, mO_sJ, mN_sP, mK_sP, mL_sP, mF_sP, mB_sP, mA_sP, mJ_sP, mP_sP, mO_sP, mN_sO, mK_sO, mL_sO, mF_sO, mB_sO, mA_sO, mJ_sO, mP_sO, mO_sO, up2, if_true, if_false, eq_self, ite_true, ite_false, reduceIte, Nat.add_left_cancel_iff, Nat.add_eq_left, Nat.left_eq_add, Nat.reduceEqDiff]; assumption) | (simp only [mN_sF, mK_sF, mL_sF, mF_sF, mB_sF, mA_sF, mJ_sF, mP_sF, mO_sF, mN_sB, mK_sB, mL_sB, mF_sB, mB_sB, mA_sB, mJ_sB, mP_sB, mO_sB, mN_sA, mK_sA, mL_sA, mF_sA, mB_sA, mA_sA, mJ_sA, mP_sA, mO_sA, mN_sJ, mK_sJ, mL_sJ, mF_sJ, mB_sJ, mA_sJ, mJ_sJ, mP_sJ, mO_sJ, mN_sP, mK_sP, mL_sP, mF_sP, mB_sP, mA_sP, mJ_sP, mP_sP, mO_sP, mN_sO, mK_sO, mL_sO, mF_sO, mB_sO, mA_sO, mJ_sO, mP_sO, mO_sO, up2, if_true, if_false, eq_self, ite_true, ite_false, reduceIte, Nat.add_left_cancel_iff, Nat.add_eq_left, Nat.left_eq_add, Nat.reduceEqDiff]; done)) ?_ | refine e_getI 29 rfl dX10_table_26 f_X10_129 (by assumption) ?_
  first | refine e_cmp_leN 34 32 (by decide) rfl dX10_table_29 rfl rfl (by omega) (by omega) (fun y4 => ?_) (fun y4 => ?_) | refine e_cmp_le 34 32 (by decide) rfl dX10_table_29 (fun y4 => ?_) (fun y4 => ?_)
  rotate_left
  · omega
  obtain ⟨pt, kt, lt⟩ := hM1.1.tape
  have hT := hM1.2.1.2
  have hTc := hW.1.2
  refine e_iconst (nI 0) 35 rfl dX10_table_34 ic_0 ?_
  refine e_is3 36 rfl dX10_table_35 (by decide) rfl ?_
  have htk : ((aT S).take nn).length = nn := by rw [List.length_take]; omega
  have second : ((aT S).take nn).all isSm = true → ∀ l3, Ev E M_X10_table 0 0 71 [some (.ref m), some (.int (nI i)), some (.int (nI nn)), l3] [] μ1 K := by
    intro hall l3
    rw [if_pos ⟨y3, hall⟩] at k
    refine e_iconst (nI 0) 72 rfl dX10_table_71 ic_0 ?_
    refine e_is3 73 rfl dX10_table_72 (by decide) rfl ?_
    have loop : ∀ (fu j : Nat), j + fu = nn → ∀ μ2, Fr (fun q => q = m + 22) μ1 μ2 → (∀ u, mA μ2 (m + 22) u = if 3 * i ≤ u ∧ u < 3 * i + j then mA μ1 (m + 1) (u - 3 * i) else mA μ1 (m + 22) u) → Ev E M_X10_table 0 0 73 [some (.ref m), some (.int (nI i)), some (.int (nI nn)), some (.int (nI j))] [] μ2 K := by
      intro fu
      induction fu with
      | zero =>
        intro j hj μ2 hF2 hw2
        have hg2 := hM1.1.fr hF2
        have mk2 := hg2.1
        obtain ⟨pz, kz, lz⟩ := hg2.becomesSize
        have mk3 : mK (sA μ2 (m + 23) i (nI nn)) m = 11 := mk2
        refine e_il3 74 rfl dX10_table_73 ?_
        refine e_il2 75 rfl dX10_table_74 ?_
        first | refine e_cmp_geN 100 78 (by decide) rfl dX10_table_75 rfl rfl (by omega) (by omega) (fun y5 => ?_) (fun y5 => ?_) | refine e_cmp_ge 100 78 (by decide) rfl dX10_table_75 (fun y5 => ?_) (fun y5 => ?_)
        rotate_left
        · omega
        refine e_al0 101 rfl dX10_table_100 ?_
        refine e_getR 104 rfl dX10_table_101 f_X10_81 (by assumption) (by assumption) ?_
        refine e_il1 105 rfl dX10_table_104 ?_
        refine e_il2 106 rfl dX10_table_105 ?_
        refine e_iast 107 rfl dX10_table_106 (by assumption) (by assumption) (by first | rfl | simp only [pk_mul, nI_add]) (by omega) (by omega) ?_
        refine e_al0 108 rfl dX10_table_107 ?_
        refine e_iconst (nI 0) 109 rfl dX10_table_108 ic_0 ?_
        refine e_putI 112 rfl dX10_table_109 f_X10_129 (by assumption) ?_
        refine e_iconst (nI 1) 113 rfl dX10_table_112 ic_1 ?_
        refine e_zret dX10_table_113 rfl (by first | exact z0 | exact z1 | exact bI01 _ | assumption) ?_
        obtain ⟨R, hR⟩ : ∃ R : Nat → Prop, R = fun q => q = m ∨ q = m + 22 ∨ q = m + 23 := ⟨_, rfl⟩
        have hF3 : Fr R μ1 (sF (sA μ2 (m + 23) i (nI nn)) m 1 (nI 0)) := ((hF2.mono (S' := R) (fun q h => by rw [hR]; exact Or.inr (Or.inl h))).sA (show R (m + 23) by rw [hR]; exact Or.inr (Or.inr rfl)) _ _).sF (show R m by rw [hR]; exact Or.inl rfl) _ _
        have nR : ∀ q, (m + 1 ≤ q ∧ q ≤ m + 21) → ¬ R q := fun q h => by rw [hR]; omega
        have hff : ∀ f, f ≠ 1 → mF (sF (sA μ2 (m + 23) i (nI nn)) m 1 (nI 0)) m f = mF μ1 m f := fun f hf => by
          show up2 _ m 1 _ m f = _
          rw [up2_k hf]
          show mF μ2 m f = _
          rw [(hF2.2.2.2.2.2 m (by omega)).1]
        have h13 : mF (sF (sA μ2 (m + 23) i (nI nn)) m 1 (nI 0)) m 1 = nI 0 := by
          show up2 _ m 1 _ m 1 = _
          rw [up2_s]
        obtain ⟨h1, h2, ⟨es, he, h3⟩, h4, h5, h6, h7⟩ := id hM1
        refine k _ (f1.trans (hF3.mono (fun q h => by rw [hR] at h; omega))) ⟨h1.fr hF3, ⟨h13, Hd.nil⟩, ⟨es, he, h3.fr hF3 (hff 3 (by decide)) (fun q a b => nR q (by omega))⟩, h4.fr hF3 (fun q a b => nR q (by omega)), ⟨by rw [hff 18 (by decide)]; exact h5.1, by rw [hff 19 (by decide)]; exact h5.2⟩, h6.fr hF3 (hff 20 (by decide)) (fun q a b => nR q (by omega)), fun r hr => ?_⟩
        have hz : mA (sF (sA μ2 (m + 23) i (nI nn)) m 1 (nI 0)) (m + 23) r = if r = i then nI nn else mA μ1 (m + 23) r := by
          show up2 _ (m + 23) _ _ (m + 23) r = _
          by_cases c : r = i
          · rw [if_pos c, c, up2_s]
          · rw [if_neg c, up2_k c, (hF2.2.2.2.2.2 (m + 23) (by omega)).2.2.1]
        have hb : ∀ u, mA (sF (sA μ2 (m + 23) i (nI nn)) m 1 (nI 0)) (m + 22) u = if 3 * i ≤ u ∧ u < 3 * i + nn then mA μ1 (m + 1) (u - 3 * i) else mA μ1 (m + 22) u := fun u => by
          show up2 _ (m + 23) _ _ (m + 22) u = _
          rw [up2_a (by omega), hw2, show j = nn by omega]
        show mA (sF (sA μ2 (m + 23) i (nI nn)) m 1 (nI 0)) (m + 23) r = nI (up1 (aL S) i ((aT S).take nn) r).length ∧ Hd (fun q => mA (sF (sA μ2 (m + 23) i (nI nn)) m 1 (nI 0)) (m + 22) (3 * r + q)) (up1 (aL S) i ((aT S).take nn) r)
        by_cases c : r = i
        · subst c
          rw [hz, if_pos rfl, up1_s, htk]
          refine ⟨rfl, fun q ch hq => ?_⟩
          have hql := (List.getElem?_eq_some_iff.mp hq).1
          rw [htk] at hql
          show mA _ (m + 22) (3 * r + q) = _
          rw [hb, if_pos (by omega), show 3 * r + q - 3 * r = q by omega]
          rw [List.getElem?_take_of_lt hql] at hq
          exact hT q ch hq
        · rw [hz, if_neg c, up1_n c]
          refine ⟨(h7 r hr).1, (h7 r hr).2.of (fun q hq => ?_)⟩
          have := (hW.2.2.2.2 r hr).1
          rw [hb, if_neg (by omega)]
      | succ fu ih =>
        intro j hj μ2 hF2 hw2
        have hg2 := hM1.1.fr hF2
        have mk2 := hg2.1
        obtain ⟨pb, kb, lb⟩ := hg2.becomes
        obtain ⟨pt2, kt2, lt2⟩ := hg2.tape
        refine e_il3 74 rfl dX10_table_73 ?_
        refine e_il2 75 rfl dX10_table_74 ?_
        first | refine e_cmp_geN 100 78 (by decide) rfl dX10_table_75 rfl rfl (by omega) (by omega) (fun y5 => ?_) (fun y5 => ?_) | refine e_cmp_ge 100 78 (by decide) rfl dX10_table_75 (fun y5 => ?_) (fun y5 => ?_)
        · omega
        refine e_al0 79 rfl dX10_table_78 ?_
        refine e_getR 82 rfl dX10_table_79 f_X10_78 (by assumption) (by assumption) ?_
        refine e_iconst (nI 3) 83 rfl dX10_table_82 ic_3 ?_
        refine e_il1 84 rfl dX10_table_83 ?_
        first | refine e_imulN 85 rfl dX10_table_84 rfl rfl ?_ | refine e_imul 85 rfl dX10_table_84 ?_
        refine e_il3 86 rfl dX10_table_85 ?_
        first | refine e_iaddN 87 rfl dX10_table_86 rfl rfl ?_ | refine e_iadd 87 rfl dX10_table_86 ?_
        refine e_al0 88 rfl dX10_table_87 ?_
        refine e_getR 91 rfl dX10_table_88 f_X10_7 (by assumption) (by assumption) ?_
        refine e_il3 92 rfl dX10_table_91 ?_
        first | refine e_ialdv 93 rfl dX10_table_92 (by assumption) (by assumption) (by first | rfl | simp only [pk_mul, nI_add]) (by omega) (by omega) (by first | assumption | (simp only [mN_sF, mK_sF, mL_sF, mF_sF, mB_sF, mA_sF, mJ_sF, mP_sF, mO_sF, mN_sB, mK_sB, mL_sB, mF_sB, mB_sB, mA_sB, mJ_sB, mP_sB, mO_sB, mN_sA, mK_sA, mL_sA, mF_sA, mB_sA, mA_sA, mJ_sA, mP_sA, mO_sA, mN_sJ, mK_sJ, mL_sJ, mF_sJ, mB_sJ, mA_sJ, mJ_sJ, mP_sJ, mO_sJ, mN_sP, mK_sP, mL_sP, mF_sP, mB_sP, mA_sP, mJ_sP, mP_sP, mO_sP, mN_sO, mK_sO, mL_sO, mF_sO, mB_sO, mA_sO, mJ_sO, mP_sO, mO_sO, up2, if_true, if_false, eq_self, ite_true, ite_false, reduceIte, Nat.add_left_cancel_iff, Nat.add_eq_left, Nat.left_eq_add, Nat.reduceEqDiff]; assumption) | (simp only [mN_sF, mK_sF, mL_sF, mF_sF, mB_sF, mA_sF, mJ_sF, mP_sF, mO_sF, mN_sB, mK_sB, mL_sB, mF_sB, mB_sB, mA_sB, mJ_sB, mP_sB, mO_sB, mN_sA, mK_sA, mL_sA, mF_sA, mB_sA, mA_sA, mJ_sA, mP_sA, mO_sA, mN_sJ, mK_sJ, mL_sJ, mF_sJ, mB_sJ, mA_sJ, mJ_sJ, mP_sJ, mO_sJ, mN_sP, mK_sP, mL_sP, mF_sP, mB_sP, mA_sP, mJ_sP, mP_sP, mO_sP, mN_sO, mK_sO, mL_sO, mF_sO, mB_sO, mA_sO, mJ_sO, mP_sO, mO_sO, up2, if_true, if_false, eq_self, ite_true, ite_false, reduceIte, Nat.add_left_cancel_iff, Nat.add_eq_left, Nat.left_eq_add, Nat.reduceEqDiff]; done)) ?_ | refine e_iald 93 rfl dX10_table_92 (by assumption) (by assumption) (by first | rfl | simp only [pk_mul, nI_add]) (by omega) (by omega) ?_
        refine e_iast 94 rfl dX10_table_93 (by assumption) (by assumption) (by first | rfl | simp only [pk_mul, nI_add]) (by omega) (by omega) ?_
        refine e_ii3 (nI (_ + 1)) 97 rfl dX10_table_94 (ii1 _) rfl ?_
        refine e_goto 73 (by decide) dX10_table_97 ?_
        refine ih (j + 1) (by omega) _ (hF2.sA rfl _ _) (fun u => ?_)
        show up2 _ (m + 22) _ _ (m + 22) u = _
        by_cases c : u = 3 * i + j
        · rw [c, up2_s, if_pos (by omega), (hF2.2.2.2.2.2 (m + 1) (by omega)).2.2.1, show 3 * i + j - 3 * i = j by omega]
        · rw [up2_k c, hw2]
          by_cases c2 : 3 * i ≤ u ∧ u < 3 * i + j
          · rw [if_pos c2, if_pos (by omega)]
          · rw [if_neg c2, if_neg (by omega)]
    exact loop nn 0 (by omega) μ1 Fr.rf (fun u => by rw [if_neg (by omega)])
  have loop1 : ∀ (fu j : Nat), j + fu = nn → ((aT S).take j).all isSm = true → Ev E M_X10_table 0 0 36 [some (.ref m), some (.int (nI i)), some (.int (nI nn)), some (.int (nI j))] [] μ1 K := by
    intro fu
    induction fu with
    | zero =>
      intro j hj hall
      refine e_il3 37 rfl dX10_table_36 ?_
      refine e_il2 38 rfl dX10_table_37 ?_
      first | refine e_cmp_geN 71 41 (by decide) rfl dX10_table_38 rfl rfl (by omega) (by omega) (fun y5 => ?_) (fun y5 => ?_) | refine e_cmp_ge 71 41 (by decide) rfl dX10_table_38 (fun y5 => ?_) (fun y5 => ?_)
      rotate_left
      · omega
      exact second (by rw [show nn = j by omega]; exact hall) _
    | succ fu ih =>
      intro j hj hall
      have hjl : j < (aT S).length := by omega
      have hv := hT.at hjl
      have hc := hTc _ (List.getElem_mem hjl)
      have bad : isSm (aT S)[j] = false → K (some (.int (nI 0))) μ1 := fun hb => by
        rw [if_neg (fun q => by
          have hm : (aT S)[j] ∈ (aT S).take nn := List.mem_of_getElem? (i := j) (by rw [List.getElem?_take_of_lt (by omega), List.getElem?_eq_getElem hjl])
          have := List.all_eq_true.mp q.2 _ hm
          rw [hb] at this
          cases this)] at k
        exact k μ1 f1 hM1
      refine e_il3 37 rfl dX10_table_36 ?_
      refine e_il2 38 rfl dX10_table_37 ?_
      first | refine e_cmp_geN 71 41 (by decide) rfl dX10_table_38 rfl rfl (by omega) (by omega) (fun y5 => ?_) (fun y5 => ?_) | refine e_cmp_ge 71 41 (by decide) rfl dX10_table_38 (fun y5 => ?_) (fun y5 => ?_)
      · omega
      refine e_al0 42 rfl dX10_table_41 ?_
      refine e_getR 45 rfl dX10_table_42 f_X10_7 (by assumption) (by assumption) ?_
      refine e_il3 46 rfl dX10_table_45 ?_
      first | refine e_ialdv 47 rfl dX10_table_46 (by assumption) (by assumption) (by first | rfl | simp only [pk_mul, nI_add]) (by omega) (by omega) (by first | assumption | (simp only [mN_sF, mK_sF, mL_sF, mF_sF, mB_sF, mA_sF, mJ_sF, mP_sF, mO_sF, mN_sB, mK_sB, mL_sB, mF_sB, mB_sB, mA_sB, mJ_sB, mP_sB, mO_sB, mN_sA, mK_sA, mL_sA, mF_sA, mB_sA, mA_sA, mJ_sA, mP_sA, mO_sA, mN_sJ, mK_sJ, mL_sJ, mF_sJ, mB_sJ, mA_sJ, mJ_sJ, mP_sJ, mO_sJ, mN_sP, mK_sP, mL_sP, mF_sP, mB_sP, mA_sP, mJ_sP, mP_sP, mO_sP, mN_sO, mK_sO, mL_sO, mF_sO, mB_sO, mA_sO, mJ_sO, mP_sO, mO_sO, up2, if_true, if_false, eq_self, ite_true, ite_false, reduceIte, Nat.add_left_cancel_iff, Nat.add_eq_left, Nat.left_eq_add, Nat.reduceEqDiff]; assumption) | (simp only [mN_sF, mK_sF, mL_sF, mF_sF, mB_sF, mA_sF, mJ_sF, mP_sF, mO_sF, mN_sB, mK_sB, mL_sB, mF_sB, mB_sB, mA_sB, mJ_sB, mP_sB, mO_sB, mN_sA, mK_sA, mL_sA, mF_sA, mB_sA, mA_sA, mJ_sA, mP_sA, mO_sA, mN_sJ, mK_sJ, mL_sJ, mF_sJ, mB_sJ, mA_sJ, mJ_sJ, mP_sJ, mO_sJ, mN_sP, mK_sP, mL_sP, mF_sP, mB_sP, mA_sP, mJ_sP, mP_sP, mO_sP, mN_sO, mK_sO, mL_sO, mF_sO, mB_sO, mA_sO, mJ_sO, mP_sO, mO_sO, up2, if_true, if_false, eq_self, ite_true, ite_false, reduceIte, Nat.add_left_cancel_iff, Nat.add_eq_left, Nat.left_eq_add, Nat.reduceEqDiff]; done)) ?_ | refine e_iald 47 rfl dX10_table_46 (by assumption) (by assumption) (by first | rfl | simp only [pk_mul, nI_add]) (by omega) (by omega) ?_
      refine e_bipush (nI 97) 49 rfl dX10_table_47 bc_97 ?_
      first | refine e_cmp_ltN 63 52 (by decide) rfl dX10_table_49 rfl rfl (by omega) (by omega) (fun y6 => ?_) (fun y6 => ?_) | refine e_cmp_lt 63 52 (by decide) rfl dX10_table_49 (fun y6 => ?_) (fun y6 => ?_)
      · refine e_iconst (nI 0) 64 rfl dX10_table_63 ic_0 ?_
        refine e_zret dX10_table_64 rfl (by first | exact z0 | exact z1 | exact bI01 _ | assumption) ?_
        exact bad (by unfold isSm; simp; omega)
      refine e_al0 53 rfl dX10_table_52 ?_
      refine e_getR 56 rfl dX10_table_53 f_X10_7 (by assumption) (by assumption) ?_
      refine e_il3 57 rfl dX10_table_56 ?_
      first | refine e_ialdv 58 rfl dX10_table_57 (by assumption) (by assumption) (by first | rfl | simp only [pk_mul, nI_add]) (by omega) (by omega) (by first | assumption | (simp only [mN_sF, mK_sF, mL_sF, mF_sF, mB_sF, mA_sF, mJ_sF, mP_sF, mO_sF, mN_sB, mK_sB, mL_sB, mF_sB, mB_sB, mA_sB, mJ_sB, mP_sB, mO_sB, mN_sA, mK_sA, mL_sA, mF_sA, mB_sA, mA_sA, mJ_sA, mP_sA, mO_sA, mN_sJ, mK_sJ, mL_sJ, mF_sJ, mB_sJ, mA_sJ, mJ_sJ, mP_sJ, mO_sJ, mN_sP, mK_sP, mL_sP, mF_sP, mB_sP, mA_sP, mJ_sP, mP_sP, mO_sP, mN_sO, mK_sO, mL_sO, mF_sO, mB_sO, mA_sO, mJ_sO, mP_sO, mO_sO, up2, if_true, if_false, eq_self, ite_true, ite_false, reduceIte, Nat.add_left_cancel_iff, Nat.add_eq_left, Nat.left_eq_add, Nat.reduceEqDiff]; assumption) | (simp only [mN_sF, mK_sF, mL_sF, mF_sF, mB_sF, mA_sF, mJ_sF, mP_sF, mO_sF, mN_sB, mK_sB, mL_sB, mF_sB, mB_sB, mA_sB, mJ_sB, mP_sB, mO_sB, mN_sA, mK_sA, mL_sA, mF_sA, mB_sA, mA_sA, mJ_sA, mP_sA, mO_sA, mN_sJ, mK_sJ, mL_sJ, mF_sJ, mB_sJ, mA_sJ, mJ_sJ, mP_sJ, mO_sJ, mN_sP, mK_sP, mL_sP, mF_sP, mB_sP, mA_sP, mJ_sP, mP_sP, mO_sP, mN_sO, mK_sO, mL_sO, mF_sO, mB_sO, mA_sO, mJ_sO, mP_sO, mO_sO, up2, if_true, if_false, eq_self, ite_true, ite_false, reduceIte, Nat.add_left_cancel_iff, Nat.add_eq_left, Nat.left_eq_add, Nat.reduceEqDiff]; done)) ?_ | refine e_iald 58 rfl dX10_table_57 (by assumption) (by assumption) (by first | rfl | simp only [pk_mul, nI_add]) (by omega) (by omega) ?_
      refine e_bipush (nI 122) 60 rfl dX10_table_58 bc_122 ?_
      first | refine e_cmp_leN 65 63 (by decide) rfl dX10_table_60 rfl rfl (by omega) (by omega) (fun y7 => ?_) (fun y7 => ?_) | refine e_cmp_le 65 63 (by decide) rfl dX10_table_60 (fun y7 => ?_) (fun y7 => ?_)
      rotate_left
      · refine e_iconst (nI 0) 64 rfl dX10_table_63 ic_0 ?_
        refine e_zret dX10_table_64 rfl (by first | exact z0 | exact z1 | exact bI01 _ | assumption) ?_
        exact bad (by unfold isSm; simp; omega)
      refine e_ii3 (nI (_ + 1)) 68 rfl dX10_table_65 (ii1 _) rfl ?_
      refine e_goto 36 (by decide) dX10_table_68 ?_
      refine ih (j + 1) (by omega) ?_
      rw [List.take_succ_eq_append_getElem hjl, List.all_append, hall]
      simp [isSm]
      omega
  exact loop1 nn 0 (by omega) rfl
theorem m_name {m : Nat} {S : Ast} {x n : Int32} (hW : WF S) (hM : MI m S μ) (k : ∀ μ', MF m μ μ' → MI m (q_name S x n).2 μ' → K (some (.int (q_name S x n).1)) μ') : Cl E M_X10_name [.ref m, .int x, .int n] μ K := by
  have mk0 := hM.1.1
  have hM1 := hM.thr (nI 0)
  have f1 : MF m μ (sF μ m 2 (nI 0)) := MF.thr _
  have h400 := hW.1.1
  have n30 := hW.2.2.2.1.1
  unfold q_name at k
  have failL : okL x = none → ∀ μ2, MF m μ μ2 → MI m S μ2 → K (some (.int (-1))) μ2 := fun h μ2 h1 h2 => by rw [h] at k; exact k μ2 h1 h2
  have failH : okH (aT S) n = none → ∀ μ2, MF m μ μ2 → MI m S μ2 → K (some (.int (-1))) μ2 := fun h μ2 h1 h2 => by
    rw [h] at k
    cases e : okL x with
    | none => rw [e] at k; exact k μ2 h1 h2
    | some i => rw [e] at k; exact k μ2 h1 h2
  refine Cl.of0 5 pn_X10 (Nat.le_of_ble_eq_true rfl) ⟨rfl, rfl⟩ rfl ?_
  refine e_al0 1 rfl dX10_name_0 ?_
  refine e_iconst (nI 0) 2 rfl dX10_name_1 ic_0 ?_
  refine e_putI 5 rfl dX10_name_2 f_X10_126 (by assumption) ?_
  generalize sF μ m 2 (nI 0) = μ1 at hM1 f1 ⊢
  have mk := hM1.1.1
  have t1 := hM1.2.1.1
  have nm1 := hM1.2.2.2.2.2.1.1
  rcases okL_cases x with ⟨hx, qx⟩ | ⟨ld, hl31, hx, ⟨hl, qx⟩ | ⟨hl, qx⟩⟩
  · refine e_il1 6 rfl dX10_name_5 ?_
    refine e_if_lt 36 9 (by decide) rfl dX10_name_6 (fun y1 => ?_) (fun y1 => ?_)
    · refine e_iconst (-1) 37 rfl dX10_name_36 ic_m1 ?_
      refine e_iret dX10_name_37 rfl ?_
      exact failL qx μ1 f1 hM1
    · exact absurd hx y1
  · subst hx
    refine e_il1 6 rfl dX10_name_5 ?_
    first | refine e_if_ltN 36 9 (by decide) rfl dX10_name_6 rfl (by omega) ?_ | refine e_if_lt 36 9 (by decide) rfl dX10_name_6 (fun h => ?_) (fun h => ?_)
    refine e_il1 10 rfl dX10_name_9 ?_
    refine e_iconst (nI 5) 11 rfl dX10_name_10 ic_5 ?_
    first | refine e_cmp_gtN 36 14 (by decide) rfl dX10_name_11 rfl rfl (by omega) (by omega) (fun y1 => ?_) (fun y1 => ?_) | refine e_cmp_gt 36 14 (by decide) rfl dX10_name_11 (fun y1 => ?_) (fun y1 => ?_)
    · refine e_iconst (-1) 37 rfl dX10_name_36 ic_m1 ?_
      refine e_iret dX10_name_37 rfl ?_
      exact failL qx μ1 f1 hM1
    · omega
  subst hx
  rw [qx] at k
  refine e_il1 6 rfl dX10_name_5 ?_
  first | refine e_if_ltN 36 9 (by decide) rfl dX10_name_6 rfl (by omega) ?_ | refine e_if_lt 36 9 (by decide) rfl dX10_name_6 (fun h => ?_) (fun h => ?_)
  refine e_il1 10 rfl dX10_name_9 ?_
  refine e_iconst (nI 5) 11 rfl dX10_name_10 ic_5 ?_
  first | refine e_cmp_gtN 36 14 (by decide) rfl dX10_name_11 rfl rfl (by omega) (by omega) (fun y1 => ?_) (fun y1 => ?_) | refine e_cmp_gt 36 14 (by decide) rfl dX10_name_11 (fun y1 => ?_) (fun y1 => ?_)
  · omega
  rcases okH_cases (aT S) n with ⟨hn, qn⟩ | ⟨nn, hn31, hn, hcase⟩
  · have hlt : n < nI 1 := Int32.lt_of_lt_of_le hn (by decide)
    refine e_il2 15 rfl dX10_name_14 ?_
    refine e_iconst (nI 1) 16 rfl dX10_name_15 ic_1 ?_
    refine e_cmp_lt 36 19 (by decide) rfl dX10_name_16 (fun y2 => ?_) (fun y2 => ?_)
    · refine e_iconst (-1) 37 rfl dX10_name_36 ic_m1 ?_
      refine e_iret dX10_name_37 rfl ?_
      exact failH qn μ1 f1 hM1
    · exact absurd hlt y2
  subst hn
  refine e_il2 15 rfl dX10_name_14 ?_
  refine e_iconst (nI 1) 16 rfl dX10_name_15 ic_1 ?_
  first | refine e_cmp_ltN 36 19 (by decide) rfl dX10_name_16 rfl rfl (by omega) (by omega) (fun y2 => ?_) (fun y2 => ?_) | refine e_cmp_lt 36 19 (by decide) rfl dX10_name_16 (fun y2 => ?_) (fun y2 => ?_)
  · have kk : K (some (.int (-1))) μ1 := by
      rcases hcase with ⟨hh, qn⟩ | ⟨hh, qn⟩
      · exact failH qn μ1 f1 hM1
      · rw [qn] at k
        simp only [] at k
        rw [if_neg (fun q => by
          have e0 : nn = 0 := by omega
          rw [e0, List.take_zero] at q
          exact absurd q.2 (by decide))] at k
        exact k μ1 f1 hM1
    refine e_iconst (-1) 37 rfl dX10_name_36 ic_m1 ?_
    refine e_iret dX10_name_37 rfl ?_
    exact kk
  rcases hcase with ⟨hh, qn⟩ | ⟨hh, qn⟩
  · refine e_il2 20 rfl dX10_name_19 ?_
    refine e_al0 21 rfl dX10_name_20 ?_
    first | refine e_getIv 24 rfl dX10_name_21 f_X10_129 (by assumption) (by first | assumption | (simp only [mN_sF, mK_sF, mL_sF, mF_sF, mB_sF, mA_sF, mJ_sF, mP_sF, mO_sF, mN_sB, mK_sB, mL_sB, mF_sB, mB_sB, mA_sB, mJ_sB, mP_sB, mO_sB, mN_sA, mK_sA, mL_sA, mF_sA, mB_sA, mA_sA, mJ_sA, mP_sA, mO_sA, mN_sJ, mK_sJ, mL_sJ, mF_sJ, mB_sJ, mA_sJ, mJ_sJ, mP_sJ, mO_sJ, mN_sP, mK_sP, mL_sP, mF_sP, mB_sP, mA_sP, mJ_sP, mP_sP, mO_sP, mN_sO, mK_sO, mL_sO, mF_sO, mB_sO, mA_sO, mJ_sO, mP_sO, mO_sO, up2, if_true, if_false, eq_self, ite_true, ite_false, reduceIte, Nat.add_left_cancel_iff, Nat.add_eq_left, Nat.left_eq_add, Nat.reduceEqDiff]; assumption) | (simp only [mN_sF, mK_sF, mL_sF, mF_sF, mB_sF, mA_sF, mJ_sF, mP_sF, mO_sF, mN_sB, mK_sB, mL_sB, mF_sB, mB_sB, mA_sB, mJ_sB, mP_sB, mO_sB, mN_sA, mK_sA, mL_sA, mF_sA, mB_sA, mA_sA, mJ_sA, mP_sA, mO_sA, mN_sJ, mK_sJ, mL_sJ, mF_sJ, mB_sJ, mA_sJ, mJ_sJ, mP_sJ, mO_sJ, mN_sP, mK_sP, mL_sP, mF_sP, mB_sP, mA_sP, mJ_sP, mP_sP, mO_sP, mN_sO, mK_sO, mL_sO, mF_sO, mB_sO, mA_sO, mJ_sO, mP_sO, mO_sO, up2, if_true, if_false, eq_self, ite_true, ite_false, reduceIte, Nat.add_left_cancel_iff, Nat.add_eq_left, Nat.left_eq_add, Nat.reduceEqDiff]; done)) ?_ | refine e_getI 24 rfl dX10_name_21 f_X10_129 (by assumption) ?_
    first | refine e_cmp_gtN 36 27 (by decide) rfl dX10_name_24 rfl rfl (by omega) (by omega) (fun y4 => ?_) (fun y4 => ?_) | refine e_cmp_gt 36 27 (by decide) rfl dX10_name_24 (fun y4 => ?_) (fun y4 => ?_)
    · refine e_iconst (-1) 37 rfl dX10_name_36 ic_m1 ?_
      refine e_iret dX10_name_37 rfl ?_
      exact failH qn μ1 f1 hM1
    · omega
  rw [qn] at k
  simp only [] at k
  refine e_il2 20 rfl dX10_name_19 ?_
  refine e_al0 21 rfl dX10_name_20 ?_
  first | refine e_getIv 24 rfl dX10_name_21 f_X10_129 (by assumption) (by first | assumption | (simp only [mN_sF, mK_sF, mL_sF, mF_sF, mB_sF, mA_sF, mJ_sF, mP_sF, mO_sF, mN_sB, mK_sB, mL_sB, mF_sB, mB_sB, mA_sB, mJ_sB, mP_sB, mO_sB, mN_sA, mK_sA, mL_sA, mF_sA, mB_sA, mA_sA, mJ_sA, mP_sA, mO_sA, mN_sJ, mK_sJ, mL_sJ, mF_sJ, mB_sJ, mA_sJ, mJ_sJ, mP_sJ, mO_sJ, mN_sP, mK_sP, mL_sP, mF_sP, mB_sP, mA_sP, mJ_sP, mP_sP, mO_sP, mN_sO, mK_sO, mL_sO, mF_sO, mB_sO, mA_sO, mJ_sO, mP_sO, mO_sO, up2, if_true, if_false, eq_self, ite_true, ite_false, reduceIte, Nat.add_left_cancel_iff, Nat.add_eq_left, Nat.left_eq_add, Nat.reduceEqDiff]; assumption) | (simp only [mN_sF, mK_sF, mL_sF, mF_sF, mB_sF, mA_sF, mJ_sF, mP_sF, mO_sF, mN_sB, mK_sB, mL_sB, mF_sB, mB_sB, mA_sB, mJ_sB, mP_sB, mO_sB, mN_sA, mK_sA, mL_sA, mF_sA, mB_sA, mA_sA, mJ_sA, mP_sA, mO_sA, mN_sJ, mK_sJ, mL_sJ, mF_sJ, mB_sJ, mA_sJ, mJ_sJ, mP_sJ, mO_sJ, mN_sP, mK_sP, mL_sP, mF_sP, mB_sP, mA_sP, mJ_sP, mP_sP, mO_sP, mN_sO, mK_sO, mL_sO, mF_sO, mB_sO, mA_sO, mJ_sO, mP_sO, mO_sO, up2, if_true, if_false, eq_self, ite_true, ite_false, reduceIte, Nat.add_left_cancel_iff, Nat.add_eq_left, Nat.left_eq_add, Nat.reduceEqDiff]; done)) ?_ | refine e_getI 24 rfl dX10_name_21 f_X10_129 (by assumption) ?_
  first | refine e_cmp_gtN 36 27 (by decide) rfl dX10_name_24 rfl rfl (by omega) (by omega) (fun y4 => ?_) (fun y4 => ?_) | refine e_cmp_gt 36 27 (by decide) rfl dX10_name_24 (fun y4 => ?_) (fun y4 => ?_)
  · omega
  refine e_al0 28 rfl dX10_name_27 ?_
  first | refine e_getIv 31 rfl dX10_name_28 f_X10_189 (by assumption) (by first | assumption | (simp only [mN_sF, mK_sF, mL_sF, mF_sF, mB_sF, mA_sF, mJ_sF, mP_sF, mO_sF, mN_sB, mK_sB, mL_sB, mF_sB, mB_sB, mA_sB, mJ_sB, mP_sB, mO_sB, mN_sA, mK_sA, mL_sA, mF_sA, mB_sA, mA_sA, mJ_sA, mP_sA, mO_sA, mN_sJ, mK_sJ, mL_sJ, mF_sJ, mB_sJ, mA_sJ, mJ_sJ, mP_sJ, mO_sJ, mN_sP, mK_sP, mL_sP, mF_sP, mB_sP, mA_sP, mJ_sP, mP_sP, mO_sP, mN_sO, mK_sO, mL_sO, mF_sO, mB_sO, mA_sO, mJ_sO, mP_sO, mO_sO, up2, if_true, if_false, eq_self, ite_true, ite_false, reduceIte, Nat.add_left_cancel_iff, Nat.add_eq_left, Nat.left_eq_add, Nat.reduceEqDiff]; assumption) | (simp only [mN_sF, mK_sF, mL_sF, mF_sF, mB_sF, mA_sF, mJ_sF, mP_sF, mO_sF, mN_sB, mK_sB, mL_sB, mF_sB, mB_sB, mA_sB, mJ_sB, mP_sB, mO_sB, mN_sA, mK_sA, mL_sA, mF_sA, mB_sA, mA_sA, mJ_sA, mP_sA, mO_sA, mN_sJ, mK_sJ, mL_sJ, mF_sJ, mB_sJ, mA_sJ, mJ_sJ, mP_sJ, mO_sJ, mN_sP, mK_sP, mL_sP, mF_sP, mB_sP, mA_sP, mJ_sP, mP_sP, mO_sP, mN_sO, mK_sO, mL_sO, mF_sO, mB_sO, mA_sO, mJ_sO, mP_sO, mO_sO, up2, if_true, if_false, eq_self, ite_true, ite_false, reduceIte, Nat.add_left_cancel_iff, Nat.add_eq_left, Nat.left_eq_add, Nat.reduceEqDiff]; done)) ?_ | refine e_getI 31 rfl dX10_name_28 f_X10_189 (by assumption) ?_
  refine e_bipush (nI 30) 33 rfl dX10_name_31 bc_30 ?_
  first | refine e_cmp_neN 38 36 (by decide) rfl dX10_name_33 rfl rfl (by omega) (by omega) (fun y5 => ?_) (fun y5 => ?_) | refine e_cmp_ne 38 36 (by decide) rfl dX10_name_33 (fun y5 => ?_) (fun y5 => ?_)
  rotate_left
  · rw [if_neg (fun q => by omega)] at k
    refine e_iconst (-1) 37 rfl dX10_name_36 ic_m1 ?_
    refine e_iret dX10_name_37 rfl ?_
    exact k μ1 f1 hM1
  have n29 : (aN S).length < 30 := by omega
  obtain ⟨tx, htx, hseg⟩ := hM1.2.1.tx hW.1.2
  obtain ⟨N, hN⟩ : ∃ N, N = (aN S).length := ⟨_, rfl⟩
  obtain ⟨Q, hQ⟩ : ∃ Q : Nat → Prop, Q = fun q => q = m ∨ (m + 18 ≤ q ∧ q ≤ m + 21) ∨ q = m + 29 := ⟨_, rfl⟩
  have nQ : ∀ q, (m + 1 ≤ q ∧ q ≤ m + 17) ∨ (m + 22 ≤ q ∧ q ≤ m + 28) ∨ m + 30 ≤ q → ¬ Q q := fun q h => by rw [hQ]; omega
  have QMF : ∀ μ2, Fr Q μ1 μ2 → MF m μ μ2 := fun μ2 h => f1.trans (h.mono (fun q a => by rw [hQ] at a; omega))
  -- the words of names told before stay
  have keepN : ∀ μ2, Fr Q μ1 μ2 → (∀ q, q < 8 * N → mA μ2 (m + 19) q = mA μ1 (m + 19) q ∧ mA μ2 (m + 21) q = mA μ1 (m + 21) q) → (∀ q, q < 168 * N → mA μ2 (m + 18) q = mA μ1 (m + 18) q ∧ mA μ2 (m + 20) q = mA μ1 (m + 20) q) → ∀ i nm, (aN S)[i]? = some nm → mA μ2 (m + 16) i = nI nm.1 ∧ mA μ2 (m + 17) i = nI nm.2.length ∧ ∀ w v, nm.2[w]? = some v → mWd μ2 m (8 * i + w) v := by
    intro μ2 hF2 hz hd i nm hi
    have hil := (List.getElem?_eq_some_iff.mp hi).1
    have hwf := hW.2.2.2.1.2 nm (List.mem_of_getElem? hi)
    obtain ⟨g1, g2, g3⟩ := hM1.2.2.2.2.2.1.2 i nm hi
    refine ⟨by rw [(hF2.2.2.2.2.2 (m + 16) (nQ _ (by omega))).2.2.1]; exact g1, by rw [(hF2.2.2.2.2.2 (m + 17) (nQ _ (by omega))).2.2.1]; exact g2, fun w v hv => ?_⟩
    have hwl := (List.getElem?_eq_some_iff.mp hv).1
    have hw8 := hwf.2.2.1
    obtain ⟨⟨a1, a2⟩, a3, a4⟩ := g3 w v hv
    have hvl := wordL (hwf.2.2.2 v (List.mem_of_getElem? hv))
    refine ⟨⟨by rw [(hz _ (by omega)).1]; exact a1, a2.of (fun j hj => (hd _ (by omega)).1)⟩, by rw [(hz _ (by omega)).2]; exact a3, a4.of (fun j hj => (hd _ (by omega)).2)⟩
  have MIof : ∀ μ2, Fr Q μ1 μ2 → kF m μ1 μ2 → (∀ q, q < 8 * N → mA μ2 (m + 19) q = mA μ1 (m + 19) q ∧ mA μ2 (m + 21) q = mA μ1 (m + 21) q) → (∀ q, q < 168 * N → mA μ2 (m + 18) q = mA μ1 (m + 18) q ∧ mA μ2 (m + 20) q = mA μ1 (m + 20) q) → MI m S μ2 := by
    intro μ2 hF2 hk hz hd
    obtain ⟨h1, h2, ⟨es, he, h3⟩, h4, h5, h6, h7⟩ := id hM1
    exact ⟨h1.fr hF2, h2.fr hF2 (hk 1 (by omega)) (nQ _ (by omega)), ⟨es, he, h3.fr hF2 (hk 3 (by omega)) (fun q a b => nQ q (by omega))⟩, h4.fr hF2 (fun q a b => nQ q (by omega)), ⟨by rw [hk 18 (by omega)]; exact h5.1, by rw [hk 19 (by omega)]; exact h5.2⟩, ⟨by rw [hk 20 (by omega)]; exact h6.1, keepN μ2 hF2 hz hd⟩, h7.fr hF2 (fun q a b => nQ q (by omega))⟩
  refine e_iconst (nI 0) 39 rfl dX10_name_38 ic_0 ?_
  refine e_is3 40 rfl dX10_name_39 (by decide) rfl ?_
  refine e_iconst (nI 0) 41 rfl dX10_name_40 ic_0 ?_
  refine e_is4 43 rfl dX10_name_41 (by decide) rfl ?_
  refine e_iconst (nI 0) 44 rfl dX10_name_43 ic_0 ?_
  refine e_is5 46 rfl dX10_name_44 (by decide) rfl ?_
  have loop : ∀ (fu i : Nat), i + fu = nn + 1 → ∀ (s : Nat) (ws : List (List Nat)) μ2 l6 l7, s ≤ i → (∀ j, s ≤ j → j < i → tx j ≠ 32) → splitB (seg tx 0 nn) = ws ++ (if s ≤ nn then splitB (seg tx s nn) else []) → (s ≤ nn ∨ i = nn + 1) → ws.length ≤ 8 → ws.all isWordL = true → Fr Q μ1 μ2 → kF m μ1 μ2 → (∀ q, q < 8 * N → mA μ2 (m + 19) q = mA μ1 (m + 19) q ∧ mA μ2 (m + 21) q = mA μ1 (m + 21) q) → (∀ q, q < 168 * N → mA μ2 (m + 18) q = mA μ1 (m + 18) q ∧ mA μ2 (m + 20) q = mA μ1 (m + 20) q) → (∀ w v, ws[w]? = some v → mWd μ2 m (8 * N + w) v) → (i = nn + 1 → s = nn + 1) →
      Ev E M_X10_name 0 0 46 [some (.ref m), some (.int (nI ld)), some (.int (nI nn)), some (.int (nI ws.length)), some (.int (nI s)), some (.int (nI i)), l6, l7] [] μ2 K := by
    intro fu
    induction fu with
    | zero =>
      intro i hi s ws μ2 l6 l7 hsi hnb hsp hor hw8 hall hF2 hk2 hz hd hws hend
      have ei : i = nn + 1 := by omega
      have es' := hend ei
      rw [if_neg (by omega), List.append_nil] at hsp
      have hg2 := hM1.1.fr hF2
      have mk2 := hg2.1
      have n2 : mF μ2 m 20 = nI N := by rw [hk2 20 (by omega), hN]; exact nm1
      rw [hseg nn hh] at hsp
      have hok : nameOK ((aT S).take nn) = true := by
        unfold nameOK
        rw [hsp, hall]
        simp [hw8]
      rw [if_pos ⟨n29, hok⟩, hsp, ← hN] at k
      refine e_il5 48 rfl dX10_name_46 ?_
      refine e_il2 49 rfl dX10_name_48 ?_
      first | refine e_cmp_gtN 221 52 (by decide) rfl dX10_name_49 rfl rfl (by omega) (by omega) (fun y6 => ?_) (fun y6 => ?_) | refine e_cmp_gt 221 52 (by decide) rfl dX10_name_49 (fun y6 => ?_) (fun y6 => ?_)
      rotate_left
      · omega
      have mk3 : mK (sF μ2 m 1 (nI 0)) m = 11 := mk2
      have n3 : mF (sF μ2 m 1 (nI 0)) m 20 = nI N := by simp only [mN_sF, mK_sF, mL_sF, mF_sF, mB_sF, mA_sF, mJ_sF, mP_sF, mO_sF, mN_sB, mK_sB, mL_sB, mF_sB, mB_sB, mA_sB, mJ_sB, mP_sB, mO_sB, mN_sA, mK_sA, mL_sA, mF_sA, mB_sA, mA_sA, mJ_sA, mP_sA, mO_sA, mN_sJ, mK_sJ, mL_sJ, mF_sJ, mB_sJ, mA_sJ, mJ_sJ, mP_sJ, mO_sJ, mN_sP, mK_sP, mL_sP, mF_sP, mB_sP, mA_sP, mJ_sP, mP_sP, mO_sP, mN_sO, mK_sO, mL_sO, mF_sO, mB_sO, mA_sO, mJ_sO, mP_sO, mO_sO, up2, if_true, if_false, eq_self, ite_true, ite_false, reduceIte, Nat.add_left_cancel_iff, Nat.add_eq_left, Nat.left_eq_add, Nat.reduceEqDiff]; exact n2
      obtain ⟨pl, kl, ll⟩ := hg2.nLand
      obtain ⟨pw, kw, lw⟩ := hg2.nWords
      refine e_al0 222 rfl dX10_name_221 ?_
      refine e_iconst (nI 0) 223 rfl dX10_name_222 ic_0 ?_
      refine e_putI 226 rfl dX10_name_223 f_X10_129 (by assumption) ?_
      refine e_al0 227 rfl dX10_name_226 ?_
      refine e_getR 230 rfl dX10_name_227 f_X10_60 (by assumption) (by assumption) ?_
      refine e_al0 231 rfl dX10_name_230 ?_
      first | refine e_getIv 234 rfl dX10_name_231 f_X10_189 (by assumption) (by first | assumption | (simp only [mN_sF, mK_sF, mL_sF, mF_sF, mB_sF, mA_sF, mJ_sF, mP_sF, mO_sF, mN_sB, mK_sB, mL_sB, mF_sB, mB_sB, mA_sB, mJ_sB, mP_sB, mO_sB, mN_sA, mK_sA, mL_sA, mF_sA, mB_sA, mA_sA, mJ_sA, mP_sA, mO_sA, mN_sJ, mK_sJ, mL_sJ, mF_sJ, mB_sJ, mA_sJ, mJ_sJ, mP_sJ, mO_sJ, mN_sP, mK_sP, mL_sP, mF_sP, mB_sP, mA_sP, mJ_sP, mP_sP, mO_sP, mN_sO, mK_sO, mL_sO, mF_sO, mB_sO, mA_sO, mJ_sO, mP_sO, mO_sO, up2, if_true, if_false, eq_self, ite_true, ite_false, reduceIte, Nat.add_left_cancel_iff, Nat.add_eq_left, Nat.left_eq_add, Nat.reduceEqDiff]; assumption) | (simp only [mN_sF, mK_sF, mL_sF, mF_sF, mB_sF, mA_sF, mJ_sF, mP_sF, mO_sF, mN_sB, mK_sB, mL_sB, mF_sB, mB_sB, mA_sB, mJ_sB, mP_sB, mO_sB, mN_sA, mK_sA, mL_sA, mF_sA, mB_sA, mA_sA, mJ_sA, mP_sA, mO_sA, mN_sJ, mK_sJ, mL_sJ, mF_sJ, mB_sJ, mA_sJ, mJ_sJ, mP_sJ, mO_sJ, mN_sP, mK_sP, mL_sP, mF_sP, mB_sP, mA_sP, mJ_sP, mP_sP, mO_sP, mN_sO, mK_sO, mL_sO, mF_sO, mB_sO, mA_sO, mJ_sO, mP_sO, mO_sO, up2, if_true, if_false, eq_self, ite_true, ite_false, reduceIte, Nat.add_left_cancel_iff, Nat.add_eq_left, Nat.left_eq_add, Nat.reduceEqDiff]; done)) ?_ | refine e_getI 234 rfl dX10_name_231 f_X10_189 (by assumption) ?_
      refine e_il1 235 rfl dX10_name_234 ?_
      refine e_iast 236 rfl dX10_name_235 (by assumption) (by assumption) (by first | rfl | simp only [pk_mul, nI_add]) (by omega) (by omega) ?_
      have mk4 : mK (sA (sF μ2 m 1 (nI 0)) (m + 16) N (nI ld)) m = 11 := mk2
      have n4 : mF (sA (sF μ2 m 1 (nI 0)) (m + 16) N (nI ld)) m 20 = nI N := n3
      refine e_al0 237 rfl dX10_name_236 ?_
      refine e_getR 240 rfl dX10_name_237 f_X10_63 (by assumption) (by assumption) ?_
      refine e_al0 241 rfl dX10_name_240 ?_
      first | refine e_getIv 244 rfl dX10_name_241 f_X10_189 (by assumption) (by first | assumption | (simp only [mN_sF, mK_sF, mL_sF, mF_sF, mB_sF, mA_sF, mJ_sF, mP_sF, mO_sF, mN_sB, mK_sB, mL_sB, mF_sB, mB_sB, mA_sB, mJ_sB, mP_sB, mO_sB, mN_sA, mK_sA, mL_sA, mF_sA, mB_sA, mA_sA, mJ_sA, mP_sA, mO_sA, mN_sJ, mK_sJ, mL_sJ, mF_sJ, mB_sJ, mA_sJ, mJ_sJ, mP_sJ, mO_sJ, mN_sP, mK_sP, mL_sP, mF_sP, mB_sP, mA_sP, mJ_sP, mP_sP, mO_sP, mN_sO, mK_sO, mL_sO, mF_sO, mB_sO, mA_sO, mJ_sO, mP_sO, mO_sO, up2, if_true, if_false, eq_self, ite_true, ite_false, reduceIte, Nat.add_left_cancel_iff, Nat.add_eq_left, Nat.left_eq_add, Nat.reduceEqDiff]; assumption) | (simp only [mN_sF, mK_sF, mL_sF, mF_sF, mB_sF, mA_sF, mJ_sF, mP_sF, mO_sF, mN_sB, mK_sB, mL_sB, mF_sB, mB_sB, mA_sB, mJ_sB, mP_sB, mO_sB, mN_sA, mK_sA, mL_sA, mF_sA, mB_sA, mA_sA, mJ_sA, mP_sA, mO_sA, mN_sJ, mK_sJ, mL_sJ, mF_sJ, mB_sJ, mA_sJ, mJ_sJ, mP_sJ, mO_sJ, mN_sP, mK_sP, mL_sP, mF_sP, mB_sP, mA_sP, mJ_sP, mP_sP, mO_sP, mN_sO, mK_sO, mL_sO, mF_sO, mB_sO, mA_sO, mJ_sO, mP_sO, mO_sO, up2, if_true, if_false, eq_self, ite_true, ite_false, reduceIte, Nat.add_left_cancel_iff, Nat.add_eq_left, Nat.left_eq_add, Nat.reduceEqDiff]; done)) ?_ | refine e_getI 244 rfl dX10_name_241 f_X10_189 (by assumption) ?_
      refine e_il3 245 rfl dX10_name_244 ?_
      refine e_iast 246 rfl dX10_name_245 (by assumption) (by assumption) (by first | rfl | simp only [pk_mul, nI_add]) (by omega) (by omega) ?_
      have mk5 : mK (sA (sA (sF μ2 m 1 (nI 0)) (m + 16) N (nI ld)) (m + 17) N (nI ws.length)) m = 11 := mk2
      have n5 : mF (sA (sA (sF μ2 m 1 (nI 0)) (m + 16) N (nI ld)) (m + 17) N (nI ws.length)) m 20 = nI N := n3
      refine e_al0 247 rfl dX10_name_246 ?_
      refine e_dup 248 rfl dX10_name_247 rfl ?_
      first | refine e_getIv 251 rfl dX10_name_248 f_X10_189 (by assumption) (by first | assumption | (simp only [mN_sF, mK_sF, mL_sF, mF_sF, mB_sF, mA_sF, mJ_sF, mP_sF, mO_sF, mN_sB, mK_sB, mL_sB, mF_sB, mB_sB, mA_sB, mJ_sB, mP_sB, mO_sB, mN_sA, mK_sA, mL_sA, mF_sA, mB_sA, mA_sA, mJ_sA, mP_sA, mO_sA, mN_sJ, mK_sJ, mL_sJ, mF_sJ, mB_sJ, mA_sJ, mJ_sJ, mP_sJ, mO_sJ, mN_sP, mK_sP, mL_sP, mF_sP, mB_sP, mA_sP, mJ_sP, mP_sP, mO_sP, mN_sO, mK_sO, mL_sO, mF_sO, mB_sO, mA_sO, mJ_sO, mP_sO, mO_sO, up2, if_true, if_false, eq_self, ite_true, ite_false, reduceIte, Nat.add_left_cancel_iff, Nat.add_eq_left, Nat.left_eq_add, Nat.reduceEqDiff]; assumption) | (simp only [mN_sF, mK_sF, mL_sF, mF_sF, mB_sF, mA_sF, mJ_sF, mP_sF, mO_sF, mN_sB, mK_sB, mL_sB, mF_sB, mB_sB, mA_sB, mJ_sB, mP_sB, mO_sB, mN_sA, mK_sA, mL_sA, mF_sA, mB_sA, mA_sA, mJ_sA, mP_sA, mO_sA, mN_sJ, mK_sJ, mL_sJ, mF_sJ, mB_sJ, mA_sJ, mJ_sJ, mP_sJ, mO_sJ, mN_sP, mK_sP, mL_sP, mF_sP, mB_sP, mA_sP, mJ_sP, mP_sP, mO_sP, mN_sO, mK_sO, mL_sO, mF_sO, mB_sO, mA_sO, mJ_sO, mP_sO, mO_sO, up2, if_true, if_false, eq_self, ite_true, ite_false, reduceIte, Nat.add_left_cancel_iff, Nat.add_eq_left, Nat.left_eq_add, Nat.reduceEqDiff]; done)) ?_ | refine e_getI 251 rfl dX10_name_248 f_X10_189 (by assumption) ?_
      refine e_iconst (nI 1) 252 rfl dX10_name_251 ic_1 ?_
      first | refine e_iaddN 253 rfl dX10_name_252 rfl rfl ?_ | refine e_iadd 253 rfl dX10_name_252 ?_
      refine e_putI 256 rfl dX10_name_253 f_X10_189 (by assumption) ?_
      have hF6 : Fr (fun q => q = m ∨ q = m + 16 ∨ q = m + 17) μ2 (sF (sA (sA (sF μ2 m 1 (nI 0)) (m + 16) N (nI ld)) (m + 17) N (nI ws.length)) m 20 (nI (N + 1))) := ((((Fr.rf (S := fun q => q = m ∨ q = m + 16 ∨ q = m + 17)).sF (Or.inl rfl) _ _).sA (Or.inr (Or.inl rfl)) _ _).sA (Or.inr (Or.inr rfl)) _ _).sF (Or.inl rfl) _ _
      have h16 : mF (sF (sA (sA (sF μ2 m 1 (nI 0)) (m + 16) N (nI ld)) (m + 17) N (nI ws.length)) m 20 (nI (N + 1))) m 1 = nI 0 := by
        show up2 (up2 _ m 1 _) m 20 _ m 1 = _
        rw [up2_k (by decide), up2_s]
      have h206 : mF (sF (sA (sA (sF μ2 m 1 (nI 0)) (m + 16) N (nI ld)) (m + 17) N (nI ws.length)) m 20 (nI (N + 1))) m 20 = nI (N + 1) := by
        show up2 (up2 _ m 1 _) m 20 _ m 20 = _
        rw [up2_s]
      have hff6 : ∀ f, f ≠ 1 → f ≠ 20 → mF (sF (sA (sA (sF μ2 m 1 (nI 0)) (m + 16) N (nI ld)) (m + 17) N (nI ws.length)) m 20 (nI (N + 1))) m f = mF μ2 m f := fun f a b => by
        show up2 (up2 _ m 1 _) m 20 _ m f = _
        rw [up2_k b, up2_k a]
      have hA16 : ∀ u, mA (sF (sA (sA (sF μ2 m 1 (nI 0)) (m + 16) N (nI ld)) (m + 17) N (nI ws.length)) m 20 (nI (N + 1))) (m + 16) u = if u = N then nI ld else mA μ2 (m + 16) u := fun u => by
        show up2 (up2 _ (m + 16) _ _) (m + 17) _ _ (m + 16) u = _
        rw [up2_a (by omega)]
        by_cases c : u = N
        · rw [if_pos c, c, up2_s]
        · rw [if_neg c, up2_k c]; rfl
      have hA17 : ∀ u, mA (sF (sA (sA (sF μ2 m 1 (nI 0)) (m + 16) N (nI ld)) (m + 17) N (nI ws.length)) m 20 (nI (N + 1))) (m + 17) u = if u = N then nI ws.length else mA μ2 (m + 17) u := fun u => by
        show up2 (up2 _ (m + 16) _ _) (m + 17) _ _ (m + 17) u = _
        by_cases c : u = N
        · rw [if_pos c, c, up2_s]
        · rw [if_neg c, up2_k c, up2_a (by omega)]; rfl
      have mk6 : mK (sF (sA (sA (sF μ2 m 1 (nI 0)) (m + 16) N (nI ld)) (m + 17) N (nI ws.length)) m 20 (nI (N + 1))) m = 11 := mk2
      clear mk3 mk4 mk5 n3 n4 n5
      generalize sF (sA (sA (sF μ2 m 1 (nI 0)) (m + 16) N (nI ld)) (m + 17) N (nI ws.length)) m 20 (nI (N + 1)) = μ6 at hF6 h16 h206 hff6 hA16 hA17 mk6 ⊢
      refine e_al0 257 rfl dX10_name_256 ?_
      first | refine e_getIv 260 rfl dX10_name_257 f_X10_189 (by assumption) (by first | assumption | (simp only [mN_sF, mK_sF, mL_sF, mF_sF, mB_sF, mA_sF, mJ_sF, mP_sF, mO_sF, mN_sB, mK_sB, mL_sB, mF_sB, mB_sB, mA_sB, mJ_sB, mP_sB, mO_sB, mN_sA, mK_sA, mL_sA, mF_sA, mB_sA, mA_sA, mJ_sA, mP_sA, mO_sA, mN_sJ, mK_sJ, mL_sJ, mF_sJ, mB_sJ, mA_sJ, mJ_sJ, mP_sJ, mO_sJ, mN_sP, mK_sP, mL_sP, mF_sP, mB_sP, mA_sP, mJ_sP, mP_sP, mO_sP, mN_sO, mK_sO, mL_sO, mF_sO, mB_sO, mA_sO, mJ_sO, mP_sO, mO_sO, up2, if_true, if_false, eq_self, ite_true, ite_false, reduceIte, Nat.add_left_cancel_iff, Nat.add_eq_left, Nat.left_eq_add, Nat.reduceEqDiff]; assumption) | (simp only [mN_sF, mK_sF, mL_sF, mF_sF, mB_sF, mA_sF, mJ_sF, mP_sF, mO_sF, mN_sB, mK_sB, mL_sB, mF_sB, mB_sB, mA_sB, mJ_sB, mP_sB, mO_sB, mN_sA, mK_sA, mL_sA, mF_sA, mB_sA, mA_sA, mJ_sA, mP_sA, mO_sA, mN_sJ, mK_sJ, mL_sJ, mF_sJ, mB_sJ, mA_sJ, mJ_sJ, mP_sJ, mO_sJ, mN_sP, mK_sP, mL_sP, mF_sP, mB_sP, mA_sP, mJ_sP, mP_sP, mO_sP, mN_sO, mK_sO, mL_sO, mF_sO, mB_sO, mA_sO, mJ_sO, mP_sO, mO_sO, up2, if_true, if_false, eq_self, ite_true, ite_false, reduceIte, Nat.add_left_cancel_iff, Nat.add_eq_left, Nat.left_eq_add, Nat.reduceEqDiff]; done)) ?_ | refine e_getI 260 rfl dX10_name_257 f_X10_189 (by assumption) ?_
      refine e_iconst (nI 1) 261 rfl dX10_name_260 ic_1 ?_
      first | refine e_isubN 262 rfl dX10_name_261 rfl rfl (by omega) ?_ | refine e_isub 262 rfl dX10_name_261 ?_
      refine e_iret dX10_name_262 rfl ?_
      rw [show N + 1 - 1 = N by omega]
      have hM2 := MIof μ2 hF2 hk2 hz hd
      obtain ⟨h1, h2, ⟨es, he, h3⟩, h4, h5, h6, h7⟩ := id hM2
      refine k μ6 ((QMF μ2 hF2).trans (hF6.mono (fun q h => by omega))) ⟨h1.fr hF6, ⟨h16, Hd.nil⟩, ⟨es, he, h3.fr hF6 (hff6 3 (by decide) (by decide)) (fun q a b => by omega)⟩, h4.fr hF6 (fun q a b => by omega), ⟨by rw [hff6 18 (by decide) (by decide)]; exact h5.1, by rw [hff6 19 (by decide) (by decide)]; exact h5.2⟩, ⟨?_, fun i nm hi => ?_⟩, h7.fr hF6 (fun q a b => by omega)⟩
      · show mF μ6 m 20 = nI (aN S ++ [(ld, ws)]).length
        rw [h206, List.length_append, ← hN]; rfl
      · have hi : (aN S ++ [(ld, ws)])[i]? = some nm := hi
        by_cases c : i < (aN S).length
        · rw [List.getElem?_append_left c] at hi
          obtain ⟨g1, g2, g3⟩ := h6.2 i nm hi
          exact ⟨by rw [hA16, if_neg (by omega)]; exact g1, by rw [hA17, if_neg (by omega)]; exact g2, fun w v hv => (g3 w v hv).fr hF6 (fun q a b => by omega)⟩
        · rw [List.getElem?_append_right (by omega)] at hi
          have hz' : i - (aN S).length < 1 := (List.getElem?_eq_some_iff.mp hi).1
          have ei' : i = N := by omega
          rw [show i - (aN S).length = 0 by omega] at hi
          have hi2 : (ld, ws) = nm := Option.some.inj hi
          rw [← hi2, ei']
          exact ⟨by rw [hA16, if_pos rfl], by rw [hA17, if_pos rfl], fun w v hv => (hws w v hv).fr hF6 (fun q a b => by omega)⟩
    | succ fu ih =>
      intro i hi s ws μ2 l6 l7 hsi hnb hsp hor hw8 hall hF2 hk2 hz hd hws hend
      have hg2 := hM1.1.fr hF2
      have mk2 := hg2.1
      have n2 : mF μ2 m 20 = nI N := by rw [hk2 20 (by omega), hN]; exact nm1
      have hsm : s ≤ nn := by rcases hor with q | q <;> omega
      rw [if_pos hsm] at hsp
      have htx2 : ∀ i, i < nn → mA μ2 (m + 1) i = nI (tx i) ∧ tx i < 256 := fun i hi => ⟨by rw [(hF2.2.2.2.2.2 (m + 1) (nQ _ (by omega))).2.2.1]; exact (htx i (by omega)).1, (htx i (by omega)).2⟩
      have hM2 := MIof μ2 hF2 hk2 hz hd
      have bad : nameOK (seg tx 0 nn) = false → ∀ μ3, MF m μ μ3 → MI m S μ3 → K (some (.int (-1))) μ3 := fun h μ3 a b => by
        rw [hseg nn hh] at h
        rw [if_neg (fun q => by rw [h] at q; exact absurd q.2 (by decide))] at k
        exact k μ3 a b
      have cut : (i = nn ∨ (i < nn ∧ tx i = 32)) → Ev E M_X10_name 0 0 73 [some (.ref m), some (.int (nI ld)), some (.int (nI nn)), some (.int (nI ws.length)), some (.int (nI s)), some (.int (nI i)), l6, l7] [] μ2 K := by
        intro hcut
        have hp : 32 ∉ seg tx s i := fun q => by obtain ⟨j, q1, q2, q3⟩ := seg_mem q; exact hnb j q1 q2 q3
        have hsp2 : splitB (seg tx s nn) = seg tx s i :: (if i + 1 ≤ nn then splitB (seg tx (i + 1) nn) else []) := by
          rcases hcut with q | ⟨q, q2⟩
          · subst q
            rw [if_neg (by omega), splitB_one hp]
          · rw [if_pos (by omega), seg_split tx hsi q, q2, splitB_cut hp]
        have hsp3 : splitB (seg tx 0 nn) = (ws ++ [seg tx s i]) ++ (if i + 1 ≤ nn then splitB (seg tx (i + 1) nn) else []) := by rw [hsp, hsp2]; simp
        refine e_il3 74 rfl dX10_name_73 ?_
        refine e_bipush (nI 8) 76 rfl dX10_name_74 bc_8 ?_
        first | refine e_cmp_eqN 90 79 (by decide) rfl dX10_name_76 rfl rfl (by omega) (by omega) (fun y7 => ?_) (fun y7 => ?_) | refine e_cmp_eq 90 79 (by decide) rfl dX10_name_76 (fun y7 => ?_) (fun y7 => ?_)
        · refine e_iconst (-1) 91 rfl dX10_name_90 ic_m1 ?_
          refine e_iret dX10_name_91 rfl ?_
          refine bad ?_ μ2 (QMF μ2 hF2) hM2
          unfold nameOK
          have : ¬ ((splitB (seg tx 0 nn)).length ≤ 8) := by rw [hsp3]; simp; omega
          simp [this]
        have hw7 : ws.length < 8 := by omega
        refine e_al0 80 rfl dX10_name_79 ?_
        refine e_il4 82 rfl dX10_name_80 ?_
        refine e_il5 84 rfl dX10_name_82 ?_
        refine e_invV0 [_, _] 87 rfl dX10_name_84 k_X10_182 mo_X10_isWord rm_X10_name_X10_isWord ⟨rfl, rfl⟩ rfl rfl (by assumption) (Nat.le_of_ble_eq_true rfl) ?_
        refine c_mIsWord (tx := tx) hg2 hsi (by omega) (fun j hj => htx2 j (by omega)) (fun hno μ3 hF3 hf3 => ?_) (fun hok μ3 hF3 hf3 h39 hH3 => ?_)
        · have hFq : Fr (mQ m) μ2 μ3 := hF3.mono (fun q a => by unfold iwQ at a; unfold mQ; omega)
          first | refine e_if_neB 92 90 (by decide) rfl dX10_name_87 rfl (fun y8 => ?_) (fun y8 => ?_) | refine e_if_neN 92 90 (by decide) rfl dX10_name_87 rfl (by omega) (fun y8 => ?_) (fun y8 => ?_) | refine e_if_ne 92 90 (by decide) rfl dX10_name_87 (fun y8 => ?_) (fun y8 => ?_)
          · exact absurd rfl y8
          refine e_iconst (-1) 91 rfl dX10_name_90 ic_m1 ?_
          refine e_iret dX10_name_91 rfl ?_
          refine bad ?_ μ3 ((QMF μ2 hF2).trans (mQ_MF hFq)) (hM2.scr hFq (fun f hf => hf3 f (by omega)))
          unfold nameOK
          rw [hsp3]
          simp [hno]
        have hvw := wordL hok
        have hsl : (seg tx s i).length = i - s := seg_len tx s i
        have hF13 : Fr Q μ1 μ3 := hF2.trans (hF3.mono (fun q a => by unfold iwQ at a; rw [hQ]; omega))
        have hk3 : kF m μ1 μ3 := hk2.trans (fun f hf => hf3 f (by omega))
        have hg3 := hM1.1.fr hF13
        have mk3 := hg3.1
        have n3 : mF μ3 m 20 = nI N := by rw [hk3 20 (by omega), hN]; exact nm1
        have c3 : ∀ q, q ≠ m → q ≠ m + 29 → mA μ3 q = mA μ2 q := fun q a b => (hF3.2.2.2.2.2 q (by unfold iwQ; omega)).2.2.1
        obtain ⟨v, hv⟩ : ∃ v, v = seg tx s i := ⟨_, rfl⟩
        rw [← hv] at h39 hH3 hok hvw hsl
        obtain ⟨W, hWd⟩ : ∃ W, W = 8 * N + ws.length := ⟨_, rfl⟩
        have hW240 : W < 240 := by omega
        obtain ⟨pz, kz, lz⟩ := hg3.toldSize
        obtain ⟨pz2, kz2, lz2⟩ := hg3.foldSize
        have lW : nI (8 * N + ws.length) = nI W := by rw [hWd]
        first | refine e_if_neB 92 90 (by decide) rfl dX10_name_87 rfl (fun y8 => ?_) (fun y8 => ?_) | refine e_if_neN 92 90 (by decide) rfl dX10_name_87 rfl (by omega) (fun y8 => ?_) (fun y8 => ?_) | refine e_if_ne 92 90 (by decide) rfl dX10_name_87 (fun y8 => ?_) (fun y8 => ?_)
        rotate_left
        · exact absurd y8 (by decide)
        refine e_bipush (nI 8) 94 rfl dX10_name_92 bc_8 ?_
        refine e_al0 95 rfl dX10_name_94 ?_
        first | refine e_getIv 98 rfl dX10_name_95 f_X10_189 (by assumption) (by first | assumption | (simp only [mN_sF, mK_sF, mL_sF, mF_sF, mB_sF, mA_sF, mJ_sF, mP_sF, mO_sF, mN_sB, mK_sB, mL_sB, mF_sB, mB_sB, mA_sB, mJ_sB, mP_sB, mO_sB, mN_sA, mK_sA, mL_sA, mF_sA, mB_sA, mA_sA, mJ_sA, mP_sA, mO_sA, mN_sJ, mK_sJ, mL_sJ, mF_sJ, mB_sJ, mA_sJ, mJ_sJ, mP_sJ, mO_sJ, mN_sP, mK_sP, mL_sP, mF_sP, mB_sP, mA_sP, mJ_sP, mP_sP, mO_sP, mN_sO, mK_sO, mL_sO, mF_sO, mB_sO, mA_sO, mJ_sO, mP_sO, mO_sO, up2, if_true, if_false, eq_self, ite_true, ite_false, reduceIte, Nat.add_left_cancel_iff, Nat.add_eq_left, Nat.left_eq_add, Nat.reduceEqDiff]; assumption) | (simp only [mN_sF, mK_sF, mL_sF, mF_sF, mB_sF, mA_sF, mJ_sF, mP_sF, mO_sF, mN_sB, mK_sB, mL_sB, mF_sB, mB_sB, mA_sB, mJ_sB, mP_sB, mO_sB, mN_sA, mK_sA, mL_sA, mF_sA, mB_sA, mA_sA, mJ_sA, mP_sA, mO_sA, mN_sJ, mK_sJ, mL_sJ, mF_sJ, mB_sJ, mA_sJ, mJ_sJ, mP_sJ, mO_sJ, mN_sP, mK_sP, mL_sP, mF_sP, mB_sP, mA_sP, mJ_sP, mP_sP, mO_sP, mN_sO, mK_sO, mL_sO, mF_sO, mB_sO, mA_sO, mJ_sO, mP_sO, mO_sO, up2, if_true, if_false, eq_self, ite_true, ite_false, reduceIte, Nat.add_left_cancel_iff, Nat.add_eq_left, Nat.left_eq_add, Nat.reduceEqDiff]; done)) ?_ | refine e_getI 98 rfl dX10_name_95 f_X10_189 (by assumption) ?_
        first | refine e_imulN 99 rfl dX10_name_98 rfl rfl ?_ | refine e_imul 99 rfl dX10_name_98 ?_
        refine e_il3 100 rfl dX10_name_99 ?_
        first | refine e_iaddN 101 rfl dX10_name_100 rfl rfl ?_ | refine e_iadd 101 rfl dX10_name_100 ?_
        rw [lW]
        refine e_is6 103 rfl dX10_name_101 (by decide) rfl ?_
        refine e_al0 104 rfl dX10_name_103 ?_
        refine e_getR 107 rfl dX10_name_104 f_X10_69 (by assumption) (by assumption) ?_
        refine e_il6 109 rfl dX10_name_107 ?_
        refine e_il5 111 rfl dX10_name_109 ?_
        refine e_il4 113 rfl dX10_name_111 ?_
        first | refine e_isubN 114 rfl dX10_name_113 rfl rfl (by omega) ?_ | refine e_isub 114 rfl dX10_name_113 ?_
        refine e_iast 115 rfl dX10_name_114 (by assumption) (by assumption) (by first | rfl | simp only [pk_mul, nI_add]) (by omega) (by omega) ?_
        refine e_iconst (nI 0) 116 rfl dX10_name_115 ic_0 ?_
        refine e_is7 118 rfl dX10_name_116 (by decide) rfl ?_
        -- told
        have told : ∀ (gu j : Nat), j + gu = i - s → ∀ μ4, Fr (fun q => q = m + 18) (sA μ3 (m + 19) W (nI (i - s))) μ4 → (∀ u, mA μ4 (m + 18) u = if 21 * W ≤ u ∧ u < 21 * W + j then nI (tx (s + (u - 21 * W))) else mA μ3 (m + 18) u) → Ev E M_X10_name 0 0 118 [some (.ref m), some (.int (nI ld)), some (.int (nI nn)), some (.int (nI ws.length)), some (.int (nI s)), some (.int (nI i)), some (.int (nI W)), some (.int (nI j))] [] μ4 K := by
          intro gu
          induction gu with
          | zero =>
            intro j hj μ4 hF4 hw4
            have ej : j = i - s := by omega
            subst ej
            have hF34 : Fr (fun q => q = m + 18 ∨ q = m + 19) μ3 μ4 := ((Fr.rf (S := fun q => q = m + 18 ∨ q = m + 19)).sA (Or.inr rfl) _ _).trans (hF4.mono (fun q h => Or.inl h))
            have hg4 := hg3.fr hF34
            have mk4 := hg4.1
            obtain ⟨pz4, kz4, lz4⟩ := hg4.foldSize
            have h394 : mF μ4 m 39 = nI (foldL v).length := by rw [(hF34.2.2.2.2.2 m (by omega)).1]; exact h39
            have z4 : ∀ u, mA μ4 (m + 19) u = if u = W then nI (i - s) else mA μ3 (m + 19) u := fun u => by
              rw [(hF4.2.2.2.2.2 (m + 19) (by omega)).2.2.1]
              show up2 _ (m + 19) _ _ (m + 19) u = _
              by_cases c : u = W
              · rw [if_pos c, c, up2_s]
              · rw [if_neg c, up2_k c]
            refine e_il7 120 rfl dX10_name_118 ?_
            refine e_il5 122 rfl dX10_name_120 ?_
            refine e_il4 124 rfl dX10_name_122 ?_
            first | refine e_isubN 125 rfl dX10_name_124 rfl rfl (by omega) ?_ | refine e_isub 125 rfl dX10_name_124 ?_
            first | refine e_cmp_geN 157 128 (by decide) rfl dX10_name_125 rfl rfl (by omega) (by omega) (fun y9 => ?_) (fun y9 => ?_) | refine e_cmp_ge 157 128 (by decide) rfl dX10_name_125 (fun y9 => ?_) (fun y9 => ?_)
            rotate_left
            · omega
            refine e_al0 158 rfl dX10_name_157 ?_
            refine e_getR 161 rfl dX10_name_158 f_X10_75 (by assumption) (by assumption) ?_
            refine e_il6 163 rfl dX10_name_161 ?_
            refine e_al0 164 rfl dX10_name_163 ?_
            first | refine e_getIv 167 rfl dX10_name_164 f_X10_173 (by assumption) (by first | assumption | (simp only [mN_sF, mK_sF, mL_sF, mF_sF, mB_sF, mA_sF, mJ_sF, mP_sF, mO_sF, mN_sB, mK_sB, mL_sB, mF_sB, mB_sB, mA_sB, mJ_sB, mP_sB, mO_sB, mN_sA, mK_sA, mL_sA, mF_sA, mB_sA, mA_sA, mJ_sA, mP_sA, mO_sA, mN_sJ, mK_sJ, mL_sJ, mF_sJ, mB_sJ, mA_sJ, mJ_sJ, mP_sJ, mO_sJ, mN_sP, mK_sP, mL_sP, mF_sP, mB_sP, mA_sP, mJ_sP, mP_sP, mO_sP, mN_sO, mK_sO, mL_sO, mF_sO, mB_sO, mA_sO, mJ_sO, mP_sO, mO_sO, up2, if_true, if_false, eq_self, ite_true, ite_false, reduceIte, Nat.add_left_cancel_iff, Nat.add_eq_left, Nat.left_eq_add, Nat.reduceEqDiff]; assumption) | (simp only [mN_sF, mK_sF, mL_sF, mF_sF, mB_sF, mA_sF, mJ_sF, mP_sF, mO_sF, mN_sB, mK_sB, mL_sB, mF_sB, mB_sB, mA_sB, mJ_sB, mP_sB, mO_sB, mN_sA, mK_sA, mL_sA, mF_sA, mB_sA, mA_sA, mJ_sA, mP_sA, mO_sA, mN_sJ, mK_sJ, mL_sJ, mF_sJ, mB_sJ, mA_sJ, mJ_sJ, mP_sJ, mO_sJ, mN_sP, mK_sP, mL_sP, mF_sP, mB_sP, mA_sP, mJ_sP, mP_sP, mO_sP, mN_sO, mK_sO, mL_sO, mF_sO, mB_sO, mA_sO, mJ_sO, mP_sO, mO_sO, up2, if_true, if_false, eq_self, ite_true, ite_false, reduceIte, Nat.add_left_cancel_iff, Nat.add_eq_left, Nat.left_eq_add, Nat.reduceEqDiff]; done)) ?_ | refine e_getI 167 rfl dX10_name_164 f_X10_173 (by assumption) ?_
            refine e_iast 168 rfl dX10_name_167 (by assumption) (by assumption) (by first | rfl | simp only [pk_mul, nI_add]) (by omega) (by omega) ?_
            refine e_iconst (nI 0) 169 rfl dX10_name_168 ic_0 ?_
            refine e_is7 171 rfl dX10_name_169 (by decide) rfl ?_
            have fold : ∀ (hu j : Nat), j + hu = (foldL v).length → ∀ μ5, Fr (fun q => q = m + 20) (sA μ4 (m + 21) W (nI (foldL v).length)) μ5 → (∀ u, ¬ (21 * W ≤ u ∧ u < 21 * W + 21) → mA μ5 (m + 20) u = mA μ4 (m + 20) u) → Hd (fun q => mA μ5 (m + 20) (21 * W + q)) ((foldL v).take j) → Ev E M_X10_name 0 0 171 [some (.ref m), some (.int (nI ld)), some (.int (nI nn)), some (.int (nI ws.length)), some (.int (nI s)), some (.int (nI i)), some (.int (nI W)), some (.int (nI j))] [] μ5 K := by
              intro hu
              induction hu with
              | zero =>
                intro j hj μ5 hF5 hw5 hH5
                have hF45 : Fr (fun q => q = m + 20 ∨ q = m + 21) μ4 μ5 := ((Fr.rf (S := fun q => q = m + 20 ∨ q = m + 21)).sA (Or.inr rfl) _ _).trans (hF5.mono (fun q h => Or.inl h))
                have hg5 := hg4.fr hF45
                have mk5 := hg5.1
                have h395 : mF μ5 m 39 = nI (foldL v).length := by rw [(hF45.2.2.2.2.2 m (by omega)).1]; exact h394
                have z5 : ∀ u, mA μ5 (m + 21) u = if u = W then nI (foldL v).length else mA μ4 (m + 21) u := fun u => by
                  rw [(hF5.2.2.2.2.2 (m + 21) (by omega)).2.2.1]
                  show up2 _ (m + 21) _ _ (m + 21) u = _
                  by_cases c : u = W
                  · rw [if_pos c, c, up2_s]
                  · rw [if_neg c, up2_k c]
                refine e_il7 173 rfl dX10_name_171 ?_
                refine e_al0 174 rfl dX10_name_173 ?_
                first | refine e_getIv 177 rfl dX10_name_174 f_X10_173 (by assumption) (by first | assumption | (simp only [mN_sF, mK_sF, mL_sF, mF_sF, mB_sF, mA_sF, mJ_sF, mP_sF, mO_sF, mN_sB, mK_sB, mL_sB, mF_sB, mB_sB, mA_sB, mJ_sB, mP_sB, mO_sB, mN_sA, mK_sA, mL_sA, mF_sA, mB_sA, mA_sA, mJ_sA, mP_sA, mO_sA, mN_sJ, mK_sJ, mL_sJ, mF_sJ, mB_sJ, mA_sJ, mJ_sJ, mP_sJ, mO_sJ, mN_sP, mK_sP, mL_sP, mF_sP, mB_sP, mA_sP, mJ_sP, mP_sP, mO_sP, mN_sO, mK_sO, mL_sO, mF_sO, mB_sO, mA_sO, mJ_sO, mP_sO, mO_sO, up2, if_true, if_false, eq_self, ite_true, ite_false, reduceIte, Nat.add_left_cancel_iff, Nat.add_eq_left, Nat.left_eq_add, Nat.reduceEqDiff]; assumption) | (simp only [mN_sF, mK_sF, mL_sF, mF_sF, mB_sF, mA_sF, mJ_sF, mP_sF, mO_sF, mN_sB, mK_sB, mL_sB, mF_sB, mB_sB, mA_sB, mJ_sB, mP_sB, mO_sB, mN_sA, mK_sA, mL_sA, mF_sA, mB_sA, mA_sA, mJ_sA, mP_sA, mO_sA, mN_sJ, mK_sJ, mL_sJ, mF_sJ, mB_sJ, mA_sJ, mJ_sJ, mP_sJ, mO_sJ, mN_sP, mK_sP, mL_sP, mF_sP, mB_sP, mA_sP, mJ_sP, mP_sP, mO_sP, mN_sO, mK_sO, mL_sO, mF_sO, mB_sO, mA_sO, mJ_sO, mP_sO, mO_sO, up2, if_true, if_false, eq_self, ite_true, ite_false, reduceIte, Nat.add_left_cancel_iff, Nat.add_eq_left, Nat.left_eq_add, Nat.reduceEqDiff]; done)) ?_ | refine e_getI 177 rfl dX10_name_174 f_X10_173 (by assumption) ?_
                first | refine e_cmp_geN 206 180 (by decide) rfl dX10_name_177 rfl rfl (by omega) (by omega) (fun y10 => ?_) (fun y10 => ?_) | refine e_cmp_ge 206 180 (by decide) rfl dX10_name_177 (fun y10 => ?_) (fun y10 => ?_)
                rotate_left
                · omega
                refine e_ii3 (nI (_ + 1)) 209 rfl dX10_name_206 (ii1 _) rfl ?_
                refine e_il5 211 rfl dX10_name_209 ?_
                refine e_iconst (nI 1) 212 rfl dX10_name_211 ic_1 ?_
                first | refine e_iaddN 213 rfl dX10_name_212 rfl rfl ?_ | refine e_iadd 213 rfl dX10_name_212 ?_
                refine e_is4 215 rfl dX10_name_213 (by decide) rfl ?_
                refine e_ii5 (nI (_ + 1)) 218 rfl dX10_name_215 (ii1 _) rfl ?_
                refine e_goto 46 (by decide) dX10_name_218 ?_
                have ej : j = (foldL v).length := by omega
                subst ej
                rw [List.take_length] at hH5
                have hF15 : Fr Q μ1 μ5 := (hF13.trans (hF34.mono (fun q h => by rw [hQ]; omega))).trans (hF45.mono (fun q h => by rw [hQ]; omega))
                have hk5 : kF m μ1 μ5 := (hk3.trans (kF.of hF34 (by omega))).trans (kF.of hF45 (by omega))
                have A18 : ∀ u, ¬ (21 * W ≤ u ∧ u < 21 * W + (i - s)) → mA μ5 (m + 18) u = mA μ2 (m + 18) u := fun u h => by rw [(hF45.2.2.2.2.2 (m + 18) (by omega)).2.2.1, hw4, if_neg h, c3 _ (by omega) (by omega)]
                have A19 : ∀ u, u ≠ W → mA μ5 (m + 19) u = mA μ2 (m + 19) u := fun u h => by rw [(hF45.2.2.2.2.2 (m + 19) (by omega)).2.2.1, z4, if_neg h, c3 _ (by omega) (by omega)]
                have A20 : ∀ u, ¬ (21 * W ≤ u ∧ u < 21 * W + 21) → mA μ5 (m + 20) u = mA μ2 (m + 20) u := fun u h => by rw [hw5 u h, (hF34.2.2.2.2.2 (m + 20) (by omega)).2.2.1, c3 _ (by omega) (by omega)]
                have A21 : ∀ u, u ≠ W → mA μ5 (m + 21) u = mA μ2 (m + 21) u := fun u h => by rw [z5, if_neg h, (hF34.2.2.2.2.2 (m + 21) (by omega)).2.2.1, c3 _ (by omega) (by omega)]
                rw [show ws.length + 1 = (ws ++ [v]).length by simp]
                refine ih (i + 1) (by omega) (i + 1) (ws ++ [v]) μ5 _ _ (Nat.le_refl _) (fun j q1 q2 => by omega) (by rw [hsp3, hv]) (by omega) (by simp; omega) (by rw [List.all_append, hall]; simp [hok]) hF15 hk5 (fun q hq => ?_) (fun q hq => ?_) (fun w u hu => ?_) (fun q => q)
                · exact ⟨by rw [A19 q (by omega)]; exact (hz q hq).1, by rw [A21 q (by omega)]; exact (hz q hq).2⟩
                · exact ⟨by rw [A18 q (by omega)]; exact (hd q hq).1, by rw [A20 q (by omega)]; exact (hd q hq).2⟩
                · rcases Nat.lt_trichotomy w ws.length with c | c | c
                  · rw [List.getElem?_append_left c] at hu
                    obtain ⟨⟨g1, g2⟩, g3, g4⟩ := hws w u hu
                    have hul := wordL (List.all_eq_true.mp hall u (List.mem_of_getElem? hu))
                    exact ⟨⟨by rw [A19 _ (by omega)]; exact g1, g2.of (fun q hq => A18 _ (by omega))⟩, by rw [A21 _ (by omega)]; exact g3, g4.of (fun q hq => A20 _ (by omega))⟩
                  · subst c
                    rw [List.getElem?_append_right (Nat.le_refl _), Nat.sub_self] at hu
                    have hu2 : v = u := Option.some.inj hu
                    rw [← hu2, ← hWd]
                    refine ⟨⟨by rw [(hF45.2.2.2.2.2 (m + 19) (by omega)).2.2.1, z4, if_pos rfl, hsl], fun q c hq => ?_⟩, by rw [z5, if_pos rfl], hH5⟩
                    have hql := (List.getElem?_eq_some_iff.mp hq).1
                    show mA μ5 (m + 18) (21 * W + q) = _
                    rw [(hF45.2.2.2.2.2 (m + 18) (by omega)).2.2.1, hw4, if_pos (by omega), show 21 * W + q - 21 * W = q by omega]
                    rw [hv, seg_get tx (by omega)] at hq
                    rw [Option.some.inj hq]
                  · rw [List.getElem?_append_right (by omega)] at hu
                    have : w - ws.length < 1 := (List.getElem?_eq_some_iff.mp hu).1
                    omega
              | succ hu ihf =>
                intro j hj μ5 hF5 hw5 hH5
                have hF45 : Fr (fun q => q = m + 20 ∨ q = m + 21) μ4 μ5 := ((Fr.rf (S := fun q => q = m + 20 ∨ q = m + 21)).sA (Or.inr rfl) _ _).trans (hF5.mono (fun q h => Or.inl h))
                have hg5 := hg4.fr hF45
                have mk5 := hg5.1
                have h395 : mF μ5 m 39 = nI (foldL v).length := by rw [(hF45.2.2.2.2.2 m (by omega)).1]; exact h394
                obtain ⟨pf5, kf5, lf5⟩ := hg5.fold
                obtain ⟨pd5, kd5, ld5⟩ := hg5.folded
                have hjl : j < (foldL v).length := by omega
                have vv : mA μ5 (m + 29) j = nI (foldL v)[j] := by rw [(hF45.2.2.2.2.2 (m + 29) (by omega)).2.2.1, (hF34.2.2.2.2.2 (m + 29) (by omega)).2.2.1]; exact hH3.at hjl
                refine e_il7 173 rfl dX10_name_171 ?_
                refine e_al0 174 rfl dX10_name_173 ?_
                first | refine e_getIv 177 rfl dX10_name_174 f_X10_173 (by assumption) (by first | assumption | (simp only [mN_sF, mK_sF, mL_sF, mF_sF, mB_sF, mA_sF, mJ_sF, mP_sF, mO_sF, mN_sB, mK_sB, mL_sB, mF_sB, mB_sB, mA_sB, mJ_sB, mP_sB, mO_sB, mN_sA, mK_sA, mL_sA, mF_sA, mB_sA, mA_sA, mJ_sA, mP_sA, mO_sA, mN_sJ, mK_sJ, mL_sJ, mF_sJ, mB_sJ, mA_sJ, mJ_sJ, mP_sJ, mO_sJ, mN_sP, mK_sP, mL_sP, mF_sP, mB_sP, mA_sP, mJ_sP, mP_sP, mO_sP, mN_sO, mK_sO, mL_sO, mF_sO, mB_sO, mA_sO, mJ_sO, mP_sO, mO_sO, up2, if_true, if_false, eq_self, ite_true, ite_false, reduceIte, Nat.add_left_cancel_iff, Nat.add_eq_left, Nat.left_eq_add, Nat.reduceEqDiff]; assumption) | (simp only [mN_sF, mK_sF, mL_sF, mF_sF, mB_sF, mA_sF, mJ_sF, mP_sF, mO_sF, mN_sB, mK_sB, mL_sB, mF_sB, mB_sB, mA_sB, mJ_sB, mP_sB, mO_sB, mN_sA, mK_sA, mL_sA, mF_sA, mB_sA, mA_sA, mJ_sA, mP_sA, mO_sA, mN_sJ, mK_sJ, mL_sJ, mF_sJ, mB_sJ, mA_sJ, mJ_sJ, mP_sJ, mO_sJ, mN_sP, mK_sP, mL_sP, mF_sP, mB_sP, mA_sP, mJ_sP, mP_sP, mO_sP, mN_sO, mK_sO, mL_sO, mF_sO, mB_sO, mA_sO, mJ_sO, mP_sO, mO_sO, up2, if_true, if_false, eq_self, ite_true, ite_false, reduceIte, Nat.add_left_cancel_iff, Nat.add_eq_left, Nat.left_eq_add, Nat.reduceEqDiff]; done)) ?_ | refine e_getI 177 rfl dX10_name_174 f_X10_173 (by assumption) ?_
                first | refine e_cmp_geN 206 180 (by decide) rfl dX10_name_177 rfl rfl (by omega) (by omega) (fun y10 => ?_) (fun y10 => ?_) | refine e_cmp_ge 206 180 (by decide) rfl dX10_name_177 (fun y10 => ?_) (fun y10 => ?_)
                · omega
                refine e_al0 181 rfl dX10_name_180 ?_
                refine e_getR 184 rfl dX10_name_181 f_X10_72 (by assumption) (by assumption) ?_
                refine e_bipush (nI 21) 186 rfl dX10_name_184 bc_21 ?_
                refine e_il6 188 rfl dX10_name_186 ?_
                first | refine e_imulN 189 rfl dX10_name_188 rfl rfl ?_ | refine e_imul 189 rfl dX10_name_188 ?_
                refine e_il7 191 rfl dX10_name_189 ?_
                first | refine e_iaddN 192 rfl dX10_name_191 rfl rfl ?_ | refine e_iadd 192 rfl dX10_name_191 ?_
                refine e_al0 193 rfl dX10_name_192 ?_
                refine e_getR 196 rfl dX10_name_193 f_X10_99 (by assumption) (by assumption) ?_
                refine e_il7 198 rfl dX10_name_196 ?_
                first | refine e_ialdv 199 rfl dX10_name_198 (by assumption) (by assumption) (by first | rfl | simp only [pk_mul, nI_add]) (by omega) (by omega) (by first | assumption | (simp only [mN_sF, mK_sF, mL_sF, mF_sF, mB_sF, mA_sF, mJ_sF, mP_sF, mO_sF, mN_sB, mK_sB, mL_sB, mF_sB, mB_sB, mA_sB, mJ_sB, mP_sB, mO_sB, mN_sA, mK_sA, mL_sA, mF_sA, mB_sA, mA_sA, mJ_sA, mP_sA, mO_sA, mN_sJ, mK_sJ, mL_sJ, mF_sJ, mB_sJ, mA_sJ, mJ_sJ, mP_sJ, mO_sJ, mN_sP, mK_sP, mL_sP, mF_sP, mB_sP, mA_sP, mJ_sP, mP_sP, mO_sP, mN_sO, mK_sO, mL_sO, mF_sO, mB_sO, mA_sO, mJ_sO, mP_sO, mO_sO, up2, if_true, if_false, eq_self, ite_true, ite_false, reduceIte, Nat.add_left_cancel_iff, Nat.add_eq_left, Nat.left_eq_add, Nat.reduceEqDiff]; assumption) | (simp only [mN_sF, mK_sF, mL_sF, mF_sF, mB_sF, mA_sF, mJ_sF, mP_sF, mO_sF, mN_sB, mK_sB, mL_sB, mF_sB, mB_sB, mA_sB, mJ_sB, mP_sB, mO_sB, mN_sA, mK_sA, mL_sA, mF_sA, mB_sA, mA_sA, mJ_sA, mP_sA, mO_sA, mN_sJ, mK_sJ, mL_sJ, mF_sJ, mB_sJ, mA_sJ, mJ_sJ, mP_sJ, mO_sJ, mN_sP, mK_sP, mL_sP, mF_sP, mB_sP, mA_sP, mJ_sP, mP_sP, mO_sP, mN_sO, mK_sO, mL_sO, mF_sO, mB_sO, mA_sO, mJ_sO, mP_sO, mO_sO, up2, if_true, if_false, eq_self, ite_true, ite_false, reduceIte, Nat.add_left_cancel_iff, Nat.add_eq_left, Nat.left_eq_add, Nat.reduceEqDiff]; done)) ?_ | refine e_iald 199 rfl dX10_name_198 (by assumption) (by assumption) (by first | rfl | simp only [pk_mul, nI_add]) (by omega) (by omega) ?_
                refine e_iast 200 rfl dX10_name_199 (by assumption) (by assumption) (by first | rfl | simp only [pk_mul, nI_add]) (by omega) (by omega) ?_
                refine e_ii7 (nI (_ + 1)) 203 rfl dX10_name_200 (ii1 _) rfl ?_
                refine e_goto 171 (by decide) dX10_name_203 ?_
                refine ihf (j + 1) (by omega) _ (hF5.sA rfl _ _) (fun u hu => ?_) ?_
                · show up2 _ (m + 20) _ _ (m + 20) u = _
                  rw [up2_k (by omega)]; exact hw5 u hu
                · rw [List.take_succ_eq_append_getElem hjl]
                  refine hH5.push (fun q hq => ?_) ?_
                  · show up2 _ (m + 20) _ _ (m + 20) _ = _
                    rw [List.length_take] at hq
                    rw [up2_k (by omega)]
                  · show up2 _ (m + 20) _ _ (m + 20) _ = _
                    rw [List.length_take, Nat.min_eq_left (by omega), up2_s]
            exact fold (foldL v).length 0 (by omega) _ Fr.rf (fun u _ => by show up2 _ (m + 21) _ _ (m + 20) u = _; rw [up2_a (by omega)]) Hd.nil
          | succ gu iht =>
            intro j hj μ4 hF4 hw4
            have hF34 : Fr (fun q => q = m + 18 ∨ q = m + 19) μ3 μ4 := ((Fr.rf (S := fun q => q = m + 18 ∨ q = m + 19)).sA (Or.inr rfl) _ _).trans (hF4.mono (fun q h => Or.inl h))
            have hg4 := hg3.fr hF34
            have mk4 := hg4.1
            obtain ⟨pt4, kt4, lt4⟩ := hg4.tape
            obtain ⟨pd4, kd4, ld4⟩ := hg4.told
            have vv : mA μ4 (m + 1) (s + j) = nI (tx (s + j)) := by rw [(hF34.2.2.2.2.2 (m + 1) (by omega)).2.2.1, c3 _ (by omega) (by omega)]; exact (htx2 (s + j) (by omega)).1
            refine e_il7 120 rfl dX10_name_118 ?_
            refine e_il5 122 rfl dX10_name_120 ?_
            refine e_il4 124 rfl dX10_name_122 ?_
            first | refine e_isubN 125 rfl dX10_name_124 rfl rfl (by omega) ?_ | refine e_isub 125 rfl dX10_name_124 ?_
            first | refine e_cmp_geN 157 128 (by decide) rfl dX10_name_125 rfl rfl (by omega) (by omega) (fun y9 => ?_) (fun y9 => ?_) | refine e_cmp_ge 157 128 (by decide) rfl dX10_name_125 (fun y9 => ?_) (fun y9 => ?_)
            · omega
            refine e_al0 129 rfl dX10_name_128 ?_
            refine e_getR 132 rfl dX10_name_129 f_X10_66 (by assumption) (by assumption) ?_
            refine e_bipush (nI 21) 134 rfl dX10_name_132 bc_21 ?_
            refine e_il6 136 rfl dX10_name_134 ?_
            first | refine e_imulN 137 rfl dX10_name_136 rfl rfl ?_ | refine e_imul 137 rfl dX10_name_136 ?_
            refine e_il7 139 rfl dX10_name_137 ?_
            first | refine e_iaddN 140 rfl dX10_name_139 rfl rfl ?_ | refine e_iadd 140 rfl dX10_name_139 ?_
            refine e_al0 141 rfl dX10_name_140 ?_
            refine e_getR 144 rfl dX10_name_141 f_X10_7 (by assumption) (by assumption) ?_
            refine e_il4 146 rfl dX10_name_144 ?_
            refine e_il7 148 rfl dX10_name_146 ?_
            first | refine e_iaddN 149 rfl dX10_name_148 rfl rfl ?_ | refine e_iadd 149 rfl dX10_name_148 ?_
            first | refine e_ialdv 150 rfl dX10_name_149 (by assumption) (by assumption) (by first | rfl | simp only [pk_mul, nI_add]) (by omega) (by omega) (by first | assumption | (simp only [mN_sF, mK_sF, mL_sF, mF_sF, mB_sF, mA_sF, mJ_sF, mP_sF, mO_sF, mN_sB, mK_sB, mL_sB, mF_sB, mB_sB, mA_sB, mJ_sB, mP_sB, mO_sB, mN_sA, mK_sA, mL_sA, mF_sA, mB_sA, mA_sA, mJ_sA, mP_sA, mO_sA, mN_sJ, mK_sJ, mL_sJ, mF_sJ, mB_sJ, mA_sJ, mJ_sJ, mP_sJ, mO_sJ, mN_sP, mK_sP, mL_sP, mF_sP, mB_sP, mA_sP, mJ_sP, mP_sP, mO_sP, mN_sO, mK_sO, mL_sO, mF_sO, mB_sO, mA_sO, mJ_sO, mP_sO, mO_sO, up2, if_true, if_false, eq_self, ite_true, ite_false, reduceIte, Nat.add_left_cancel_iff, Nat.add_eq_left, Nat.left_eq_add, Nat.reduceEqDiff]; assumption) | (simp only [mN_sF, mK_sF, mL_sF, mF_sF, mB_sF, mA_sF, mJ_sF, mP_sF, mO_sF, mN_sB, mK_sB, mL_sB, mF_sB, mB_sB, mA_sB, mJ_sB, mP_sB, mO_sB, mN_sA, mK_sA, mL_sA, mF_sA, mB_sA, mA_sA, mJ_sA, mP_sA, mO_sA, mN_sJ, mK_sJ, mL_sJ, mF_sJ, mB_sJ, mA_sJ, mJ_sJ, mP_sJ, mO_sJ, mN_sP, mK_sP, mL_sP, mF_sP, mB_sP, mA_sP, mJ_sP, mP_sP, mO_sP, mN_sO, mK_sO, mL_sO, mF_sO, mB_sO, mA_sO, mJ_sO, mP_sO, mO_sO, up2, if_true, if_false, eq_self, ite_true, ite_false, reduceIte, Nat.add_left_cancel_iff, Nat.add_eq_left, Nat.left_eq_add, Nat.reduceEqDiff]; done)) ?_ | refine e_iald 150 rfl dX10_name_149 (by assumption) (by assumption) (by first | rfl | simp only [pk_mul, nI_add]) (by omega) (by omega) ?_
            refine e_iast 151 rfl dX10_name_150 (by assumption) (by assumption) (by first | rfl | simp only [pk_mul, nI_add]) (by omega) (by omega) ?_
            refine e_ii7 (nI (_ + 1)) 154 rfl dX10_name_151 (ii1 _) rfl ?_
            refine e_goto 118 (by decide) dX10_name_154 ?_
            refine iht (j + 1) (by omega) _ (hF4.sA rfl _ _) (fun u => ?_)
            show up2 _ (m + 18) _ _ (m + 18) u = _
            by_cases c : u = 21 * W + j
            · rw [c, up2_s, if_pos (by omega), show 21 * W + j - 21 * W = j by omega]
            · rw [up2_k c, hw4]
              by_cases c2 : 21 * W ≤ u ∧ u < 21 * W + j
              · rw [if_pos c2, if_pos (by omega)]
              · rw [if_neg c2, if_neg (by omega)]
        exact told (i - s) 0 (by omega) _ Fr.rf (fun u => by rw [if_neg (by omega)]; show up2 _ (m + 19) _ _ (m + 18) u = _; rw [up2_a (by omega)])
      obtain ⟨pt2, kt2, lt2⟩ := hg2.tape
      refine e_il5 48 rfl dX10_name_46 ?_
      refine e_il2 49 rfl dX10_name_48 ?_
      first | refine e_cmp_gtN 221 52 (by decide) rfl dX10_name_49 rfl rfl (by omega) (by omega) (fun y6 => ?_) (fun y6 => ?_) | refine e_cmp_gt 221 52 (by decide) rfl dX10_name_49 (fun y6 => ?_) (fun y6 => ?_)
      · omega
      refine e_il5 54 rfl dX10_name_52 ?_
      refine e_il2 55 rfl dX10_name_54 ?_
      first | refine e_cmp_geN 73 58 (by decide) rfl dX10_name_55 rfl rfl (by omega) (by omega) (fun y7 => ?_) (fun y7 => ?_) | refine e_cmp_ge 73 58 (by decide) rfl dX10_name_55 (fun y7 => ?_) (fun y7 => ?_)
      · exact cut (Or.inl (by omega))
      have hB1 := (htx2 i (by omega)).1
      have hB2 := (htx2 i (by omega)).2
      refine e_al0 59 rfl dX10_name_58 ?_
      refine e_getR 62 rfl dX10_name_59 f_X10_7 (by assumption) (by assumption) ?_
      refine e_il5 64 rfl dX10_name_62 ?_
      first | refine e_ialdv 65 rfl dX10_name_64 (by assumption) (by assumption) (by first | rfl | simp only [pk_mul, nI_add]) (by omega) (by omega) (by first | assumption | (simp only [mN_sF, mK_sF, mL_sF, mF_sF, mB_sF, mA_sF, mJ_sF, mP_sF, mO_sF, mN_sB, mK_sB, mL_sB, mF_sB, mB_sB, mA_sB, mJ_sB, mP_sB, mO_sB, mN_sA, mK_sA, mL_sA, mF_sA, mB_sA, mA_sA, mJ_sA, mP_sA, mO_sA, mN_sJ, mK_sJ, mL_sJ, mF_sJ, mB_sJ, mA_sJ, mJ_sJ, mP_sJ, mO_sJ, mN_sP, mK_sP, mL_sP, mF_sP, mB_sP, mA_sP, mJ_sP, mP_sP, mO_sP, mN_sO, mK_sO, mL_sO, mF_sO, mB_sO, mA_sO, mJ_sO, mP_sO, mO_sO, up2, if_true, if_false, eq_self, ite_true, ite_false, reduceIte, Nat.add_left_cancel_iff, Nat.add_eq_left, Nat.left_eq_add, Nat.reduceEqDiff]; assumption) | (simp only [mN_sF, mK_sF, mL_sF, mF_sF, mB_sF, mA_sF, mJ_sF, mP_sF, mO_sF, mN_sB, mK_sB, mL_sB, mF_sB, mB_sB, mA_sB, mJ_sB, mP_sB, mO_sB, mN_sA, mK_sA, mL_sA, mF_sA, mB_sA, mA_sA, mJ_sA, mP_sA, mO_sA, mN_sJ, mK_sJ, mL_sJ, mF_sJ, mB_sJ, mA_sJ, mJ_sJ, mP_sJ, mO_sJ, mN_sP, mK_sP, mL_sP, mF_sP, mB_sP, mA_sP, mJ_sP, mP_sP, mO_sP, mN_sO, mK_sO, mL_sO, mF_sO, mB_sO, mA_sO, mJ_sO, mP_sO, mO_sO, up2, if_true, if_false, eq_self, ite_true, ite_false, reduceIte, Nat.add_left_cancel_iff, Nat.add_eq_left, Nat.left_eq_add, Nat.reduceEqDiff]; done)) ?_ | refine e_iald 65 rfl dX10_name_64 (by assumption) (by assumption) (by first | rfl | simp only [pk_mul, nI_add]) (by omega) (by omega) ?_
      refine e_bipush (nI 32) 67 rfl dX10_name_65 bc_32 ?_
      first | refine e_cmp_eqN 73 70 (by decide) rfl dX10_name_67 rfl rfl (by omega) (by omega) (fun y8 => ?_) (fun y8 => ?_) | refine e_cmp_eq 73 70 (by decide) rfl dX10_name_67 (fun y8 => ?_) (fun y8 => ?_)
      · exact cut (Or.inr ⟨y7, y8⟩)
      · refine e_goto 215 (by decide) dX10_name_70 ?_
        refine e_ii5 (nI (_ + 1)) 218 rfl dX10_name_215 (ii1 _) rfl ?_
        refine e_goto 46 (by decide) dX10_name_218 ?_
        refine ih (i + 1) (by omega) s ws μ2 _ _ (by omega) (fun j q1 q2 => ?_) (by rw [if_pos hsm]; exact hsp) (Or.inl hsm) hw8 hall hF2 hk2 hz hd hws (fun q => by omega)
        by_cases e : j = i
        · subst e; exact y8
        · exact hnb j q1 (by omega)
  exact loop (nn + 1) 0 (by omega) 0 [] μ1 _ _ (Nat.le_refl 0) (fun j _ h => by omega) (by simp) (Or.inl (by omega)) (by simp) rfl Fr.rf kF.rf (fun _ _ => ⟨rfl, rfl⟩) (fun _ _ => ⟨rfl, rfl⟩) (fun w v hv => by simp at hv) (fun q => by omega)
end MNAME
