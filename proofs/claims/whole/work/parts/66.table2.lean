/-! NameDesk: table -/
section TABLE2
variable {E : En} {μ : Mm} {K : Option Value → Mm → Prop}
def okT (x : Int32) : Option Nat := (iN x).filter (fun i => decide (i < 26))
theorem okT_some {x : Int32} {i : Nat} (h : okT x = some i) : i < 26 ∧ x = nI i := by
  unfold okT at h
  rcases iN_cases x with ⟨_, q⟩ | ⟨j, h1, h2, q⟩
  · rw [q] at h; cases h
  · rw [q, Option.filter_some] at h
    split at h
    next z => cases h; exact ⟨of_decide_eq_true z, h2⟩
    next => cases h
theorem okT_of {i : Nat} (h : i < 26) : okT (nI i) = some i := by unfold okT; rw [iN_nI (by omega), Option.filter_some, if_pos (by simp; omega)]
def q_table (S : Ast) (x n : Int32) : Int32 × Ast := match okT x, okH (aT S) n with
  | some i, some m => if m ≤ 3 ∧ ((aT S).take m).all isSm = true then (nI 1, ([], S.2.1, S.2.2.1, S.2.2.2.1, up1 (aL S) i ((aT S).take m), S.2.2.2.2.2)) else (nI 0, S)
  | _, _ => (nI 0, S)
theorem NmC.putStale {a : Nat} {o : Option Shp} {es : List Ent} {tb tb' : Nat → List Nat} {nm : Nm} (h : NmC μ a o es tb nm) : NmC (sF μ a 8 (nI 0)) a o es tb' nm := by
  obtain ⟨h1, h2, ⟨b, h3, h4⟩, c, h5, h6⟩ := h
  refine ⟨by simp only [mN_sF, mK_sF, mL_sF, mF_sF, mB_sF, mA_sF, mJ_sF, mP_sF, mO_sF, mN_sB, mK_sB, mL_sB, mF_sB, mB_sB, mA_sB, mJ_sB, mP_sB, mO_sB, mN_sA, mK_sA, mL_sA, mF_sA, mB_sA, mA_sA, mJ_sA, mP_sA, mO_sA, mN_sJ, mK_sJ, mL_sJ, mF_sJ, mB_sJ, mA_sJ, mJ_sJ, mP_sJ, mO_sJ, mN_sP, mK_sP, mL_sP, mF_sP, mB_sP, mA_sP, mJ_sP, mP_sP, mO_sP, mN_sO, mK_sO, mL_sO, mF_sO, mB_sO, mA_sO, mJ_sO, mP_sO, mO_sO, up2, if_true, if_false, eq_self, ite_true, ite_false, reduceIte, Nat.add_left_cancel_iff, Nat.add_eq_left, Nat.left_eq_add, Nat.reduceEqDiff]; exact h1, ⟨by simp only [mN_sF, mK_sF, mL_sF, mF_sF, mB_sF, mA_sF, mJ_sF, mP_sF, mO_sF, mN_sB, mK_sB, mL_sB, mF_sB, mB_sB, mA_sB, mJ_sB, mP_sB, mO_sB, mN_sA, mK_sA, mL_sA, mF_sA, mB_sA, mA_sA, mJ_sA, mP_sA, mO_sA, mN_sJ, mK_sJ, mL_sJ, mF_sJ, mB_sJ, mA_sJ, mJ_sJ, mP_sJ, mO_sJ, mN_sP, mK_sP, mL_sP, mF_sP, mB_sP, mA_sP, mJ_sP, mP_sP, mO_sP, mN_sO, mK_sO, mL_sO, mF_sO, mB_sO, mA_sO, mJ_sO, mP_sO, mO_sO, up2, if_true, if_false, eq_self, ite_true, ite_false, reduceIte, Nat.add_left_cancel_iff, Nat.add_eq_left, Nat.left_eq_add, Nat.reduceEqDiff]; exact h2.1, fun i w hi => ?_⟩, ⟨b, by simp only [mN_sF, mK_sF, mL_sF, mF_sF, mB_sF, mA_sF, mJ_sF, mP_sF, mO_sF, mN_sB, mK_sB, mL_sB, mF_sB, mB_sB, mA_sB, mJ_sB, mP_sB, mO_sB, mN_sA, mK_sA, mL_sA, mF_sA, mB_sA, mA_sA, mJ_sA, mP_sA, mO_sA, mN_sJ, mK_sJ, mL_sJ, mF_sJ, mB_sJ, mA_sJ, mJ_sJ, mP_sJ, mO_sJ, mN_sP, mK_sP, mL_sP, mF_sP, mB_sP, mA_sP, mJ_sP, mP_sP, mO_sP, mN_sO, mK_sO, mL_sO, mF_sO, mB_sO, mA_sO, mJ_sO, mP_sO, mO_sO, up2, if_true, if_false, eq_self, ite_true, ite_false, reduceIte, Nat.add_left_cancel_iff, Nat.add_eq_left, Nat.left_eq_add, Nat.reduceEqDiff]; exact h3, fun hb => ?_⟩, false, by simp only [mN_sF, mK_sF, mL_sF, mF_sF, mB_sF, mA_sF, mJ_sF, mP_sF, mO_sF, mN_sB, mK_sB, mL_sB, mF_sB, mB_sB, mA_sB, mJ_sB, mP_sB, mO_sB, mN_sA, mK_sA, mL_sA, mF_sA, mB_sA, mA_sA, mJ_sA, mP_sA, mO_sA, mN_sJ, mK_sJ, mL_sJ, mF_sJ, mB_sJ, mA_sJ, mJ_sJ, mP_sJ, mO_sJ, mN_sP, mK_sP, mL_sP, mF_sP, mB_sP, mA_sP, mJ_sP, mP_sP, mO_sP, mN_sO, mK_sO, mL_sO, mF_sO, mB_sO, mA_sO, mJ_sO, mP_sO, mO_sO, up2, if_true, if_false, eq_self, ite_true, ite_false, reduceIte, Nat.add_left_cancel_iff, Nat.add_eq_left, Nat.left_eq_add, Nat.reduceEqDiff]; rfl, fun q => by cases q⟩
  · obtain ⟨w1, w2, w3, w4⟩ := h2.2 i w hi
    refine ⟨?_, ?_, w3, w4⟩
    · show up2 _ a 8 _ (a + 6 + 3 * i) 1 = _
      rw [up2_a (by omega)]; exact w1
    · show up2 _ a 8 _ (a + 6 + 3 * i) 3 = _
      rw [up2_a (by omega)]; exact w2
  · obtain ⟨⟨g1, g2, g3⟩, g4, g5⟩ := h4 hb
    exact ⟨⟨by simp only [mN_sF, mK_sF, mL_sF, mF_sF, mB_sF, mA_sF, mJ_sF, mP_sF, mO_sF, mN_sB, mK_sB, mL_sB, mF_sB, mB_sB, mA_sB, mJ_sB, mP_sB, mO_sB, mN_sA, mK_sA, mL_sA, mF_sA, mB_sA, mA_sA, mJ_sA, mP_sA, mO_sA, mN_sJ, mK_sJ, mL_sJ, mF_sJ, mB_sJ, mA_sJ, mJ_sJ, mP_sJ, mO_sJ, mN_sP, mK_sP, mL_sP, mF_sP, mB_sP, mA_sP, mJ_sP, mP_sP, mO_sP, mN_sO, mK_sO, mL_sO, mF_sO, mB_sO, mA_sO, mJ_sO, mP_sO, mO_sO, up2, if_true, if_false, eq_self, ite_true, ite_false, reduceIte, Nat.add_left_cancel_iff, Nat.add_eq_left, Nat.left_eq_add, Nat.reduceEqDiff]; exact g1, by simp only [mN_sF, mK_sF, mL_sF, mF_sF, mB_sF, mA_sF, mJ_sF, mP_sF, mO_sF, mN_sB, mK_sB, mL_sB, mF_sB, mB_sB, mA_sB, mJ_sB, mP_sB, mO_sB, mN_sA, mK_sA, mL_sA, mF_sA, mB_sA, mA_sA, mJ_sA, mP_sA, mO_sA, mN_sJ, mK_sJ, mL_sJ, mF_sJ, mB_sJ, mA_sJ, mJ_sJ, mP_sJ, mO_sJ, mN_sP, mK_sP, mL_sP, mF_sP, mB_sP, mA_sP, mJ_sP, mP_sP, mO_sP, mN_sO, mK_sO, mL_sO, mF_sO, mB_sO, mA_sO, mJ_sO, mP_sO, mO_sO, up2, if_true, if_false, eq_self, ite_true, ite_false, reduceIte, Nat.add_left_cancel_iff, Nat.add_eq_left, Nat.left_eq_add, Nat.reduceEqDiff]; exact g2, g3⟩, by simp only [mN_sF, mK_sF, mL_sF, mF_sF, mB_sF, mA_sF, mJ_sF, mP_sF, mO_sF, mN_sB, mK_sB, mL_sB, mF_sB, mB_sB, mA_sB, mJ_sB, mP_sB, mO_sB, mN_sA, mK_sA, mL_sA, mF_sA, mB_sA, mA_sA, mJ_sA, mP_sA, mO_sA, mN_sJ, mK_sJ, mL_sJ, mF_sJ, mB_sJ, mA_sJ, mJ_sJ, mP_sJ, mO_sJ, mN_sP, mK_sP, mL_sP, mF_sP, mB_sP, mA_sP, mJ_sP, mP_sP, mO_sP, mN_sO, mK_sO, mL_sO, mF_sO, mB_sO, mA_sO, mJ_sO, mP_sO, mO_sO, up2, if_true, if_false, eq_self, ite_true, ite_false, reduceIte, Nat.add_left_cancel_iff, Nat.add_eq_left, Nat.left_eq_add, Nat.reduceEqDiff]; exact g4, g5⟩
theorem d_table {d : Nat} {S : Ast} {x n : Int32} (hW : WF S) (hD : DI d S μ) (k : ∀ μ', DF d μ μ' → DI d (q_table S x n).2 μ' → K (some (.int (q_table S x n).1)) μ') : Cl E M_X9_table [.ref d, .int x, .int n] μ K := by
  obtain ⟨hG, hT, hX, hB, hh, hR, hTb, hLn, hSM, hN, hLs, hRk⟩ := id hD
  obtain ⟨⟨gk, p0, p1, p2, p4, p5, p6, p8, p10, p12, px⟩, ⟨k3, l3, k262, l262, kx⟩, g3⟩ := id hG
  obtain ⟨tk, tp, bk, bl4⟩ := id hT.1
  have h400 := hT.2.2.2.1
  have n30 := hW.2.2.2.1.1
  have tbk := hTb.1.1
  unfold q_table at k
  refine Cl.of0 1 pn_X9 (Nat.le_of_ble_eq_true rfl) ⟨rfl, rfl⟩ rfl ?_
  refine e_al0 1 rfl dX9_table_0 ?_
  refine e_getR 4 rfl dX9_table_1 f_X9_12 (by assumption) (by assumption) ?_
  refine e_il2 5 rfl dX9_table_4 ?_
  refine e_invV0 [_] 8 rfl dX9_table_5 k_X9_105 mo_X7_holds rm_X9_table_X7_holds ⟨rfl, rfl⟩ rfl rfl (by assumption) (Nat.le_of_ble_eq_true rfl) ?_
  refine c_tholds hT ?_
  cases eH : okH (aT S) n with
  | none =>
    rw [eH] at k
    have k' : K (some (.int (nI 0))) μ := by
      cases eT : okT x with
      | none => rw [eT] at k; exact k μ Fx.rf hD
      | some i => rw [eT] at k; exact k μ Fx.rf hD
    first | refine e_if_eqB 30 11 (by decide) rfl dX9_table_8 rfl (fun y1 => ?_) (fun y1 => ?_) | refine e_if_eqN 30 11 (by decide) rfl dX9_table_8 rfl (by omega) (fun y1 => ?_) (fun y1 => ?_) | refine e_if_eq 30 11 (by decide) rfl dX9_table_8 (fun y1 => ?_) (fun y1 => ?_)
    · refine e_iconst (nI 0) 31 rfl dX9_table_30 ic_0 ?_
      refine e_zret dX9_table_31 rfl (by first | exact z0 | exact z1 | exact bI01 _ | assumption) ?_
      exact k'
    · cases y1
  | some m =>
  rw [eH] at k
  obtain ⟨hml, hnm⟩ := okH_some eH
  subst hnm
  obtain ⟨tx, htx, hseg⟩ := hT.tx
  first | refine e_if_eqB 30 11 (by decide) rfl dX9_table_8 rfl (fun y1 => ?_) (fun y1 => ?_) | refine e_if_eqN 30 11 (by decide) rfl dX9_table_8 rfl (by omega) (fun y1 => ?_) (fun y1 => ?_) | refine e_if_eq 30 11 (by decide) rfl dX9_table_8 (fun y1 => ?_) (fun y1 => ?_)
  · cases y1
  refine e_al0 12 rfl dX9_table_11 ?_
  refine e_getR 15 rfl dX9_table_12 f_X9_79 (by assumption) (by assumption) ?_
  refine e_il1 16 rfl dX9_table_15 ?_
  refine e_al0 17 rfl dX9_table_16 ?_
  refine e_getR 20 rfl dX9_table_17 f_X9_12 (by assumption) (by assumption) ?_
  refine e_getR 23 rfl dX9_table_20 f_X9_108 (by assumption) (by assumption) ?_
  refine e_il2 24 rfl dX9_table_23 ?_
  refine e_invV0 [_, _, _] 27 rfl dX9_table_24 k_X9_228 mo_X6_change rm_X9_table_X6_change ⟨rfl, rfl⟩ rfl rfl (by assumption) (Nat.le_of_ble_eq_true rfl) ?_
  refine c_change (tx := tx) (n := 400) hTb.1 hTb.2 bk bl4 (by decide) htx (by unfold wS; omega) (by omega) (fun hno => ?_) (fun i hi hx h3 hall μ1 hF1 hTt1 => ?_)
  · rw [hseg m hml] at hno
    have k' : K (some (.int (nI 0))) μ := by
      cases eT : okT x with
      | none => rw [eT] at k; exact k μ Fx.rf hD
      | some i =>
        rw [eT] at k
        obtain ⟨t1, t2⟩ := okT_some eT
        simp only [] at k
        rw [if_neg (fun q => hno ⟨i, t1, t2, q.1, q.2⟩)] at k
        exact k μ Fx.rf hD
    first | refine e_if_neB 32 30 (by decide) rfl dX9_table_27 rfl (fun y2 => ?_) (fun y2 => ?_) | refine e_if_neN 32 30 (by decide) rfl dX9_table_27 rfl (by omega) (fun y2 => ?_) (fun y2 => ?_) | refine e_if_ne 32 30 (by decide) rfl dX9_table_27 (fun y2 => ?_) (fun y2 => ?_)
    · exact absurd rfl y2
    refine e_iconst (nI 0) 31 rfl dX9_table_30 ic_0 ?_
    refine e_zret dX9_table_31 rfl (by first | exact z0 | exact z1 | exact bI01 _ | assumption) ?_
    exact k'
  rw [hseg m hml] at hall hTt1
  rw [hx, okT_of hi] at k
  simp only [] at k
  rw [if_pos ⟨h3, hall⟩] at k
  have f1 := (hF1.2.2.2.2.2 d (by unfold wS; omega)).1
  have gk1 : mK μ1 d = 10 := by rw [hF1.2.1]; exact gk
  have p01 : mP μ1 d 0 = some (d + 1) := by rw [hF1.2.2.2.1]; exact p0
  have tk1 : mK μ1 (d + 1) = 8 := by rw [hF1.2.1]; exact tk
  first | refine e_if_neB 32 30 (by decide) rfl dX9_table_27 rfl (fun y2 => ?_) (fun y2 => ?_) | refine e_if_neN 32 30 (by decide) rfl dX9_table_27 rfl (by omega) (fun y2 => ?_) (fun y2 => ?_) | refine e_if_ne 32 30 (by decide) rfl dX9_table_27 (fun y2 => ?_) (fun y2 => ?_)
  rotate_left
  · exact absurd y2 (by decide)
  refine e_al0 33 rfl dX9_table_32 ?_
  refine e_getR 36 rfl dX9_table_33 f_X9_12 (by assumption) (by assumption) ?_
  refine e_iconst (nI 0) 37 rfl dX9_table_36 ic_0 ?_
  refine e_putI 40 rfl dX9_table_37 f_X9_94 (by assumption) ?_
  refine e_iconst (nI 0) 41 rfl dX9_table_40 ic_0 ?_
  refine e_is3 42 rfl dX9_table_41 (by decide) rfl ?_
  have hT2 : TI (sF μ1 (d + 1) 1 (nI 0)) d [] := (hT.fx hF1.fx (by unfold wS; omega) (by unfold wS; omega)).zero
  obtain ⟨Q, hQ⟩ : ∃ Q : Nat → Prop, Q = fun q => q = d + 1 ∨ wS (d + 295) q := ⟨_, rfl⟩
  have hF2 : Fr Q μ (sF μ1 (d + 1) 1 (nI 0)) := (hF1.mono (S' := Q) (fun q a => by rw [hQ]; exact Or.inr a)).sF (show Q (d + 1) by rw [hQ]; exact Or.inl rfl) _ _
  have hTt2 : Tt (sF μ1 (d + 1) 1 (nI 0)) (d + 295) (up1 (aL S) i ((aT S).take m)) := hTt1
  have hN2 : NmI (sF μ1 (d + 1) 1 (nI 0)) d (aS S) (aB S) (aL S) (aN S) := hN.fx hW.2.2.2.1 hF2.fx (by rw [(hF2.2.2.2.2.2 d (by rw [hQ]; unfold wS; omega)).1]) (fun q a b => by rw [hQ]; unfold wS; omega)
  generalize sF μ1 (d + 1) 1 (nI 0) = μ2 at hF2 hTt2 hT2 hN2 ⊢
  obtain ⟨P, hP⟩ : ∃ P : Nat → Prop, P = fun q => ∃ i, i < 30 ∧ q = nA d i := ⟨_, rfl⟩
  have nP : ∀ q, q < d + 355 → ¬ P q := fun q a => by rw [hP]; rintro ⟨j, _, z⟩; unfold nA at z; omega
  have nQ : ∀ q, (q = d ∨ (d + 2 ≤ q ∧ q < d + 295) ∨ d + 298 ≤ q) → ¬ Q q := fun q a => by rw [hQ]; unfold wS; omega
  have loop : ∀ (fu j : Nat), j + fu = 30 → ∀ μ3, Fr P μ2 μ3 → (∀ r nm, (aN S)[r]? = some nm → (r < j → NmC μ3 (nA d r) (aS S nm.1) (aB S) (up1 (aL S) i ((aT S).take m)) nm) ∧ (j ≤ r → NmC μ3 (nA d r) (aS S nm.1) (aB S) (aL S) nm)) → Ev E M_X9_table 0 0 42 [some (.ref d), some (.int x), some (.int (nI m)), some (.int (nI j))] [] μ3 K := by
    intro fu
    induction fu with
    | zero =>
      intro j hj μ3 hF3 hI
      refine e_il3 43 rfl dX9_table_42 ?_
      refine e_bipush (nI 30) 45 rfl dX9_table_43 bc_30 ?_
      first | refine e_cmp_geN 64 48 (by decide) rfl dX9_table_45 rfl rfl (by omega) (by omega) (fun y3 => ?_) (fun y3 => ?_) | refine e_cmp_ge 64 48 (by decide) rfl dX9_table_45 (fun y3 => ?_) (fun y3 => ?_)
      rotate_left
      · omega
      refine e_iconst (nI 1) 65 rfl dX9_table_64 ic_1 ?_
      refine e_zret dX9_table_65 rfl (by first | exact z0 | exact z1 | exact bI01 _ | assumption) ?_
      have hF := (hF2.mono (S' := fun q => Q q ∨ P q) (fun q a => Or.inl a)).trans (hF3.mono (fun q a => Or.inr a))
      have nF : ∀ q, (q = d ∨ (d + 2 ≤ q ∧ q < d + 295) ∨ (d + 298 ≤ q ∧ q < d + 355)) → ¬ (Q q ∨ P q) := fun q a => by
        rintro (z | z)
        · exact nQ q (by omega) z
        · exact nP q (by omega) z
      have fd := (hF.2.2.2.2.2 d (nF _ (by omega))).1
      refine k μ3 (hF.fx.mono (fun q a => ?_)) ⟨hG.fx hF.fx (fun g _ => by rw [hF.2.2.2.1]) (nF _ (by omega)), hT2.fx hF3.fx (nP _ (by omega)) (nP _ (by omega)), hX.fx hF.fx (nF _ (by omega)), hB.fx hF.fx (fun q a b => nF _ (by omega)), hh.fr hF, hR.fx hF.fx (fun q a b => nF _ (by omega)), ⟨hTb.1.fr hF, hTt2.fr hF3 (nP _ (by omega)) (nP _ (by omega))⟩, hLn.fr hF, hSM.fx hF.fx (by rw [hF.2.2.2.1]) (nF _ (by omega)) (fun q a => nF _ (by omega)), ⟨by rw [fd]; exact hN.1, fun r hr => (hN.2.1 r hr).fr hF, fun r nm hr => ?_⟩, hLs.fx hF.fx (by rw [fd]) (fun q a b => nF _ (by omega)), hRk.fx hF.fx (by rw [fd]) (nF _ (by omega))⟩
      · rw [hQ, hP] at a
        unfold wS nA at a
        rcases a with (a | a) | ⟨r, h30, a⟩ <;> omega
      · have hr' : (aN S)[r]? = some nm := hr
        have := (List.getElem?_eq_some_iff.mp hr').1
        exact (hI r nm hr').1 (by omega)
    | succ fu ih =>
      intro j hj μ3 hF3 hI
      have hF := (hF2.mono (S' := fun q => Q q ∨ P q) (fun q a => Or.inl a)).trans (hF3.mono (fun q a => Or.inr a))
      have gk3 : mK μ3 d = 10 := by rw [hF.2.1]; exact gk
      have p63 : mP μ3 d 6 = some (d + 262) := by rw [hF.2.2.2.1]; exact p6
      have k23 : mK μ3 (d + 262) = 16 := by rw [hF.2.1]; exact k262
      have l23 : mL μ3 (d + 262) = 30 := by rw [hF.2.2.1]; exact l262
      have o3 : mO μ3 (d + 262) j = some (nA d j) := by rw [hF.2.2.2.2.1]; exact g3 j (by omega)
      have nk : mK μ3 (nA d j) = 3 := by rw [hF.2.1]; exact (hN.2.1 j (by omega)).1.1
      refine e_il3 43 rfl dX9_table_42 ?_
      refine e_bipush (nI 30) 45 rfl dX9_table_43 bc_30 ?_
      first | refine e_cmp_geN 64 48 (by decide) rfl dX9_table_45 rfl rfl (by omega) (by omega) (fun y3 => ?_) (fun y3 => ?_) | refine e_cmp_ge 64 48 (by decide) rfl dX9_table_45 (fun y3 => ?_) (fun y3 => ?_)
      · omega
      refine e_al0 49 rfl dX9_table_48 ?_
      refine e_getR 52 rfl dX9_table_49 f_X9_50 (by assumption) (by assumption) ?_
      refine e_il3 53 rfl dX9_table_52 ?_
      refine e_aald 54 rfl dX9_table_53 (by assumption) (by decide) (by assumption) (by first | rfl | simp only [pk_mul, nI_add]) (by omega) (by omega) (by assumption) ?_
      refine e_iconst (nI 0) 55 rfl dX9_table_54 ic_0 ?_
      refine e_putZ 58 rfl dX9_table_55 f_X9_153 (by assumption) (by first | exact z0 | exact z1 | exact bI01 _ | assumption) ?_
      refine e_ii3 (nI (_ + 1)) 61 rfl dX9_table_58 (ii1 _) rfl ?_
      refine e_goto 42 (by decide) dX9_table_61 ?_
      have hFj : Fr (fun q => q = nA d j) μ3 (sF μ3 (nA d j) 8 (nI 0)) := (Fr.rf (S := fun q => q = nA d j)).sF rfl _ _
      have oth : ∀ r nm, (aN S)[r]? = some nm → r ≠ j → ∀ tb, NmC μ3 (nA d r) (aS S nm.1) (aB S) tb nm → NmC (sF μ3 (nA d j) 8 (nI 0)) (nA d r) (aS S nm.1) (aB S) tb nm := fun r nm hr hne tb hc => hc.fx (hW.2.2.2.1.2 nm (List.mem_of_getElem? hr)).2.2.1 hFj.fx (fun q hq => by unfold nS nA at hq; unfold nA; omega)
      refine ih (j + 1) (by omega) _ (hF3.sF (show P (nA d j) by rw [hP]; exact ⟨j, by omega, rfl⟩) _ _) (fun r nm hr => ⟨fun hrj => ?_, fun hrj => oth r nm hr (by omega) _ ((hI r nm hr).2 (by omega))⟩)
      by_cases e : r = j
      · subst e
        exact ((hI r nm hr).2 (Nat.le_refl _)).putStale
      · exact oth r nm hr e _ ((hI r nm hr).1 (by omega))
  exact loop 30 0 (by omega) μ2 Fr.rf (fun r nm hr => ⟨fun q => by omega, fun _ => hN2.2.2 r nm hr⟩)
end TABLE2
