/-! NameDesk: shape, table -/
section SHAPE4
variable {E : En} {μ : Mm} {K : Option Value → Mm → Prop}
def q_shape (S : Ast) (x n : Int32) : Int32 × Ast := match okL x, okH (aT S) n with
  | some ld, some m => match pShape ((aT S).take m) with
    | .inl e => (-1, ([], S.2.1, S.2.2.1, S.2.2.2.1, S.2.2.2.2.1, e.1, nI e.2))
    | .inr y => (nI y.1.length, ([], up1 (aS S) ld (some y), S.2.2.1, S.2.2.2.1, S.2.2.2.2.1, 0, -1))
  | _, _ => (-2, S)
def shQ (d s : Nat) : Nat → Prop := fun q => q = d + 1 ∨ zS (d + 4) s q
theorem d_shape (KH : KHere E) {d : Nat} {S : Ast} {x n : Int32} (hW : WF S) (hD : DI d S μ) (k : ∀ μ', DF d μ μ' → DI d (q_shape S x n).2 μ' → K (some (.int (q_shape S x n).1)) μ') : Cl E M_X9_shape [.ref d, .int x, .int n] μ K := by
  obtain ⟨hG, hT, hX, hB, hh, hR, hTb, hLn, hSM, hN, hLs, hRk⟩ := id hD
  obtain ⟨⟨gk, p0, p1, p2, p4, p5, p6, px⟩, ⟨k3, l3, k262, l262, kx⟩, g3⟩ := id hG
  obtain ⟨tk, tp, bk, bl4⟩ := id hT.1
  obtain ⟨hSg, π, hπ, hinj, hdr, hsh⟩ := id hSM
  have h400 := hT.2.2.2.1
  obtain ⟨s, hs⟩ : ∃ s, s = shA d (π 6) := ⟨_, rfl⟩
  rw [← hs] at hdr
  have hsR : s = d + 6 ∨ (d + 301 ≤ s ∧ s + 9 ≤ d + 355) := by rw [hs]; exact shA_in (hπ 6 (by omega))
  have hs6 : ∀ j, j ≤ 6 → j ≠ π 6 → shA d j + 9 ≤ s ∨ s + 9 ≤ shA d j := fun j hj hne => by rw [hs]; exact shA_ne hj (hπ 6 (by omega)) hne
  have hSgs : Sg μ s := by rw [hs]; exact hSg _ (hπ 6 (by omega))
  unfold q_shape at k
  refine Cl.of0 2 pn_X9 (Nat.le_of_ble_eq_true rfl) ⟨rfl, rfl⟩ rfl ?_
  refine e_il1 1 rfl dX9_shape_0 ?_
  refine e_invS0 [_] 4 rfl dX9_shape_1 k_X9_101 mo_X9_isLand rm_X9_shape_X9_isLand ⟨rfl, rfl⟩ rfl rfl (Nat.le_of_ble_eq_true rfl) ?_
  refine c_isLand ?_
  cases eL : okL x with
  | none =>
    rw [eL] at k
    first | refine e_if_eqB 18 7 (by decide) rfl dX9_shape_4 rfl (fun y1 => ?_) (fun y1 => ?_) | refine e_if_eqN 18 7 (by decide) rfl dX9_shape_4 rfl (by omega) (fun y1 => ?_) (fun y1 => ?_) | refine e_if_eq 18 7 (by decide) rfl dX9_shape_4 (fun y1 => ?_) (fun y1 => ?_)
    · refine e_bipush (-2) 20 rfl dX9_shape_18 bc_m2 ?_
      refine e_iret dX9_shape_20 rfl ?_
      exact k μ Fx.rf hD
    · cases y1
  | some ld =>
  rw [eL] at k
  obtain ⟨hl6, hxl⟩ := okL_some eL
  subst hxl
  first | refine e_if_eqB 18 7 (by decide) rfl dX9_shape_4 rfl (fun y1 => ?_) (fun y1 => ?_) | refine e_if_eqN 18 7 (by decide) rfl dX9_shape_4 rfl (by omega) (fun y1 => ?_) (fun y1 => ?_) | refine e_if_eq 18 7 (by decide) rfl dX9_shape_4 (fun y1 => ?_) (fun y1 => ?_)
  · cases y1
  refine e_al0 8 rfl dX9_shape_7 ?_
  refine e_getR 11 rfl dX9_shape_8 f_X9_12 (by assumption) (by assumption) ?_
  refine e_il2 12 rfl dX9_shape_11 ?_
  refine e_invV0 [_] 15 rfl dX9_shape_12 k_X9_105 mo_X7_holds rm_X9_shape_X7_holds ⟨rfl, rfl⟩ rfl rfl (by assumption) (Nat.le_of_ble_eq_true rfl) ?_
  refine c_tholds hT ?_
  cases eH : okH (aT S) n with
  | none =>
    rw [eH] at k
    first | refine e_if_neB 21 18 (by decide) rfl dX9_shape_15 rfl (fun y2 => ?_) (fun y2 => ?_) | refine e_if_neN 21 18 (by decide) rfl dX9_shape_15 rfl (by omega) (fun y2 => ?_) (fun y2 => ?_) | refine e_if_ne 21 18 (by decide) rfl dX9_shape_15 (fun y2 => ?_) (fun y2 => ?_)
    · cases y2
    · refine e_bipush (-2) 20 rfl dX9_shape_18 bc_m2 ?_
      refine e_iret dX9_shape_20 rfl ?_
      exact k μ Fx.rf hD
  | some m =>
  rw [eH] at k
  obtain ⟨hml, hnm⟩ := okH_some eH
  subst hnm
  simp only [] at k
  first | refine e_if_neB 21 18 (by decide) rfl dX9_shape_15 rfl (fun y2 => ?_) (fun y2 => ?_) | refine e_if_neN 21 18 (by decide) rfl dX9_shape_15 rfl (by omega) (fun y2 => ?_) (fun y2 => ?_) | refine e_if_ne 21 18 (by decide) rfl dX9_shape_15 (fun y2 => ?_) (fun y2 => ?_)
  rotate_left
  · cases y2
  obtain ⟨l, hl⟩ : ∃ l, l = (aT S).take m := ⟨_, rfl⟩
  have hlm : m = l.length := by rw [hl, List.length_take]; omega
  rw [← hl] at k
  have hTl : Tb (mB μ (d + 1 + 1)) l := fun i c hc => hT.2.2.1 i c (by
    have hi := (List.getElem?_eq_some_iff.mp hc).1
    rw [hl, List.getElem?_take_of_lt (by omega)] at hc; exact hc)
  have hl4 : l.length ≤ 400 := by omega
  have hlc : ∀ c ∈ l, c < 256 := fun c hc => hT.2.2.2.2.1 c (by rw [hl] at hc; exact List.mem_of_mem_take hc)
  clear hl
  subst hlm
  have xk := hX.1
  refine e_al0 22 rfl dX9_shape_21 ?_
  refine e_getR 25 rfl dX9_shape_22 f_X9_25 (by assumption) (by assumption) ?_
  refine e_al0 26 rfl dX9_shape_25 ?_
  refine e_getR 29 rfl dX9_shape_26 f_X9_30 (by assumption) (by assumption) ?_
  refine e_al0 30 rfl dX9_shape_29 ?_
  refine e_getR 33 rfl dX9_shape_30 f_X9_12 (by assumption) (by assumption) ?_
  refine e_getR 36 rfl dX9_shape_33 f_X9_108 (by assumption) (by assumption) ?_
  refine e_il2 37 rfl dX9_shape_36 ?_
  refine e_invV0 [_, _, _] 40 rfl dX9_shape_37 k_X9_112 mo_X5_readInto rm_X9_shape_X5_readInto ⟨rfl, rfl⟩ rfl rfl (by assumption) (Nat.le_of_ble_eq_true rfl) ?_
  have hQ : ∀ q, (q = d ∨ q = d + 2 ∨ q = d + 3 ∨ (d + 15 ≤ q ∧ q < d + 301) ∨ d + 355 ≤ q) → ¬ shQ d s q := fun q h => by unfold shQ zS; omega
  have common : ∀ μ1, Fx (zS (d + 4) s) μ μ1 → Sg μ1 s → Fx (shQ d s) μ (sF μ1 (d + 1) 1 (nI 0)) ∧ TI (sF μ1 (d + 1) 1 (nI 0)) d [] ∧ (∀ j, j ≤ 6 → Sg (sF μ1 (d + 1) 1 (nI 0)) (shA d j)) ∧ ∀ i, i < 6 → ShM (sF μ1 (d + 1) 1 (nI 0)) (shA d (π i)) (aS S i) := by
    intro μ1 hF1 hSg1
    have hF2 : Fx (shQ d s) μ (sF μ1 (d + 1) 1 (nI 0)) := (hF1.mono (S' := shQ d s) (fun q a => Or.inr a)).sF (show shQ d s (d + 1) from Or.inl rfl) _ _
    refine ⟨hF2, (hT.fx hF1 (by unfold zS; omega) (by unfold zS; omega)).zero, fun j hj => ?_, fun i hi => (hsh i hi).2.fx hF2 (fun q a b => ?_)⟩
    · by_cases e : j = π 6
      · rw [e, ← hs]; exact hSg1
      · have := hs6 j hj e
        have := shA_in (d := d) hj
        exact (hSg j hj).fx hF2 (by unfold shQ zS; omega)
    · have := hs6 (π i) (hπ i (by omega)) (fun e => by have := hinj i 6 (by omega) (by omega) e; omega)
      have := shA_in (d := d) (hπ i (by omega))
      unfold shQ zS
      omega
  refine c_readInto KH hX.1 bk bl4 hTl hl4 hlc hSgs (fun q hq => by omega) (fun q hq => by omega) (fun y hy μ1 hF1 _ h31 h41 hSg1 hSf1 => ?_) (fun f p hy μ1 hF1 _ hfl hSg1 => ?_)
  rotate_left
  · rw [hy] at k
    simp only [] at k
    have f1 := hF1.2.2.2 d (by unfold zS; omega)
    have gk1 : mK μ1 d = 10 := by rw [hF1.2.1]; exact gk
    have p01 : mP μ1 d 0 = some (d + 1) := by rw [f1.2.2.2.2.1]; exact p0
    have tk1 : mK μ1 (d + 1) = 8 := by rw [hF1.2.1]; exact tk
    refine e_is3 41 rfl dX9_shape_40 (by decide) rfl ?_
    refine e_al0 42 rfl dX9_shape_41 ?_
    refine e_getR 45 rfl dX9_shape_42 f_X9_12 (by assumption) (by assumption) ?_
    refine e_iconst (nI 0) 46 rfl dX9_shape_45 ic_0 ?_
    refine e_putI 49 rfl dX9_shape_46 f_X9_94 (by assumption) ?_
    refine e_il3 50 rfl dX9_shape_49 ?_
    first | refine e_if_neB 55 53 (by decide) rfl dX9_shape_50 rfl (fun y3 => ?_) (fun y3 => ?_) | refine e_if_neN 55 53 (by decide) rfl dX9_shape_50 rfl (by omega) (fun y3 => ?_) (fun y3 => ?_) | refine e_if_ne 55 53 (by decide) rfl dX9_shape_50 (fun y3 => ?_) (fun y3 => ?_)
    · exact absurd rfl y3
    refine e_iconst (-1) 54 rfl dX9_shape_53 ic_m1 ?_
    refine e_iret dX9_shape_54 rfl ?_
    obtain ⟨hF2, hT2, hSg2, hSh2⟩ := common μ1 hF1 hSg1
    have fd := hF2.2.2.2 d (hQ d (by omega))
    refine k _ (hF2.mono (fun q a => by unfold shQ zS at a; omega)) ⟨hG.fx hF2 (fun g _ => by rw [fd.2.2.2.2.1]) (hQ _ (by omega)), hT2, ⟨by rw [hF2.2.1]; exact xk, ?_, ?_⟩, hB.fx hF2 (fun q a b => hQ q (by omega)), hh.fx hF2 (hQ _ (by omega)), hR.fx hF2 (fun q a b => hQ q (by omega)), hTb.fx hF2 (fun q a b => hQ q (by omega)), hLn.fx hF2 (hQ _ (by omega)), ⟨hSg2, π, hπ, hinj, by rw [fd.2.2.2.2.1, ← hs]; exact hdr, fun i hi => ⟨by rw [(hF2.2.2.2 (d + 3) (hQ _ (by omega))).2.2.2.2.2]; exact (hsh i hi).1, hSh2 i hi⟩⟩, hN.fx hW.2.2.2.1 hF2 (by rw [fd.1]) (fun q a b => hQ q (by omega)), hLs.fx hF2 (by rw [fd.1]) (fun q a b => hQ q (by omega)), hRk.fx hF2 (by rw [fd.1]) (hQ _ (by omega))⟩
    · simp only [mN_sF, mK_sF, mL_sF, mF_sF, mB_sF, mA_sF, mJ_sF, mP_sF, mO_sF, mN_sB, mK_sB, mL_sB, mF_sB, mB_sB, mA_sB, mJ_sB, mP_sB, mO_sB, mN_sA, mK_sA, mL_sA, mF_sA, mB_sA, mA_sA, mJ_sA, mP_sA, mO_sA, mN_sJ, mK_sJ, mL_sJ, mF_sJ, mB_sJ, mA_sJ, mJ_sJ, mP_sJ, mO_sJ, mN_sP, mK_sP, mL_sP, mF_sP, mB_sP, mA_sP, mJ_sP, mP_sP, mO_sP, mN_sO, mK_sO, mL_sO, mF_sO, mB_sO, mA_sO, mJ_sO, mP_sO, mO_sO, up2, if_true, if_false, eq_self, ite_true, ite_false, reduceIte, Nat.add_left_cancel_iff, Nat.add_eq_left, Nat.left_eq_add, Nat.reduceEqDiff]; exact hfl.1
    · simp only [mN_sF, mK_sF, mL_sF, mF_sF, mB_sF, mA_sF, mJ_sF, mP_sF, mO_sF, mN_sB, mK_sB, mL_sB, mF_sB, mB_sB, mA_sB, mJ_sB, mP_sB, mO_sB, mN_sA, mK_sA, mL_sA, mF_sA, mB_sA, mA_sA, mJ_sA, mP_sA, mO_sA, mN_sJ, mK_sJ, mL_sJ, mF_sJ, mB_sJ, mA_sJ, mJ_sJ, mP_sJ, mO_sJ, mN_sP, mK_sP, mL_sP, mF_sP, mB_sP, mA_sP, mJ_sP, mP_sP, mO_sP, mN_sO, mK_sO, mL_sO, mF_sO, mB_sO, mA_sO, mJ_sO, mP_sO, mO_sO, up2, if_true, if_false, eq_self, ite_true, ite_false, reduceIte, Nat.add_left_cancel_iff, Nat.add_eq_left, Nat.left_eq_add, Nat.reduceEqDiff]; exact hfl.2
  rw [hy] at k
  simp only [] at k
  have f1 := hF1.2.2.2 d (by unfold zS; omega)
  have f13 := hF1.2.2.2 (d + 3) (by unfold zS; omega)
  have gk1 : mK μ1 d = 10 := by rw [hF1.2.1]; exact gk
  have p01 : mP μ1 d 0 = some (d + 1) := by rw [f1.2.2.2.2.1]; exact p0
  have p11 : mP μ1 d 1 = some (d + 3) := by rw [f1.2.2.2.2.1]; exact p1
  have p31 : mP μ1 d 3 = some s := by rw [f1.2.2.2.2.1]; exact hdr
  have tk1 : mK μ1 (d + 1) = 8 := by rw [hF1.2.1]; exact tk
  refine e_is3 41 rfl dX9_shape_40 (by decide) rfl ?_
  refine e_al0 42 rfl dX9_shape_41 ?_
  refine e_getR 45 rfl dX9_shape_42 f_X9_12 (by assumption) (by assumption) ?_
  refine e_iconst (nI 0) 46 rfl dX9_shape_45 ic_0 ?_
  refine e_putI 49 rfl dX9_shape_46 f_X9_94 (by assumption) ?_
  refine e_il3 50 rfl dX9_shape_49 ?_
  first | refine e_if_neB 55 53 (by decide) rfl dX9_shape_50 rfl (fun y3 => ?_) (fun y3 => ?_) | refine e_if_neN 55 53 (by decide) rfl dX9_shape_50 rfl (by omega) (fun y3 => ?_) (fun y3 => ?_) | refine e_if_ne 55 53 (by decide) rfl dX9_shape_50 (fun y3 => ?_) (fun y3 => ?_)
  rotate_left
  · exact absurd y3 (by decide)
  obtain ⟨hF2, hT2, hSg2, hSh2⟩ := common μ1 hF1 hSg1
  have hSf2 : Sf (sF μ1 (d + 1) 1 (nI 0)) s y ∧ XI (sF μ1 (d + 1) 1 (nI 0)) d 0 (-1) := by
    have hFz : Fx (fun q => q = d + 1) μ1 (sF μ1 (d + 1) 1 (nI 0)) := (Fx.rf (S := fun q => q = d + 1)).sF rfl _ _
    refine ⟨?_, by rw [hF2.2.1]; exact xk, by simp only [mN_sF, mK_sF, mL_sF, mF_sF, mB_sF, mA_sF, mJ_sF, mP_sF, mO_sF, mN_sB, mK_sB, mL_sB, mF_sB, mB_sB, mA_sB, mJ_sB, mP_sB, mO_sB, mN_sA, mK_sA, mL_sA, mF_sA, mB_sA, mA_sA, mJ_sA, mP_sA, mO_sA, mN_sJ, mK_sJ, mL_sJ, mF_sJ, mB_sJ, mA_sJ, mJ_sJ, mP_sJ, mO_sJ, mN_sP, mK_sP, mL_sP, mF_sP, mB_sP, mA_sP, mJ_sP, mP_sP, mO_sP, mN_sO, mK_sO, mL_sO, mF_sO, mB_sO, mA_sO, mJ_sO, mP_sO, mO_sO, up2, if_true, if_false, eq_self, ite_true, ite_false, reduceIte, Nat.add_left_cancel_iff, Nat.add_eq_left, Nat.left_eq_add, Nat.reduceEqDiff]; exact h31, by simp only [mN_sF, mK_sF, mL_sF, mF_sF, mB_sF, mA_sF, mJ_sF, mP_sF, mO_sF, mN_sB, mK_sB, mL_sB, mF_sB, mB_sB, mA_sB, mJ_sB, mP_sB, mO_sB, mN_sA, mK_sA, mL_sA, mF_sA, mB_sA, mA_sA, mJ_sA, mP_sA, mO_sA, mN_sJ, mK_sJ, mL_sJ, mF_sJ, mB_sJ, mA_sJ, mJ_sJ, mP_sJ, mO_sJ, mN_sP, mK_sP, mL_sP, mF_sP, mB_sP, mA_sP, mJ_sP, mP_sP, mO_sP, mN_sO, mK_sO, mL_sO, mF_sO, mB_sO, mA_sO, mJ_sO, mP_sO, mO_sO, up2, if_true, if_false, eq_self, ite_true, ite_false, reduceIte, Nat.add_left_cancel_iff, Nat.add_eq_left, Nat.left_eq_add, Nat.reduceEqDiff]; exact h41⟩
    obtain ⟨a1, a2, a3, a4, a5⟩ := hSf1
    have hm : mF (sF μ1 (d + 1) 1 (nI 0)) s = mF μ1 s := up2_a (by omega)
    refine ⟨by unfold Ss at a1 ⊢; rw [hm]; exact a1, by unfold Sk at a2 ⊢; rw [hm]; exact a2, by unfold Sl at a3 ⊢; rw [hm]; exact a3, by unfold Sl at a4 ⊢; rw [hm]; exact a4, by unfold Se at a5 ⊢; rw [hm]; exact a5⟩
  generalize sF μ1 (d + 1) 1 (nI 0) = μ2 at hF2 hT2 hSg2 hSh2 hSf2 ⊢
  obtain ⟨hSf2, hX2⟩ := hSf2
  have f2 := hF2.2.2.2 d (hQ d (by omega))
  have f23 := hF2.2.2.2 (d + 3) (hQ _ (by omega))
  have gk2 : mK μ2 d = 10 := by rw [hF2.2.1]; exact gk
  have p12 : mP μ2 d 1 = some (d + 3) := by rw [f2.2.2.2.2.1]; exact p1
  have p32 : mP μ2 d 3 = some s := by rw [f2.2.2.2.2.1]; exact hdr
  have k32 : mK μ2 (d + 3) = 17 := by rw [hF2.2.1]; exact k3
  have l32 : mL μ2 (d + 3) = 6 := by rw [hF2.2.2.1]; exact l3
  have o2 : mO μ2 (d + 3) ld = some (shA d (π ld)) := by rw [f23.2.2.2.2.2]; exact (hsh ld hl6).1
  have sk2 : mK μ2 s = 5 := by have := hSg2 (π 6) (hπ 6 (by omega)); rw [← hs] at this; exact this.1.1
  have gk3 : mK (sO μ2 (d + 3) ld (some s)) d = 10 := gk2
  have skl : mK μ2 (shA d (π ld)) = 5 := (hSg2 _ (hπ ld (by omega))).1.1
  have skl3 : mK (sO μ2 (d + 3) ld (some s)) (shA d (π ld)) = 5 := skl
  refine e_al0 56 rfl dX9_shape_55 ?_
  refine e_getR 59 rfl dX9_shape_56 f_X9_18 (by assumption) (by assumption) ?_
  refine e_il1 60 rfl dX9_shape_59 ?_
  refine e_aald 61 rfl dX9_shape_60 (by assumption) (by decide) (by assumption) (by first | rfl | simp only [pk_mul, nI_add]) (by omega) (by omega) (by assumption) ?_
  refine e_as4 63 rfl dX9_shape_61 (by decide) rfl ?_
  refine e_al0 64 rfl dX9_shape_63 ?_
  refine e_getR 67 rfl dX9_shape_64 f_X9_18 (by assumption) (by assumption) ?_
  refine e_il1 68 rfl dX9_shape_67 ?_
  refine e_al0 69 rfl dX9_shape_68 ?_
  refine e_getR 72 rfl dX9_shape_69 f_X9_30 (by assumption) (by assumption) ?_
  refine e_aast 73 rfl dX9_shape_72 (by assumption) (by first | exact Or.inl ⟨rfl, rfl⟩ | exact Or.inr (Or.inl ⟨rfl, rfl⟩) | exact Or.inr (Or.inr ⟨rfl, rfl⟩)) (by assumption) (by first | rfl | simp only [pk_mul, nI_add]) (by omega) (by omega) (by assumption) ?_
  refine e_al0 74 rfl dX9_shape_73 ?_
  refine e_al4 76 rfl dX9_shape_74 ?_
  refine e_putR 79 rfl dX9_shape_76 f_X9_30 (by assumption) rfl rfl (fun h => by cases h) ?_
  refine e_al0 80 rfl dX9_shape_79 ?_
  refine e_il1 81 rfl dX9_shape_80 ?_
  refine e_invV0 [_] 84 rfl dX9_shape_81 k_X9_116 mo_X9_landChanged rm_X9_shape_X9_landChanged ⟨rfl, rfl⟩ rfl rfl (by assumption) (Nat.le_of_ble_eq_true rfl) ?_
  have hF4 : Fx (fun q => q = d + 3 ∨ q = d) μ2 (sP (sO μ2 (d + 3) ld (some s)) d 3 (some (shA d (π ld)))) := ((Fx.rf (S := fun q => q = d + 3 ∨ q = d)).sO (Or.inl rfl) _ _).sP (Or.inr rfl) _ _
  have hP4 : ∀ g, g ≠ 3 → mP (sP (sO μ2 (d + 3) ld (some s)) d 3 (some (shA d (π ld)))) d g = mP μ d g := fun g hg => by
    show up2 (mP μ2) d 3 _ d g = _
    rw [up2_k hg, f2.2.2.2.2.1]
  have hP43 : mP (sP (sO μ2 (d + 3) ld (some s)) d 3 (some (shA d (π ld)))) d 3 = some (shA d (π ld)) := by
    show up2 (mP μ2) d 3 _ d 3 = _
    rw [up2_s]
  have hO4 : ∀ i, i < 6 → mO (sP (sO μ2 (d + 3) ld (some s)) d 3 (some (shA d (π ld)))) (d + 3) i = some (shA d (if i = ld then π 6 else π i)) := fun i hi => by
    show up2 (mO μ2) (d + 3) ld _ (d + 3) i = _
    by_cases e : i = ld
    · rw [if_pos e, e, up2_s, hs]
    · rw [if_neg e, up2_k e, f23.2.2.2.2.2]; exact (hsh i hi).1
  have hN4f : mF (sP (sO μ2 (d + 3) ld (some s)) d 3 (some (shA d (π ld)))) d = mF μ d := by show mF μ2 d = _; rw [f2.1]
  generalize sP (sO μ2 (d + 3) ld (some s)) d 3 (some (shA d (π ld))) = μ4 at hF4 hP4 hP43 hO4 hN4f ⊢
  obtain ⟨R, hRd⟩ : ∃ R : Nat → Prop, R = fun q => shQ d s q ∨ q = d + 3 ∨ q = d := ⟨_, rfl⟩
  have hF14 : Fx R μ μ4 := (hF2.mono (S' := R) (fun q a => by rw [hRd]; exact Or.inl a)).trans (hF4.mono (fun q a => by rw [hRd]; exact Or.inr a))
  have nR : ∀ q, (q = d + 2 ∨ (d + 15 ≤ q ∧ q < d + 301) ∨ d + 355 ≤ q) → ¬ R q := fun q h => by rw [hRd]; rintro (a | a); exact hQ q (by omega) a; omega
  have hG4 : GD μ4 d := hG.fx hF14 hP4 (nR _ (by omega))
  have hN4 : NmI μ4 d (aS S) (aB S) (aL S) (aN S) := hN.fx hW.2.2.2.1 hF14 (by rw [hN4f]) (fun q a b => nR q (by omega))
  refine c_landChanged (sh' := up1 (aS S) ld (some y)) (es' := aB S) hG4 hN4 hW.2.2.2.1 hl6 (fun l' hne => up1_n hne) (fun _ _ _ _ => Iff.rfl) (fun μ5 hF5 hf5 hN5 h9 h11 => ?_)
  have gk5 : mK μ5 d = 10 := by rw [hF5.2.1, hF14.2.1]; exact gk
  have p15 : mP μ5 d 1 = some (d + 3) := by rw [hF5.2.2.2.1, hP4 1 (by decide)]; exact p1
  have k35 : mK μ5 (d + 3) = 17 := by rw [hF5.2.1, hF14.2.1]; exact k3
  have l35 : mL μ5 (d + 3) = 6 := by rw [hF5.2.2.1, hF14.2.2.1]; exact l3
  have o5 : mO μ5 (d + 3) ld = some s := by rw [hF5.2.2.2.2.1, hO4 ld hl6, if_pos rfl, hs]
  have sk5 : mK μ5 s = 5 := by rw [hF5.2.1, hF4.2.1]; exact sk2
  have hF25 : Fx (fun q => q = d + 3 ∨ lcS d q) μ2 μ5 := (hF4.mono (S' := fun q => q = d + 3 ∨ lcS d q) (fun q a => by rcases a with a | a; exact Or.inl a; exact Or.inr (Or.inl a))).trans (hF5.fx.mono (fun q a => Or.inr a))
  have n25 : ∀ q, d < q → q ≠ d + 3 → q < d + 355 → ¬ (q = d + 3 ∨ lcS d q) := fun q a b c => by
    rintro (z | z)
    · exact b z
    · exact lcS_b a c z
  have f25s := (hF25.2.2.2 s (n25 s (by omega) (by omega) (by omega))).1
  have s05 : mF μ5 s 0 = nI y.1.length := by rw [f25s]; exact hSf2.1.1
  refine e_al0 85 rfl dX9_shape_84 ?_
  refine e_getR 88 rfl dX9_shape_85 f_X9_18 (by assumption) (by assumption) ?_
  refine e_il1 89 rfl dX9_shape_88 ?_
  refine e_aald 90 rfl dX9_shape_89 (by assumption) (by decide) (by assumption) (by first | rfl | simp only [pk_mul, nI_add]) (by omega) (by omega) (by assumption) ?_
  first | refine e_getIv 93 rfl dX9_shape_90 f_X9_119 (by assumption) (by first | assumption | (simp only [mN_sF, mK_sF, mL_sF, mF_sF, mB_sF, mA_sF, mJ_sF, mP_sF, mO_sF, mN_sB, mK_sB, mL_sB, mF_sB, mB_sB, mA_sB, mJ_sB, mP_sB, mO_sB, mN_sA, mK_sA, mL_sA, mF_sA, mB_sA, mA_sA, mJ_sA, mP_sA, mO_sA, mN_sJ, mK_sJ, mL_sJ, mF_sJ, mB_sJ, mA_sJ, mJ_sJ, mP_sJ, mO_sJ, mN_sP, mK_sP, mL_sP, mF_sP, mB_sP, mA_sP, mJ_sP, mP_sP, mO_sP, mN_sO, mK_sO, mL_sO, mF_sO, mB_sO, mA_sO, mJ_sO, mP_sO, mO_sO, up2, if_true, if_false, eq_self, ite_true, ite_false, reduceIte, Nat.add_left_cancel_iff, Nat.add_eq_left, Nat.left_eq_add, Nat.reduceEqDiff]; assumption) | (simp only [mN_sF, mK_sF, mL_sF, mF_sF, mB_sF, mA_sF, mJ_sF, mP_sF, mO_sF, mN_sB, mK_sB, mL_sB, mF_sB, mB_sB, mA_sB, mJ_sB, mP_sB, mO_sB, mN_sA, mK_sA, mL_sA, mF_sA, mB_sA, mA_sA, mJ_sA, mP_sA, mO_sA, mN_sJ, mK_sJ, mL_sJ, mF_sJ, mB_sJ, mA_sJ, mJ_sJ, mP_sJ, mO_sJ, mN_sP, mK_sP, mL_sP, mF_sP, mB_sP, mA_sP, mJ_sP, mP_sP, mO_sP, mN_sO, mK_sO, mL_sO, mF_sO, mB_sO, mA_sO, mJ_sO, mP_sO, mO_sO, up2, if_true, if_false, eq_self, ite_true, ite_false, reduceIte, Nat.add_left_cancel_iff, Nat.add_eq_left, Nat.left_eq_add, Nat.reduceEqDiff]; done)) ?_ | refine e_getI 93 rfl dX9_shape_90 f_X9_119 (by assumption) ?_
  refine e_iret dX9_shape_93 rfl ?_
  have hF15 : Fx (fun q => R q ∨ lcS d q) μ μ5 := (hF14.mono (S' := fun q => R q ∨ lcS d q) (fun q a => Or.inl a)).trans (hF5.fx.mono (fun q a => Or.inr a))
  have n15 : ∀ q, (q = d + 2 ∨ (d + 15 ≤ q ∧ q < d + 301)) → ¬ (R q ∨ lcS d q) := fun q h => by
    rintro (z | z)
    · exact nR q (by omega) z
    · exact lcS_b (by omega) (by omega) z
  refine k μ5 (hF15.mono (fun q a => ?_)) ⟨hG4.fx hF5.fx (fun g _ => by rw [hF5.2.2.2.1]) (lcS_b (by omega) (by omega)), hT2.fx hF25 (n25 _ (by omega) (by omega) (by omega)) (n25 _ (by omega) (by omega) (by omega)), hX2.fx hF25 (n25 _ (by omega) (by omega) (by omega)), hB.fx hF15 (fun q a b => n15 q (by omega)), hh.fx hF15 (n15 _ (by omega)), hR.fx hF15 (fun q a b => n15 q (by omega)), hTb.fx hF15 (fun q a b => n15 q (by omega)), hLn.fx hF15 (n15 _ (by omega)), ⟨fun j hj => ?_, fun i => if i = 6 then π ld else if i = ld then π 6 else π i, fun i hi => ?_, fun i j hi hj he => ?_, ?_, fun i hi => ⟨?_, ?_⟩⟩, hN5, Or.inl h9, false, h11, fun q => by cases q⟩
  · rw [hRd] at a
    unfold shQ zS lcS nA at a
    rcases a with (a | a) | a | ⟨i, h30, a⟩ <;> omega
  · have := shA_in (d := d) hj
    exact (hSg2 j hj).fx hF25 (n25 _ (by omega) (by omega) (by omega))
  · show (if i = 6 then π ld else if i = ld then π 6 else π i) ≤ 6
    split
    · exact hπ _ (by omega)
    · split
      · exact hπ _ (by omega)
      · exact hπ _ (by omega)
  · have he : (if i = 6 then π ld else if i = ld then π 6 else π i) = (if j = 6 then π ld else if j = ld then π 6 else π j) := he
    have inj : ∀ x y, x ≤ 6 → y ≤ 6 → π x = π y → x = y := hinj
    by_cases c1 : i = 6 <;> by_cases c2 : j = 6 <;> by_cases c3 : i = ld <;> by_cases c4 : j = ld <;> simp only [c1, c2, c3, c4, if_true, if_false, reduceIte] at he <;> first | omega | (have := inj _ _ (by omega) (by omega) he; omega) | (split at he <;> first | omega | (have := inj _ _ (by omega) (by omega) he; omega) | (split at he <;> first | omega | (have := inj _ _ (by omega) (by omega) he; omega)))
  · rw [hF5.2.2.2.1, hP43]; rfl
  · show _ = some (shA d (if i = 6 then π ld else if i = ld then π 6 else π i))
    rw [if_neg (by omega), hF5.2.2.2.2.1]; exact hO4 i hi
  · show ShM μ5 (shA d (if i = 6 then π ld else if i = ld then π 6 else π i)) (up1 (aS S) ld (some y) i)
    rw [if_neg (show i ≠ 6 by omega)]
    by_cases e : i = ld
    · rw [if_pos e, e, up1_s, ← hs]
      exact (hSf2.shm (by rw [hs]; exact hSg2 _ (hπ 6 (by omega)))).fx hF25 (fun q a b => n25 _ (by omega) (by omega) (by omega))
    · rw [if_neg e, up1_n e]
      have := shA_in (d := d) (hπ i (by omega))
      exact (hSh2 i hi).fx hF25 (fun q a b => n25 _ (by omega) (by omega) (by omega))
end SHAPE4
