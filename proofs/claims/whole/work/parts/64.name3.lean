/-! NameDesk: name, shape, table -/
section NAME3
variable {E : En} {μ : Mm} {K : Option Value → Mm → Prop}
def q_name (S : Ast) (x n : Int32) : Int32 × Ast := match okL x, okH (aT S) n with
  | some ld, some m => if (aN S).length < 30 ∧ nameOK ((aT S).take m) = true then (nI (aN S).length, ([], S.2.1, S.2.2.1, aN S ++ [(ld, splitB ((aT S).take m))], S.2.2.2.2)) else (-1, S)
  | _, _ => (-1, S)
theorem NmI.other {d a : Nat} {Q : Nat → Prop} {μ' : Mm} {sh : Nat → Option Shp} {es : List Ent} {tb : Nat → List Nat} {ns : List Nm} (h : NmI μ d sh es tb ns) (hw : ns.length ≤ 30 ∧ ∀ nm ∈ ns, wfN nm) (f : Fr Q μ μ') (hQ : ∀ q, d + 355 ≤ q → q < d + 1255 → Q q → nS (nA d ns.length) q) (h7 : mF μ' d 7 = mF μ d 7) : NmI μ' d sh es tb ns := by
  refine ⟨by rw [h7]; exact h.1, fun i hi => (h.2.1 i hi).fr f, fun i nm hi => (h.2.2 i nm hi).fx (hw.2 nm (List.mem_of_getElem? hi)).2.2.1 f.fx (fun q hq z => ?_)⟩
  have hil := (List.getElem?_eq_some_iff.mp hi).1
  have := hQ q (by unfold nS nA at hq; omega) (by unfold nS nA at hq; omega) z
  unfold nS nA at this hq
  omega
theorem d_name {d : Nat} {S : Ast} {x n : Int32} (hW : WF S) (hD : DI d S μ) (k : ∀ μ', DF d μ μ' → DI d (q_name S x n).2 μ' → K (some (.int (q_name S x n).1)) μ') : Cl E M_X9_name [.ref d, .int x, .int n] μ K := by
  obtain ⟨hG, hT, hX, hB, hh, hR, hTb, hLn, hSM, hN, hLs, hRk⟩ := id hD
  obtain ⟨⟨gk, p0, p1, p2, p4, p5, p6, px⟩, ⟨k3, l3, k262, l262, kx⟩, g3⟩ := id hG
  obtain ⟨tk, tp, bk, bl4⟩ := id hT.1
  have h7 := hN.1
  have n30 := hW.2.2.2.1.1
  have h400 := hT.2.2.2.1
  unfold q_name at k
  refine Cl.of0 1 pn_X9 (Nat.le_of_ble_eq_true rfl) ⟨rfl, rfl⟩ rfl ?_
  refine e_il1 1 rfl dX9_name_0 ?_
  refine e_invS0 [_] 4 rfl dX9_name_1 k_X9_101 mo_X9_isLand rm_X9_name_X9_isLand ⟨rfl, rfl⟩ rfl rfl (Nat.le_of_ble_eq_true rfl) ?_
  refine c_isLand ?_
  cases eL : okL x with
  | none =>
    rw [eL] at k
    first | refine e_if_eqB 27 7 (by decide) rfl dX9_name_4 rfl (fun y1 => ?_) (fun y1 => ?_) | refine e_if_eqN 27 7 (by decide) rfl dX9_name_4 rfl (by omega) (fun y1 => ?_) (fun y1 => ?_) | refine e_if_eq 27 7 (by decide) rfl dX9_name_4 (fun y1 => ?_) (fun y1 => ?_)
    · refine e_iconst (-1) 28 rfl dX9_name_27 ic_m1 ?_
      refine e_iret dX9_name_28 rfl ?_
      exact k μ Fx.rf hD
    · cases y1
  | some ld =>
  rw [eL] at k
  obtain ⟨hl6, hxl⟩ := okL_some eL
  subst hxl
  first | refine e_if_eqB 27 7 (by decide) rfl dX9_name_4 rfl (fun y1 => ?_) (fun y1 => ?_) | refine e_if_eqN 27 7 (by decide) rfl dX9_name_4 rfl (by omega) (fun y1 => ?_) (fun y1 => ?_) | refine e_if_eq 27 7 (by decide) rfl dX9_name_4 (fun y1 => ?_) (fun y1 => ?_)
  · cases y1
  refine e_al0 8 rfl dX9_name_7 ?_
  refine e_getR 11 rfl dX9_name_8 f_X9_12 (by assumption) (by assumption) ?_
  refine e_il2 12 rfl dX9_name_11 ?_
  refine e_invV0 [_] 15 rfl dX9_name_12 k_X9_105 mo_X7_holds rm_X9_name_X7_holds ⟨rfl, rfl⟩ rfl rfl (by assumption) (Nat.le_of_ble_eq_true rfl) ?_
  refine c_tholds hT ?_
  cases eH : okH (aT S) n with
  | none =>
    rw [eH] at k
    first | refine e_if_eqB 27 18 (by decide) rfl dX9_name_15 rfl (fun y2 => ?_) (fun y2 => ?_) | refine e_if_eqN 27 18 (by decide) rfl dX9_name_15 rfl (by omega) (fun y2 => ?_) (fun y2 => ?_) | refine e_if_eq 27 18 (by decide) rfl dX9_name_15 (fun y2 => ?_) (fun y2 => ?_)
    · refine e_iconst (-1) 28 rfl dX9_name_27 ic_m1 ?_
      refine e_iret dX9_name_28 rfl ?_
      exact k μ Fx.rf hD
    · cases y2
  | some m =>
  rw [eH] at k
  obtain ⟨hml, hnm⟩ := okH_some eH
  subst hnm
  simp only [] at k
  first | refine e_if_eqB 27 18 (by decide) rfl dX9_name_15 rfl (fun y2 => ?_) (fun y2 => ?_) | refine e_if_eqN 27 18 (by decide) rfl dX9_name_15 rfl (by omega) (fun y2 => ?_) (fun y2 => ?_) | refine e_if_eq 27 18 (by decide) rfl dX9_name_15 (fun y2 => ?_) (fun y2 => ?_)
  · cases y2
  refine e_al0 19 rfl dX9_name_18 ?_
  first | refine e_getIv 22 rfl dX9_name_19 f_X9_54 (by assumption) (by first | assumption | (simp only [mN_sF, mK_sF, mL_sF, mF_sF, mB_sF, mA_sF, mJ_sF, mP_sF, mO_sF, mN_sB, mK_sB, mL_sB, mF_sB, mB_sB, mA_sB, mJ_sB, mP_sB, mO_sB, mN_sA, mK_sA, mL_sA, mF_sA, mB_sA, mA_sA, mJ_sA, mP_sA, mO_sA, mN_sJ, mK_sJ, mL_sJ, mF_sJ, mB_sJ, mA_sJ, mJ_sJ, mP_sJ, mO_sJ, mN_sP, mK_sP, mL_sP, mF_sP, mB_sP, mA_sP, mJ_sP, mP_sP, mO_sP, mN_sO, mK_sO, mL_sO, mF_sO, mB_sO, mA_sO, mJ_sO, mP_sO, mO_sO, up2, if_true, if_false, eq_self, ite_true, ite_false, reduceIte, Nat.add_left_cancel_iff, Nat.add_eq_left, Nat.left_eq_add, Nat.reduceEqDiff]; assumption) | (simp only [mN_sF, mK_sF, mL_sF, mF_sF, mB_sF, mA_sF, mJ_sF, mP_sF, mO_sF, mN_sB, mK_sB, mL_sB, mF_sB, mB_sB, mA_sB, mJ_sB, mP_sB, mO_sB, mN_sA, mK_sA, mL_sA, mF_sA, mB_sA, mA_sA, mJ_sA, mP_sA, mO_sA, mN_sJ, mK_sJ, mL_sJ, mF_sJ, mB_sJ, mA_sJ, mJ_sJ, mP_sJ, mO_sJ, mN_sP, mK_sP, mL_sP, mF_sP, mB_sP, mA_sP, mJ_sP, mP_sP, mO_sP, mN_sO, mK_sO, mL_sO, mF_sO, mB_sO, mA_sO, mJ_sO, mP_sO, mO_sO, up2, if_true, if_false, eq_self, ite_true, ite_false, reduceIte, Nat.add_left_cancel_iff, Nat.add_eq_left, Nat.left_eq_add, Nat.reduceEqDiff]; done)) ?_ | refine e_getI 22 rfl dX9_name_19 f_X9_54 (by assumption) ?_
  refine e_bipush (nI 30) 24 rfl dX9_name_22 bc_30 ?_
  first | refine e_cmp_ltN 29 27 (by decide) rfl dX9_name_24 rfl rfl (by omega) (by omega) (fun y3 => ?_) (fun y3 => ?_) | refine e_cmp_lt 29 27 (by decide) rfl dX9_name_24 (fun y3 => ?_) (fun y3 => ?_)
  rotate_left
  · rw [if_neg (fun q => by omega)] at k
    refine e_iconst (-1) 28 rfl dX9_name_27 ic_m1 ?_
    refine e_iret dX9_name_28 rfl ?_
    exact k μ Fx.rf hD
  have o1 := g3 (aN S).length y3
  have hNg := hN.2.1 (aN S).length y3
  have nk := hNg.1.1
  obtain ⟨tx, htx, hseg⟩ := hT.tx
  have htape : ¬ nS (nA d (aN S).length) (d + 2) := by unfold nS nA; omega
  refine e_al0 30 rfl dX9_name_29 ?_
  refine e_getR 33 rfl dX9_name_30 f_X9_50 (by assumption) (by assumption) ?_
  refine e_al0 34 rfl dX9_name_33 ?_
  first | refine e_getIv 37 rfl dX9_name_34 f_X9_54 (by assumption) (by first | assumption | (simp only [mN_sF, mK_sF, mL_sF, mF_sF, mB_sF, mA_sF, mJ_sF, mP_sF, mO_sF, mN_sB, mK_sB, mL_sB, mF_sB, mB_sB, mA_sB, mJ_sB, mP_sB, mO_sB, mN_sA, mK_sA, mL_sA, mF_sA, mB_sA, mA_sA, mJ_sA, mP_sA, mO_sA, mN_sJ, mK_sJ, mL_sJ, mF_sJ, mB_sJ, mA_sJ, mJ_sJ, mP_sJ, mO_sJ, mN_sP, mK_sP, mL_sP, mF_sP, mB_sP, mA_sP, mJ_sP, mP_sP, mO_sP, mN_sO, mK_sO, mL_sO, mF_sO, mB_sO, mA_sO, mJ_sO, mP_sO, mO_sO, up2, if_true, if_false, eq_self, ite_true, ite_false, reduceIte, Nat.add_left_cancel_iff, Nat.add_eq_left, Nat.left_eq_add, Nat.reduceEqDiff]; assumption) | (simp only [mN_sF, mK_sF, mL_sF, mF_sF, mB_sF, mA_sF, mJ_sF, mP_sF, mO_sF, mN_sB, mK_sB, mL_sB, mF_sB, mB_sB, mA_sB, mJ_sB, mP_sB, mO_sB, mN_sA, mK_sA, mL_sA, mF_sA, mB_sA, mA_sA, mJ_sA, mP_sA, mO_sA, mN_sJ, mK_sJ, mL_sJ, mF_sJ, mB_sJ, mA_sJ, mJ_sJ, mP_sJ, mO_sJ, mN_sP, mK_sP, mL_sP, mF_sP, mB_sP, mA_sP, mJ_sP, mP_sP, mO_sP, mN_sO, mK_sO, mL_sO, mF_sO, mB_sO, mA_sO, mJ_sO, mP_sO, mO_sO, up2, if_true, if_false, eq_self, ite_true, ite_false, reduceIte, Nat.add_left_cancel_iff, Nat.add_eq_left, Nat.left_eq_add, Nat.reduceEqDiff]; done)) ?_ | refine e_getI 37 rfl dX9_name_34 f_X9_54 (by assumption) ?_
  refine e_aald 38 rfl dX9_name_37 (by assumption) (by decide) (by assumption) (by first | rfl | simp only [pk_mul, nI_add]) (by omega) (by omega) (by assumption) ?_
  refine e_as3 39 rfl dX9_name_38 (by decide) rfl ?_
  refine e_al3 40 rfl dX9_name_39 ?_
  refine e_al0 41 rfl dX9_name_40 ?_
  refine e_getR 44 rfl dX9_name_41 f_X9_12 (by assumption) (by assumption) ?_
  refine e_getR 47 rfl dX9_name_44 f_X9_108 (by assumption) (by assumption) ?_
  refine e_il2 48 rfl dX9_name_47 ?_
  refine e_invV0 [_, _] 51 rfl dX9_name_48 k_X9_143 mo_X2_take rm_X9_name_X2_take ⟨rfl, rfl⟩ rfl rfl (by assumption) (Nat.le_of_ble_eq_true rfl) ?_
  refine c_ntake (tx := tx) (n := 400) hNg bk bl4 (by decide) htx htape (by omega) (fun hok μ1 hF1 hNI => ?_) (fun hno μ1 hF1 => ?_)
  rotate_left
  · rw [hseg m hml] at hno
    rw [if_neg (fun q => by rw [hno] at q; exact absurd q.2 (by decide))] at k
    first | refine e_if_neB 56 54 (by decide) rfl dX9_name_51 rfl (fun y4 => ?_) (fun y4 => ?_) | refine e_if_neN 56 54 (by decide) rfl dX9_name_51 rfl (by omega) (fun y4 => ?_) (fun y4 => ?_) | refine e_if_ne 56 54 (by decide) rfl dX9_name_51 (fun y4 => ?_) (fun y4 => ?_)
    · exact absurd rfl y4
    refine e_iconst (-1) 55 rfl dX9_name_54 ic_m1 ?_
    refine e_iret dX9_name_55 rfl ?_
    have nr : ∀ q, q < d + 355 → ¬ nS (nA d (aN S).length) q := fun q a => by unfold nS nA; omega
    have fd := (hF1.2.2.2.2.2 d (nr d (by omega))).1
    refine k μ1 (hF1.fx.mono (fun q a => by unfold nS nA at a; omega)) ⟨hG.fx hF1.fx (fun g _ => by rw [hF1.2.2.2.1]) (nr _ (by omega)), hT.fx hF1.fx (nr _ (by omega)) (nr _ (by omega)), hX.fx hF1.fx (nr _ (by omega)), hB.fx hF1.fx (fun q a b => nr _ (by omega)), hh.fr hF1, hR.fx hF1.fx (fun q a b => nr _ (by omega)), hTb.fx hF1.fx (fun q a b => nr _ (by omega)), hLn.fr hF1, hSM.fx hF1.fx (by rw [hF1.2.2.2.1]) (nr _ (by omega)) (fun q a => nr _ (by omega)), hN.other (a := 0) hW.2.2.2.1 hF1 (fun q _ _ z => z) (by rw [fd]), hLs.fx hF1.fx (by rw [fd]) (fun q a b => nr _ (by omega)), hRk.fx hF1.fx (by rw [fd]) (nr _ (by omega))⟩
  rw [hseg m hml] at hok hNI
  rw [if_pos ⟨y3, hok⟩] at k
  have ea : nA d (aN S).length = nA d (aN S).length := rfl
  obtain ⟨a, ha⟩ : ∃ a, a = nA d (aN S).length := ⟨_, rfl⟩
  rw [← ha] at hF1 hNI nk ⊢
  have haR : d + 355 ≤ a ∧ a + 30 ≤ d + 1255 := by rw [ha]; unfold nA; omega
  have nr1 : ∀ q, q < d + 355 → ¬ nS a q := fun q a' => by unfold nS; omega
  have nk1 : mK μ1 a = 3 := by rw [hF1.2.1]; exact nk
  have fd1 := (hF1.2.2.2.2.2 d (nr1 d (by omega))).1
  have gk1 : mK μ1 d = 10 := by rw [hF1.2.1]; exact gk
  have p01 : mP μ1 d 0 = some (d + 1) := by rw [hF1.2.2.2.1]; exact p0
  have tk1 : mK μ1 (d + 1) = 8 := by rw [hF1.2.1]; exact tk
  have h71 : mF μ1 d 7 = nI (aN S).length := by rw [fd1]; exact h7
  have da : d ≠ a := by omega
  first | refine e_if_neB 56 54 (by decide) rfl dX9_name_51 rfl (fun y4 => ?_) (fun y4 => ?_) | refine e_if_neN 56 54 (by decide) rfl dX9_name_51 rfl (by omega) (fun y4 => ?_) (fun y4 => ?_) | refine e_if_ne 56 54 (by decide) rfl dX9_name_51 (fun y4 => ?_) (fun y4 => ?_)
  rotate_left
  · exact absurd y4 (by decide)
  refine e_al3 57 rfl dX9_name_56 ?_
  refine e_il1 58 rfl dX9_name_57 ?_
  refine e_putI 61 rfl dX9_name_58 f_X9_147 (by assumption) ?_
  have nk2 : mK (sF μ1 a 0 (nI ld)) a = 3 := nk1
  refine e_al3 62 rfl dX9_name_61 ?_
  refine e_iconst (nI 0) 63 rfl dX9_name_62 ic_0 ?_
  refine e_putZ 66 rfl dX9_name_63 f_X9_150 (by assumption) (by first | exact z0 | exact z1 | exact bI01 _ | assumption) ?_
  have nk3 : mK (sF (sF μ1 a 0 (nI ld)) a 3 (nI 0)) a = 3 := nk1
  refine e_al3 67 rfl dX9_name_66 ?_
  refine e_iconst (nI 0) 68 rfl dX9_name_67 ic_0 ?_
  refine e_putZ 71 rfl dX9_name_68 f_X9_153 (by assumption) (by first | exact z0 | exact z1 | exact bI01 _ | assumption) ?_
  have gk2 : mK (sF (sF (sF μ1 a 0 (nI ld)) a 3 (nI 0)) a 8 (nI 0)) d = 10 := gk1
  have p02 : mP (sF (sF (sF μ1 a 0 (nI ld)) a 3 (nI 0)) a 8 (nI 0)) d 0 = some (d + 1) := p01
  have tk2 : mK (sF (sF (sF μ1 a 0 (nI ld)) a 3 (nI 0)) a 8 (nI 0)) (d + 1) = 8 := tk1
  refine e_al0 72 rfl dX9_name_71 ?_
  refine e_getR 75 rfl dX9_name_72 f_X9_12 (by assumption) (by assumption) ?_
  refine e_iconst (nI 0) 76 rfl dX9_name_75 ic_0 ?_
  refine e_putI 79 rfl dX9_name_76 f_X9_94 (by assumption) ?_
  have gk3 : mK (sF (sF (sF (sF μ1 a 0 (nI ld)) a 3 (nI 0)) a 8 (nI 0)) (d + 1) 1 (nI 0)) d = 10 := gk1
  refine e_al0 80 rfl dX9_name_79 ?_
  refine e_iconst (nI 0) 81 rfl dX9_name_80 ic_0 ?_
  refine e_putZ 84 rfl dX9_name_81 f_X9_72 (by assumption) (by first | exact z0 | exact z1 | exact bI01 _ | assumption) ?_
  have gk4 : mK (sF (sF (sF (sF (sF μ1 a 0 (nI ld)) a 3 (nI 0)) a 8 (nI 0)) (d + 1) 1 (nI 0)) d 11 (nI 0)) d = 10 := gk1
  have h72 : mF (sF (sF (sF (sF (sF μ1 a 0 (nI ld)) a 3 (nI 0)) a 8 (nI 0)) (d + 1) 1 (nI 0)) d 11 (nI 0)) d 7 = nI (aN S).length := by
    show up2 (up2 (up2 (up2 (up2 _ a 0 _) a 3 _) a 8 _) (d + 1) 1 _) d 11 _ d 7 = _
    rw [up2_k (by decide), up2_a (by omega), up2_a da, up2_a da, up2_a da]; exact h71
  refine e_al0 85 rfl dX9_name_84 ?_
  refine e_dup 86 rfl dX9_name_85 rfl ?_
  first | refine e_getIv 89 rfl dX9_name_86 f_X9_54 (by assumption) (by first | assumption | (simp only [mN_sF, mK_sF, mL_sF, mF_sF, mB_sF, mA_sF, mJ_sF, mP_sF, mO_sF, mN_sB, mK_sB, mL_sB, mF_sB, mB_sB, mA_sB, mJ_sB, mP_sB, mO_sB, mN_sA, mK_sA, mL_sA, mF_sA, mB_sA, mA_sA, mJ_sA, mP_sA, mO_sA, mN_sJ, mK_sJ, mL_sJ, mF_sJ, mB_sJ, mA_sJ, mJ_sJ, mP_sJ, mO_sJ, mN_sP, mK_sP, mL_sP, mF_sP, mB_sP, mA_sP, mJ_sP, mP_sP, mO_sP, mN_sO, mK_sO, mL_sO, mF_sO, mB_sO, mA_sO, mJ_sO, mP_sO, mO_sO, up2, if_true, if_false, eq_self, ite_true, ite_false, reduceIte, Nat.add_left_cancel_iff, Nat.add_eq_left, Nat.left_eq_add, Nat.reduceEqDiff]; assumption) | (simp only [mN_sF, mK_sF, mL_sF, mF_sF, mB_sF, mA_sF, mJ_sF, mP_sF, mO_sF, mN_sB, mK_sB, mL_sB, mF_sB, mB_sB, mA_sB, mJ_sB, mP_sB, mO_sB, mN_sA, mK_sA, mL_sA, mF_sA, mB_sA, mA_sA, mJ_sA, mP_sA, mO_sA, mN_sJ, mK_sJ, mL_sJ, mF_sJ, mB_sJ, mA_sJ, mJ_sJ, mP_sJ, mO_sJ, mN_sP, mK_sP, mL_sP, mF_sP, mB_sP, mA_sP, mJ_sP, mP_sP, mO_sP, mN_sO, mK_sO, mL_sO, mF_sO, mB_sO, mA_sO, mJ_sO, mP_sO, mO_sO, up2, if_true, if_false, eq_self, ite_true, ite_false, reduceIte, Nat.add_left_cancel_iff, Nat.add_eq_left, Nat.left_eq_add, Nat.reduceEqDiff]; done)) ?_ | refine e_getI 89 rfl dX9_name_86 f_X9_54 (by assumption) ?_
  refine e_iconst (nI 1) 90 rfl dX9_name_89 ic_1 ?_
  first | refine e_iaddN 91 rfl dX9_name_90 rfl rfl ?_ | refine e_iadd 91 rfl dX9_name_90 ?_
  refine e_putI 94 rfl dX9_name_91 f_X9_54 (by assumption) ?_
  have gk5 : mK (sF (sF (sF (sF (sF (sF μ1 a 0 (nI ld)) a 3 (nI 0)) a 8 (nI 0)) (d + 1) 1 (nI 0)) d 11 (nI 0)) d 7 (nI ((aN S).length + 1))) d = 10 := gk1
  have h73 : mF (sF (sF (sF (sF (sF (sF μ1 a 0 (nI ld)) a 3 (nI 0)) a 8 (nI 0)) (d + 1) 1 (nI 0)) d 11 (nI 0)) d 7 (nI ((aN S).length + 1))) d 7 = nI ((aN S).length + 1) := by
    show up2 _ d 7 _ d 7 = _
    rw [up2_s]
  refine e_al0 95 rfl dX9_name_94 ?_
  first | refine e_getIv 98 rfl dX9_name_95 f_X9_54 (by assumption) (by first | assumption | (simp only [mN_sF, mK_sF, mL_sF, mF_sF, mB_sF, mA_sF, mJ_sF, mP_sF, mO_sF, mN_sB, mK_sB, mL_sB, mF_sB, mB_sB, mA_sB, mJ_sB, mP_sB, mO_sB, mN_sA, mK_sA, mL_sA, mF_sA, mB_sA, mA_sA, mJ_sA, mP_sA, mO_sA, mN_sJ, mK_sJ, mL_sJ, mF_sJ, mB_sJ, mA_sJ, mJ_sJ, mP_sJ, mO_sJ, mN_sP, mK_sP, mL_sP, mF_sP, mB_sP, mA_sP, mJ_sP, mP_sP, mO_sP, mN_sO, mK_sO, mL_sO, mF_sO, mB_sO, mA_sO, mJ_sO, mP_sO, mO_sO, up2, if_true, if_false, eq_self, ite_true, ite_false, reduceIte, Nat.add_left_cancel_iff, Nat.add_eq_left, Nat.left_eq_add, Nat.reduceEqDiff]; assumption) | (simp only [mN_sF, mK_sF, mL_sF, mF_sF, mB_sF, mA_sF, mJ_sF, mP_sF, mO_sF, mN_sB, mK_sB, mL_sB, mF_sB, mB_sB, mA_sB, mJ_sB, mP_sB, mO_sB, mN_sA, mK_sA, mL_sA, mF_sA, mB_sA, mA_sA, mJ_sA, mP_sA, mO_sA, mN_sJ, mK_sJ, mL_sJ, mF_sJ, mB_sJ, mA_sJ, mJ_sJ, mP_sJ, mO_sJ, mN_sP, mK_sP, mL_sP, mF_sP, mB_sP, mA_sP, mJ_sP, mP_sP, mO_sP, mN_sO, mK_sO, mL_sO, mF_sO, mB_sO, mA_sO, mJ_sO, mP_sO, mO_sO, up2, if_true, if_false, eq_self, ite_true, ite_false, reduceIte, Nat.add_left_cancel_iff, Nat.add_eq_left, Nat.left_eq_add, Nat.reduceEqDiff]; done)) ?_ | refine e_getI 98 rfl dX9_name_95 f_X9_54 (by assumption) ?_
  refine e_iconst (nI 1) 99 rfl dX9_name_98 ic_1 ?_
  first | refine e_isubN 100 rfl dX9_name_99 rfl rfl (by omega) ?_ | refine e_isub 100 rfl dX9_name_99 ?_
  refine e_iret dX9_name_100 rfl ?_
  rw [show (aN S).length + 1 - 1 = (aN S).length by omega]
  obtain ⟨Q, hQ⟩ : ∃ Q : Nat → Prop, Q = fun q => nS a q ∨ q = d + 1 ∨ q = d := ⟨_, rfl⟩
  have Qa : Q a := by rw [hQ]; exact Or.inl ⟨by omega, by omega⟩
  have Qd1 : Q (d + 1) := by rw [hQ]; exact Or.inr (Or.inl rfl)
  have Qd : Q d := by rw [hQ]; exact Or.inr (Or.inr rfl)
  have hF : Fr Q μ (sF (sF (sF (sF (sF (sF μ1 a 0 (nI ld)) a 3 (nI 0)) a 8 (nI 0)) (d + 1) 1 (nI 0)) d 11 (nI 0)) d 7 (nI ((aN S).length + 1))) := ((((((hF1.mono (S' := Q) (fun q z => by rw [hQ]; exact Or.inl z)).sF Qa _ _).sF Qa _ _).sF Qa _ _).sF Qd1 _ _).sF Qd _ _).sF Qd _ _
  have nQ : ∀ q, d + 1 < q → q < d + 355 → ¬ Q q := fun q a1 a2 => by rw [hQ]; unfold nS; omega
  have hd9 : mF (sF (sF (sF (sF (sF (sF μ1 a 0 (nI ld)) a 3 (nI 0)) a 8 (nI 0)) (d + 1) 1 (nI 0)) d 11 (nI 0)) d 7 (nI ((aN S).length + 1))) d 9 = mF μ d 9 := by
    show up2 (up2 (up2 (up2 (up2 (up2 _ a 0 _) a 3 _) a 8 _) (d + 1) 1 _) d 11 _) d 7 _ d 9 = _
    rw [up2_k (by decide), up2_k (by decide), up2_a (by omega), up2_a da, up2_a da, up2_a da, fd1]
  have hT1 : TI μ1 d (aT S) := hT.fx hF1.fx (nr1 _ (by omega)) (nr1 _ (by omega))
  have hTz : TI (sF (sF (sF (sF μ1 a 0 (nI ld)) a 3 (nI 0)) a 8 (nI 0)) (d + 1) 1 (nI 0)) d [] := (hT1.fx (((((Fr.rf (S := fun q => q = a)).sF rfl 0 (nI ld)).sF rfl 3 (nI 0)).sF rfl 8 (nI 0)).fx) (by omega) (by omega)).zero
  have hT5 : TI (sF (sF (sF (sF (sF (sF μ1 a 0 (nI ld)) a 3 (nI 0)) a 8 (nI 0)) (d + 1) 1 (nI 0)) d 11 (nI 0)) d 7 (nI ((aN S).length + 1))) d [] := hTz.fx ((((Fr.rf (S := fun q => q = d)).sF rfl 11 (nI 0)).sF rfl 7 (nI ((aN S).length + 1))).fx) (by omega) (by omega)
  have hd11 : mF (sF (sF (sF (sF (sF (sF μ1 a 0 (nI ld)) a 3 (nI 0)) a 8 (nI 0)) (d + 1) 1 (nI 0)) d 11 (nI 0)) d 7 (nI ((aN S).length + 1))) d 11 = nI 0 := by
    show up2 (up2 _ d 11 _) d 7 _ d 11 = _
    rw [up2_k (by decide), up2_s]
  have ha0 : mF (sF (sF (sF (sF (sF (sF μ1 a 0 (nI ld)) a 3 (nI 0)) a 8 (nI 0)) (d + 1) 1 (nI 0)) d 11 (nI 0)) d 7 (nI ((aN S).length + 1))) a 0 = nI ld := by
    show up2 (up2 (up2 (up2 (up2 (up2 _ a 0 _) a 3 _) a 8 _) (d + 1) 1 _) d 11 _) d 7 _ a 0 = _
    rw [up2_a (by omega), up2_a (by omega), up2_a (by omega), up2_k (by decide), up2_k (by decide), up2_s]
  have ha1 : mF (sF (sF (sF (sF (sF (sF μ1 a 0 (nI ld)) a 3 (nI 0)) a 8 (nI 0)) (d + 1) 1 (nI 0)) d 11 (nI 0)) d 7 (nI ((aN S).length + 1))) a 1 = mF μ1 a 1 := by
    show up2 (up2 (up2 (up2 (up2 (up2 _ a 0 _) a 3 _) a 8 _) (d + 1) 1 _) d 11 _) d 7 _ a 1 = _
    rw [up2_a (by omega), up2_a (by omega), up2_a (by omega), up2_k (by decide), up2_k (by decide), up2_k (by decide)]
  have ha3 : mF (sF (sF (sF (sF (sF (sF μ1 a 0 (nI ld)) a 3 (nI 0)) a 8 (nI 0)) (d + 1) 1 (nI 0)) d 11 (nI 0)) d 7 (nI ((aN S).length + 1))) a 3 = nI 0 := by
    show up2 (up2 (up2 (up2 (up2 (up2 _ a 0 _) a 3 _) a 8 _) (d + 1) 1 _) d 11 _) d 7 _ a 3 = _
    rw [up2_a (by omega), up2_a (by omega), up2_a (by omega), up2_k (by decide), up2_s]
  have ha8 : mF (sF (sF (sF (sF (sF (sF μ1 a 0 (nI ld)) a 3 (nI 0)) a 8 (nI 0)) (d + 1) 1 (nI 0)) d 11 (nI 0)) d 7 (nI ((aN S).length + 1))) a 8 = nI 0 := by
    show up2 (up2 (up2 (up2 (up2 (up2 _ a 0 _) a 3 _) a 8 _) (d + 1) 1 _) d 11 _) d 7 _ a 8 = _
    rw [up2_a (by omega), up2_a (by omega), up2_a (by omega), up2_s]
  have hF' : Fr (fun q => q = a ∨ q = d + 1 ∨ q = d) μ1 (sF (sF (sF (sF (sF (sF μ1 a 0 (nI ld)) a 3 (nI 0)) a 8 (nI 0)) (d + 1) 1 (nI 0)) d 11 (nI 0)) d 7 (nI ((aN S).length + 1))) := ((((((Fr.rf (S := fun q => q = a ∨ q = d + 1 ∨ q = d)).sF (Or.inl rfl) _ _).sF (Or.inl rfl) _ _).sF (Or.inl rfl) _ _).sF (Or.inr (Or.inl rfl)) _ _).sF (Or.inr (Or.inr rfl)) _ _).sF (Or.inr (Or.inr rfl)) _ _
  clear h72 hTz gk2 tk2 p02 gk3 gk4 gk5 nk2 nk3
  generalize sF (sF (sF (sF (sF (sF μ1 a 0 (nI ld)) a 3 (nI 0)) a 8 (nI 0)) (d + 1) 1 (nI 0)) d 11 (nI 0)) d 7 (nI ((aN S).length + 1)) = μ2 at hF hF' hd9 h73 hT5 hd11 ha0 ha1 ha3 ha8 ⊢
  have hN5 : NmI μ2 d (aS S) (aB S) (aL S) (aN S ++ [(ld, splitB ((aT S).take m))]) := by
    refine ⟨by rw [h73, List.length_append, List.length_singleton], fun i hi => (hN.2.1 i hi).fr hF, fun i nm hi => ?_⟩
    by_cases c : i < (aN S).length
    · rw [List.getElem?_append_left c] at hi
      refine (hN.2.2 i nm hi).fx (hW.2.2.2.1.2 nm (List.mem_of_getElem? hi)).2.2.1 hF.fx (fun q hq z => ?_)
      rw [hQ, ha] at z
      unfold nS nA at hq z
      omega
    · rw [List.getElem?_append_right (by omega)] at hi
      have hz : i - (aN S).length < 1 := (List.getElem?_eq_some_iff.mp hi).1
      have ei : i = (aN S).length := by omega
      subst ei
      rw [Nat.sub_self] at hi
      have hi2 : (ld, splitB ((aT S).take m)) = nm := Option.some.inj hi
      rw [← hi2, ← ha]
      exact ⟨ha0, ⟨by rw [ha1]; exact hNI.1, fun j w hj => (hNI.2 j w hj).fr hF' (by omega) (by omega) (by omega)⟩, ⟨false, ha3, fun q => by cases q⟩, false, ha8, fun q => by cases q⟩
  have hLs5 : LsI μ2 d (aS S) (aB S) (aN S ++ [(ld, splitB ((aT S).take m))]) := by
    unfold LsI
    rw [hd9]
    rcases hLs with q | ⟨i, nm, q1, q2, q3⟩
    · exact Or.inl q
    · exact Or.inr ⟨i, nm, by rw [List.getElem?_append_left (List.getElem?_eq_some_iff.mp q1).1]; exact q1, q2, q3.fx hF.fx (fun q a1 b1 => nQ _ (by omega) (by omega))⟩
  exact k μ2 (hF.fx.mono (fun q z => by rw [hQ] at z; unfold nS at z; omega)) ⟨hG.fx hF.fx (fun g _ => by rw [hF.2.2.2.1]) (nQ _ (by omega) (by omega)), hT5, hX.fx hF.fx (nQ _ (by omega) (by omega)), hB.fx hF.fx (fun q a1 b1 => nQ _ (by omega) (by omega)), hh.fr hF, hR.fx hF.fx (fun q a1 b1 => nQ _ (by omega) (by omega)), hTb.fx hF.fx (fun q a1 b1 => nQ _ (by omega) (by omega)), hLn.fr hF, hSM.fx hF.fx (by rw [hF.2.2.2.1]) (nQ _ (by omega) (by omega)) (fun q a1 => nQ _ (by omega) (by omega)), hN5, hLs5, false, hd11, fun q => by cases q⟩
end NAME3
