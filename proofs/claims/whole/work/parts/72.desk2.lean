/-! NameDesk: sign, look, agree, father, fallen, count -/
section DESK2
variable {E : En} {μ : Mm} {K : Option Value → Mm → Prop}
theorem Ev.of0 {M : Mt} {kc ks pc : Nat} {ls : List (Option Value)} {st : List Value} (k : Ev E M 0 0 pc ls st μ K) : Ev E M kc ks pc ls st μ K := by
  intro hX p e s m args below meth c H locs cells slots mc ms lsA Z C R hL hb hl hr
  exact k hX p e s m args below meth c H locs cells slots mc ms lsA Z C R hL ⟨by omega, by omega, hb.2.2.1, hb.2.2.2⟩ hl hr
theorem fnQ_DF {d i : Nat} {μ' : Mm} (hi : i < 30) (h : Fx (fnQ d i) μ μ') : DF d μ μ' := h.mono (fun q h => by unfold fnQ rdQ nA at h; omega)
noncomputable def q_sign (S : Ast) (x wh kk : Int32) : Int32 := match nmx (aN S) x, iN wh with
  | some nm, some w => if w ≤ 2 then sgn (lnW S nm w) kk else -1
  | _, _ => -1
theorem d_sign {d : Nat} {S : Ast} {x wh kk : Int32} (hW : WF S) (hD : DI d S μ) (k : ∀ μ', DF d μ μ' → DI d S μ' → K (some (.int (q_sign S x wh kk))) μ') : Cl E M_X9_sign [.ref d, .int x, .int wh, .int kk] μ K := by
  have gk := hD.1.1.1
  unfold q_sign at k
  refine Cl.of0 0 pn_X9 (Nat.le_of_ble_eq_true rfl) ⟨rfl, rfl⟩ rfl ?_
  refine e_al0 1 rfl dX9_sign_0 ?_
  refine e_il1 2 rfl dX9_sign_1 ?_
  refine e_invV0 [_] 5 rfl dX9_sign_2 k_X9_156 mo_X9_isName rm_X9_sign_X9_isName ⟨rfl, rfl⟩ rfl rfl (by assumption) (Nat.le_of_ble_eq_true rfl) ?_
  refine c_isName gk hD.2.2.2.2.2.2.2.2.2.1.1 hW.2.2.2.1.1 ?_
  cases eN : nmx (aN S) x with
  | none =>
    rw [eN] at k
    first | refine e_if_eqB 17 8 (by decide) rfl dX9_sign_5 rfl (fun y1 => ?_) (fun y1 => ?_) | refine e_if_eqN 17 8 (by decide) rfl dX9_sign_5 rfl (by omega) (fun y1 => ?_) (fun y1 => ?_) | refine e_if_eq 17 8 (by decide) rfl dX9_sign_5 (fun y1 => ?_) (fun y1 => ?_)
    · refine e_iconst (-1) 18 rfl dX9_sign_17 ic_m1 ?_
      refine e_iret dX9_sign_18 rfl ?_
      exact k μ Fx.rf hD
    · cases y1
  | some nm =>
  rw [eN] at k
  obtain ⟨i, hx, hi⟩ := nmx_some eN
  subst hx
  first | refine e_if_eqB 17 8 (by decide) rfl dX9_sign_5 rfl (fun y1 => ?_) (fun y1 => ?_) | refine e_if_eqN 17 8 (by decide) rfl dX9_sign_5 rfl (by omega) (fun y1 => ?_) (fun y1 => ?_) | refine e_if_eq 17 8 (by decide) rfl dX9_sign_5 (fun y1 => ?_) (fun y1 => ?_)
  · cases y1
  rcases iN_cases wh with ⟨hc, qc⟩ | ⟨a, ha, hc, qc⟩
  · rw [qc] at k
    refine e_il2 9 rfl dX9_sign_8 ?_
    refine e_if_lt 17 12 (by decide) rfl dX9_sign_9 (fun y2 => ?_) (fun y2 => ?_)
    · refine e_iconst (-1) 18 rfl dX9_sign_17 ic_m1 ?_
      refine e_iret dX9_sign_18 rfl ?_
      exact k μ Fx.rf hD
    · exact absurd hc y2
  rw [qc] at k
  simp only [] at k
  subst hc
  refine e_il2 9 rfl dX9_sign_8 ?_
  first | refine e_if_ltN 17 12 (by decide) rfl dX9_sign_9 rfl (by omega) ?_ | refine e_if_lt 17 12 (by decide) rfl dX9_sign_9 (fun h => ?_) (fun h => ?_)
  refine e_il2 13 rfl dX9_sign_12 ?_
  refine e_iconst (nI 2) 14 rfl dX9_sign_13 ic_2 ?_
  first | refine e_cmp_leN 19 17 (by decide) rfl dX9_sign_14 rfl rfl (by omega) (by omega) (fun y3 => ?_) (fun y3 => ?_) | refine e_cmp_le 19 17 (by decide) rfl dX9_sign_14 (fun y3 => ?_) (fun y3 => ?_)
  rotate_left
  · rw [if_neg (by omega)] at k
    refine e_iconst (-1) 18 rfl dX9_sign_17 ic_m1 ?_
    refine e_iret dX9_sign_18 rfl ?_
    exact k μ Fx.rf hD
  rw [if_pos y3] at k
  refine e_al0 20 rfl dX9_sign_19 ?_
  refine e_il1 21 rfl dX9_sign_20 ?_
  refine e_il2 22 rfl dX9_sign_21 ?_
  refine e_invV0 [_, _] 25 rfl dX9_sign_22 k_X9_194 mo_X9_lineOf rm_X9_sign_X9_lineOf ⟨rfl, rfl⟩ rfl rfl (by assumption) (Nat.le_of_ble_eq_true rfl) ?_
  refine c_lineOf hW hD hi y3 (fun μ1 r hF1 hD1 hLn1 hLc1 => ?_)
  have lk := hLn1.1
  refine e_il3 26 rfl dX9_sign_25 ?_
  refine e_invV0 [_] 29 rfl dX9_sign_26 k_X9_204 mo_X1_signAt rm_X9_sign_X1_signAt ⟨rfl, rfl⟩ rfl rfl (by assumption) (Nat.le_of_ble_eq_true rfl) ?_
  refine c_signAt hLn1 hLc1 ?_
  refine e_iret dX9_sign_29 rfl ?_
  exact k μ1 hF1 hD1
/-- what look answers -/
noncomputable def lkV (S : Ast) (i : Nat) (nm : Nm) (w : Nat) : Int32 := if w = 0 then nI nm.1 else if w = 1 then nI nm.2.length else if w = 2 then nI ((rnk (aS S) (aB S) (aN S)).idxOf i) else if w = 3 then nI (kyP (aS S nm.1) (aB S) nm).length else if w = 4 then nI (lnW S nm 0).length else nI (lnW S nm 1).length
theorem d_look {d i w : Nat} {S : Ast} {nm : Nm} (hW : WF S) (hD : DI d S μ) (hi : (aN S)[i]? = some nm) (hw : w ≤ 5) (k : ∀ μ', DF d μ μ' → DI d S μ' → K (some (.int (lkV S i nm w))) μ') : Cl E M_X9_look [.ref d, .int (nI i), .int (nI w)] μ K := by
  have hil := (List.getElem?_eq_some_iff.mp hi).1
  have n30 := hW.2.2.2.1.1
  have hwf := hW.2.2.2.1.2 nm (List.mem_of_getElem? hi)
  obtain ⟨⟨gk, p0, p1, p2, p4, p5, p6, p8, p10, px⟩, ⟨k3, l3', k262, l262, k294, l294, kx⟩, g3⟩ := id hD.1
  have hN := hD.2.2.2.2.2.2.2.2.2.1
  have o1 := g3 i (by omega)
  have nk := (hN.2.1 i (by omega)).1.1
  have a0 := (hN.2.2 i nm hi).1
  have a1 := (hN.2.2 i nm hi).2.1.1
  have tw := nI_toInt (n := w) (by omega)
  have eN : nmx (aN S) (nI i) = some nm := by unfold nmx; rw [iN_nI (by omega)]; exact hi
  unfold lkV at k
  refine Cl.of (nn := 0) pn_X9 (Nat.le_of_ble_eq_true rfl) rfl (Ev.of0 ?_)
  refine e_al0 1 rfl dX9_look_0 ?_
  refine e_il1 2 rfl dX9_look_1 ?_
  refine e_invV0 [_] 5 rfl dX9_look_2 k_X9_156 mo_X9_isName rm_X9_look_X9_isName ⟨rfl, rfl⟩ rfl rfl (by assumption) (Nat.le_of_ble_eq_true rfl) ?_
  refine c_isName gk hN.1 n30 ?_
  rw [eN]
  first | refine e_if_neB 18 8 (by decide) rfl dX9_look_5 rfl (fun y1 => ?_) (fun y1 => ?_) | refine e_if_neN 18 8 (by decide) rfl dX9_look_5 rfl (by omega) (fun y1 => ?_) (fun y1 => ?_) | refine e_if_ne 18 8 (by decide) rfl dX9_look_5 (fun y1 => ?_) (fun y1 => ?_)
  rotate_left
  · cases y1
  refine e_il2 19 rfl dX9_look_18 ?_
  have hcase : w = 0 ∨ w = 1 ∨ w = 2 ∨ w = 3 ∨ w = 4 ∨ w = 5 := by omega
  rcases hcase with e | e | e | e | e | e
  · subst e
    refine e_tabIn 56 dX9_look_19 (by rw [tw]; omega) (by rw [tw]; omega) (by rw [tw]; rfl) (by decide) ?_
    refine e_al0 57 rfl dX9_look_56 ?_
    refine e_getR 60 rfl dX9_look_57 f_X9_50 (by assumption) (by assumption) ?_
    refine e_il1 61 rfl dX9_look_60 ?_
    refine e_aald 62 rfl dX9_look_61 (by assumption) (by decide) (by assumption) (by first | rfl | simp only [pk_mul, nI_add]) (by omega) (by omega) (by assumption) ?_
    first | refine e_getIv 65 rfl dX9_look_62 f_X9_147 (by assumption) (by first | assumption | (simp only [mN_sF, mK_sF, mL_sF, mF_sF, mB_sF, mA_sF, mJ_sF, mP_sF, mO_sF, mN_sB, mK_sB, mL_sB, mF_sB, mB_sB, mA_sB, mJ_sB, mP_sB, mO_sB, mN_sA, mK_sA, mL_sA, mF_sA, mB_sA, mA_sA, mJ_sA, mP_sA, mO_sA, mN_sJ, mK_sJ, mL_sJ, mF_sJ, mB_sJ, mA_sJ, mJ_sJ, mP_sJ, mO_sJ, mN_sP, mK_sP, mL_sP, mF_sP, mB_sP, mA_sP, mJ_sP, mP_sP, mO_sP, mN_sO, mK_sO, mL_sO, mF_sO, mB_sO, mA_sO, mJ_sO, mP_sO, mO_sO, up2, if_true, if_false, eq_self, ite_true, ite_false, reduceIte, Nat.add_left_cancel_iff, Nat.add_eq_left, Nat.left_eq_add, Nat.reduceEqDiff]; assumption) | (simp only [mN_sF, mK_sF, mL_sF, mF_sF, mB_sF, mA_sF, mJ_sF, mP_sF, mO_sF, mN_sB, mK_sB, mL_sB, mF_sB, mB_sB, mA_sB, mJ_sB, mP_sB, mO_sB, mN_sA, mK_sA, mL_sA, mF_sA, mB_sA, mA_sA, mJ_sA, mP_sA, mO_sA, mN_sJ, mK_sJ, mL_sJ, mF_sJ, mB_sJ, mA_sJ, mJ_sJ, mP_sJ, mO_sJ, mN_sP, mK_sP, mL_sP, mF_sP, mB_sP, mA_sP, mJ_sP, mP_sP, mO_sP, mN_sO, mK_sO, mL_sO, mF_sO, mB_sO, mA_sO, mJ_sO, mP_sO, mO_sO, up2, if_true, if_false, eq_self, ite_true, ite_false, reduceIte, Nat.add_left_cancel_iff, Nat.add_eq_left, Nat.left_eq_add, Nat.reduceEqDiff]; done)) ?_ | refine e_getI 65 rfl dX9_look_62 f_X9_147 (by assumption) ?_
    refine e_iret dX9_look_65 rfl ?_
    exact k μ Fx.rf hD
  · subst e
    refine e_tabIn 66 dX9_look_19 (by rw [tw]; omega) (by rw [tw]; omega) (by rw [tw]; rfl) (by decide) ?_
    refine e_al0 67 rfl dX9_look_66 ?_
    refine e_getR 70 rfl dX9_look_67 f_X9_50 (by assumption) (by assumption) ?_
    refine e_il1 71 rfl dX9_look_70 ?_
    refine e_aald 72 rfl dX9_look_71 (by assumption) (by decide) (by assumption) (by first | rfl | simp only [pk_mul, nI_add]) (by omega) (by omega) (by assumption) ?_
    first | refine e_getIv 75 rfl dX9_look_72 f_X9_180 (by assumption) (by first | assumption | (simp only [mN_sF, mK_sF, mL_sF, mF_sF, mB_sF, mA_sF, mJ_sF, mP_sF, mO_sF, mN_sB, mK_sB, mL_sB, mF_sB, mB_sB, mA_sB, mJ_sB, mP_sB, mO_sB, mN_sA, mK_sA, mL_sA, mF_sA, mB_sA, mA_sA, mJ_sA, mP_sA, mO_sA, mN_sJ, mK_sJ, mL_sJ, mF_sJ, mB_sJ, mA_sJ, mJ_sJ, mP_sJ, mO_sJ, mN_sP, mK_sP, mL_sP, mF_sP, mB_sP, mA_sP, mJ_sP, mP_sP, mO_sP, mN_sO, mK_sO, mL_sO, mF_sO, mB_sO, mA_sO, mJ_sO, mP_sO, mO_sO, up2, if_true, if_false, eq_self, ite_true, ite_false, reduceIte, Nat.add_left_cancel_iff, Nat.add_eq_left, Nat.left_eq_add, Nat.reduceEqDiff]; assumption) | (simp only [mN_sF, mK_sF, mL_sF, mF_sF, mB_sF, mA_sF, mJ_sF, mP_sF, mO_sF, mN_sB, mK_sB, mL_sB, mF_sB, mB_sB, mA_sB, mJ_sB, mP_sB, mO_sB, mN_sA, mK_sA, mL_sA, mF_sA, mB_sA, mA_sA, mJ_sA, mP_sA, mO_sA, mN_sJ, mK_sJ, mL_sJ, mF_sJ, mB_sJ, mA_sJ, mJ_sJ, mP_sJ, mO_sJ, mN_sP, mK_sP, mL_sP, mF_sP, mB_sP, mA_sP, mJ_sP, mP_sP, mO_sP, mN_sO, mK_sO, mL_sO, mF_sO, mB_sO, mA_sO, mJ_sO, mP_sO, mO_sO, up2, if_true, if_false, eq_self, ite_true, ite_false, reduceIte, Nat.add_left_cancel_iff, Nat.add_eq_left, Nat.left_eq_add, Nat.reduceEqDiff]; done)) ?_ | refine e_getI 75 rfl dX9_look_72 f_X9_180 (by assumption) ?_
    refine e_iret dX9_look_75 rfl ?_
    exact k μ Fx.rf hD
  · subst e
    refine e_tabIn 76 dX9_look_19 (by rw [tw]; omega) (by rw [tw]; omega) (by rw [tw]; rfl) (by decide) ?_
    refine e_al0 77 rfl dX9_look_76 ?_
    refine e_invV0 [] 80 rfl dX9_look_77 k_X9_181 mo_X9_rank rm_X9_look_X9_rank ⟨rfl, rfl⟩ rfl rfl (by assumption) (Nat.le_of_ble_eq_true rfl) ?_
    refine c_rank hW hD (fun μ1 hF1 hD1 hH1 => ?_)
    have gk1 := hD1.1.1.1
    refine e_al0 81 rfl dX9_look_80 ?_
    refine e_il1 82 rfl dX9_look_81 ?_
    refine e_invV0 [_] 85 rfl dX9_look_82 k_X9_184 mo_X9_placeInRanking rm_X9_look_X9_placeInRanking ⟨rfl, rfl⟩ rfl rfl (by assumption) (Nat.le_of_ble_eq_true rfl) ?_
    refine c_placeInRanking hW hD1 hil hH1 ?_
    refine e_iret dX9_look_85 rfl ?_
    exact k μ1 hF1 hD1
  · subst e
    refine e_tabIn 86 dX9_look_19 (by rw [tw]; omega) (by rw [tw]; omega) (by rw [tw]; rfl) (by decide) ?_
    refine e_al0 87 rfl dX9_look_86 ?_
    refine e_il1 88 rfl dX9_look_87 ?_
    refine e_invV0 [_] 91 rfl dX9_look_88 k_X9_187 mo_X9_freshName rm_X9_look_X9_freshName ⟨rfl, rfl⟩ rfl rfl (by assumption) (Nat.le_of_ble_eq_true rfl) ?_
    refine c_freshName hW hD hi (fun μ1 hF1 hf1 hP1 hD1 hfr1 => ?_)
    obtain ⟨ng1, r1, ky1⟩ := hD1.ky hW hi hfr1
    have nk1 := ng1.1.1
    have a7 := ky1.1
    first | refine e_getIv 94 rfl dX9_look_91 f_X9_191 (by assumption) (by first | assumption | (simp only [mN_sF, mK_sF, mL_sF, mF_sF, mB_sF, mA_sF, mJ_sF, mP_sF, mO_sF, mN_sB, mK_sB, mL_sB, mF_sB, mB_sB, mA_sB, mJ_sB, mP_sB, mO_sB, mN_sA, mK_sA, mL_sA, mF_sA, mB_sA, mA_sA, mJ_sA, mP_sA, mO_sA, mN_sJ, mK_sJ, mL_sJ, mF_sJ, mB_sJ, mA_sJ, mJ_sJ, mP_sJ, mO_sJ, mN_sP, mK_sP, mL_sP, mF_sP, mB_sP, mA_sP, mJ_sP, mP_sP, mO_sP, mN_sO, mK_sO, mL_sO, mF_sO, mB_sO, mA_sO, mJ_sO, mP_sO, mO_sO, up2, if_true, if_false, eq_self, ite_true, ite_false, reduceIte, Nat.add_left_cancel_iff, Nat.add_eq_left, Nat.left_eq_add, Nat.reduceEqDiff]; assumption) | (simp only [mN_sF, mK_sF, mL_sF, mF_sF, mB_sF, mA_sF, mJ_sF, mP_sF, mO_sF, mN_sB, mK_sB, mL_sB, mF_sB, mB_sB, mA_sB, mJ_sB, mP_sB, mO_sB, mN_sA, mK_sA, mL_sA, mF_sA, mB_sA, mA_sA, mJ_sA, mP_sA, mO_sA, mN_sJ, mK_sJ, mL_sJ, mF_sJ, mB_sJ, mA_sJ, mJ_sJ, mP_sJ, mO_sJ, mN_sP, mK_sP, mL_sP, mF_sP, mB_sP, mA_sP, mJ_sP, mP_sP, mO_sP, mN_sO, mK_sO, mL_sO, mF_sO, mB_sO, mA_sO, mJ_sO, mP_sO, mO_sO, up2, if_true, if_false, eq_self, ite_true, ite_false, reduceIte, Nat.add_left_cancel_iff, Nat.add_eq_left, Nat.left_eq_add, Nat.reduceEqDiff]; done)) ?_ | refine e_getI 94 rfl dX9_look_91 f_X9_191 (by assumption) ?_
    refine e_iret dX9_look_94 rfl ?_
    exact k μ1 (fnQ_DF (by omega) hF1) hD1
  · subst e
    refine e_tabIn 95 dX9_look_19 (by rw [tw]; omega) (by rw [tw]; omega) (by rw [tw]; rfl) (by decide) ?_
    refine e_al0 96 rfl dX9_look_95 ?_
    refine e_il1 97 rfl dX9_look_96 ?_
    refine e_iconst (nI 0) 98 rfl dX9_look_97 ic_0 ?_
    refine e_invV0 [_, _] 101 rfl dX9_look_98 k_X9_194 mo_X9_lineOf rm_X9_look_X9_lineOf ⟨rfl, rfl⟩ rfl rfl (by assumption) (Nat.le_of_ble_eq_true rfl) ?_
    refine c_lineOf hW hD hi (by omega) (fun μ1 r hF1 hD1 hLn1 hLc1 => ?_)
    have lk := hLn1.1
    have l1 := hLc1.1
    first | refine e_getIv 104 rfl dX9_look_101 f_X9_198 (by assumption) (by first | assumption | (simp only [mN_sF, mK_sF, mL_sF, mF_sF, mB_sF, mA_sF, mJ_sF, mP_sF, mO_sF, mN_sB, mK_sB, mL_sB, mF_sB, mB_sB, mA_sB, mJ_sB, mP_sB, mO_sB, mN_sA, mK_sA, mL_sA, mF_sA, mB_sA, mA_sA, mJ_sA, mP_sA, mO_sA, mN_sJ, mK_sJ, mL_sJ, mF_sJ, mB_sJ, mA_sJ, mJ_sJ, mP_sJ, mO_sJ, mN_sP, mK_sP, mL_sP, mF_sP, mB_sP, mA_sP, mJ_sP, mP_sP, mO_sP, mN_sO, mK_sO, mL_sO, mF_sO, mB_sO, mA_sO, mJ_sO, mP_sO, mO_sO, up2, if_true, if_false, eq_self, ite_true, ite_false, reduceIte, Nat.add_left_cancel_iff, Nat.add_eq_left, Nat.left_eq_add, Nat.reduceEqDiff]; assumption) | (simp only [mN_sF, mK_sF, mL_sF, mF_sF, mB_sF, mA_sF, mJ_sF, mP_sF, mO_sF, mN_sB, mK_sB, mL_sB, mF_sB, mB_sB, mA_sB, mJ_sB, mP_sB, mO_sB, mN_sA, mK_sA, mL_sA, mF_sA, mB_sA, mA_sA, mJ_sA, mP_sA, mO_sA, mN_sJ, mK_sJ, mL_sJ, mF_sJ, mB_sJ, mA_sJ, mJ_sJ, mP_sJ, mO_sJ, mN_sP, mK_sP, mL_sP, mF_sP, mB_sP, mA_sP, mJ_sP, mP_sP, mO_sP, mN_sO, mK_sO, mL_sO, mF_sO, mB_sO, mA_sO, mJ_sO, mP_sO, mO_sO, up2, if_true, if_false, eq_self, ite_true, ite_false, reduceIte, Nat.add_left_cancel_iff, Nat.add_eq_left, Nat.left_eq_add, Nat.reduceEqDiff]; done)) ?_ | refine e_getI 104 rfl dX9_look_101 f_X9_198 (by assumption) ?_
    refine e_iret dX9_look_104 rfl ?_
    exact k μ1 hF1 hD1
  · subst e
    refine e_tabIn 105 dX9_look_19 (by rw [tw]; omega) (by rw [tw]; omega) (by rw [tw]; rfl) (by decide) ?_
    refine e_al0 106 rfl dX9_look_105 ?_
    refine e_il1 107 rfl dX9_look_106 ?_
    refine e_iconst (nI 1) 108 rfl dX9_look_107 ic_1 ?_
    refine e_invV0 [_, _] 111 rfl dX9_look_108 k_X9_194 mo_X9_lineOf rm_X9_look_X9_lineOf ⟨rfl, rfl⟩ rfl rfl (by assumption) (Nat.le_of_ble_eq_true rfl) ?_
    refine c_lineOf hW hD hi (by omega) (fun μ1 r hF1 hD1 hLn1 hLc1 => ?_)
    have lk := hLn1.1
    have l1 := hLc1.1
    first | refine e_getIv 114 rfl dX9_look_111 f_X9_198 (by assumption) (by first | assumption | (simp only [mN_sF, mK_sF, mL_sF, mF_sF, mB_sF, mA_sF, mJ_sF, mP_sF, mO_sF, mN_sB, mK_sB, mL_sB, mF_sB, mB_sB, mA_sB, mJ_sB, mP_sB, mO_sB, mN_sA, mK_sA, mL_sA, mF_sA, mB_sA, mA_sA, mJ_sA, mP_sA, mO_sA, mN_sJ, mK_sJ, mL_sJ, mF_sJ, mB_sJ, mA_sJ, mJ_sJ, mP_sJ, mO_sJ, mN_sP, mK_sP, mL_sP, mF_sP, mB_sP, mA_sP, mJ_sP, mP_sP, mO_sP, mN_sO, mK_sO, mL_sO, mF_sO, mB_sO, mA_sO, mJ_sO, mP_sO, mO_sO, up2, if_true, if_false, eq_self, ite_true, ite_false, reduceIte, Nat.add_left_cancel_iff, Nat.add_eq_left, Nat.left_eq_add, Nat.reduceEqDiff]; assumption) | (simp only [mN_sF, mK_sF, mL_sF, mF_sF, mB_sF, mA_sF, mJ_sF, mP_sF, mO_sF, mN_sB, mK_sB, mL_sB, mF_sB, mB_sB, mA_sB, mJ_sB, mP_sB, mO_sB, mN_sA, mK_sA, mL_sA, mF_sA, mB_sA, mA_sA, mJ_sA, mP_sA, mO_sA, mN_sJ, mK_sJ, mL_sJ, mF_sJ, mB_sJ, mA_sJ, mJ_sJ, mP_sJ, mO_sJ, mN_sP, mK_sP, mL_sP, mF_sP, mB_sP, mA_sP, mJ_sP, mP_sP, mO_sP, mN_sO, mK_sO, mL_sO, mF_sO, mB_sO, mA_sO, mJ_sO, mP_sO, mO_sO, up2, if_true, if_false, eq_self, ite_true, ite_false, reduceIte, Nat.add_left_cancel_iff, Nat.add_eq_left, Nat.left_eq_add, Nat.reduceEqDiff]; done)) ?_ | refine e_getI 114 rfl dX9_look_111 f_X9_198 (by assumption) ?_
    refine e_iret dX9_look_114 rfl ?_
    exact k μ1 hF1 hD1
/-- the reading of a name in a state -/
noncomputable def rB (S : Ast) (nm : Nm) : Bool := rdB (aS S nm.1) (aB S) nm
noncomputable def rK (S : Ast) (nm : Nm) : List Nat := rdK (aS S nm.1) (aB S) nm
noncomputable def agV (S : Ast) (a b : Nm) : Int32 := if rB S a && rB S b then bI (decide (a.1 = b.1) && (decide (wsA (fsN a) (pls (rB S a) 16 (rK S a) 0) = wsA (fsN b) (pls (rB S b) 16 (rK S b) 0)) && fitA (wsA (fsN a) (pls (rB S a) 66 (rK S a) 0)) (wsA (fsN b) (pls (rB S b) 66 (rK S b) 0)))) else -1
noncomputable def q_agree (S : Ast) (x y : Int32) : Int32 := match nmx (aN S) x, nmx (aN S) y with
  | some a, some b => agV S a b
  | _, _ => -1
/-- two names made fresh -/
theorem two_fresh {d i j : Nat} {S : Ast} {a : Nm} {μ' : Mm} (hi30 : i < 30) (hj30 : j < 30) (hF : Fx (fnQ d j) μ μ') (h : mF μ (nA d i) 3 = nI 1) (hj : mF μ' (nA d j) 3 = nI 1) : mF μ' (nA d i) 3 = nI 1 := by
  by_cases e : i = j
  · rw [e]; exact hj
  · rw [(hF.2.2.2 (nA d i) (by unfold fnQ rdQ nA; omega)).1]; exact h
theorem d_agree {d : Nat} {S : Ast} {x y : Int32} (hW : WF S) (hD : DI d S μ) (k : ∀ μ', DF d μ μ' → DI d S μ' → K (some (.int (q_agree S x y))) μ') : Cl E M_X9_agree [.ref d, .int x, .int y] μ K := by
  have gk := hD.1.1.1
  have n30 := hW.2.2.2.1.1
  unfold q_agree at k
  refine Cl.of0 2 pn_X9 (Nat.le_of_ble_eq_true rfl) ⟨rfl, rfl⟩ rfl ?_
  refine e_al0 1 rfl dX9_agree_0 ?_
  refine e_il1 2 rfl dX9_agree_1 ?_
  refine e_invV0 [_] 5 rfl dX9_agree_2 k_X9_156 mo_X9_isName rm_X9_agree_X9_isName ⟨rfl, rfl⟩ rfl rfl (by assumption) (Nat.le_of_ble_eq_true rfl) ?_
  refine c_isName gk hD.2.2.2.2.2.2.2.2.2.1.1 n30 ?_
  cases eN : nmx (aN S) x with
  | none =>
    rw [eN] at k
    first | refine e_if_eqB 16 8 (by decide) rfl dX9_agree_5 rfl (fun y1 => ?_) (fun y1 => ?_) | refine e_if_eqN 16 8 (by decide) rfl dX9_agree_5 rfl (by omega) (fun y1 => ?_) (fun y1 => ?_) | refine e_if_eq 16 8 (by decide) rfl dX9_agree_5 (fun y1 => ?_) (fun y1 => ?_)
    · refine e_iconst (-1) 17 rfl dX9_agree_16 ic_m1 ?_
      refine e_iret dX9_agree_17 rfl ?_
      exact k μ Fx.rf hD
    · cases y1
  | some a =>
  rw [eN] at k
  first | refine e_if_eqB 16 8 (by decide) rfl dX9_agree_5 rfl (fun y1 => ?_) (fun y1 => ?_) | refine e_if_eqN 16 8 (by decide) rfl dX9_agree_5 rfl (by omega) (fun y1 => ?_) (fun y1 => ?_) | refine e_if_eq 16 8 (by decide) rfl dX9_agree_5 (fun y1 => ?_) (fun y1 => ?_)
  · cases y1
  refine e_al0 9 rfl dX9_agree_8 ?_
  refine e_il2 10 rfl dX9_agree_9 ?_
  refine e_invV0 [_] 13 rfl dX9_agree_10 k_X9_156 mo_X9_isName rm_X9_agree_X9_isName ⟨rfl, rfl⟩ rfl rfl (by assumption) (Nat.le_of_ble_eq_true rfl) ?_
  refine c_isName gk hD.2.2.2.2.2.2.2.2.2.1.1 n30 ?_
  cases eM : nmx (aN S) y with
  | none =>
    rw [eM] at k
    first | refine e_if_neB 18 16 (by decide) rfl dX9_agree_13 rfl (fun y2 => ?_) (fun y2 => ?_) | refine e_if_neN 18 16 (by decide) rfl dX9_agree_13 rfl (by omega) (fun y2 => ?_) (fun y2 => ?_) | refine e_if_ne 18 16 (by decide) rfl dX9_agree_13 (fun y2 => ?_) (fun y2 => ?_)
    · cases y2
    · refine e_iconst (-1) 17 rfl dX9_agree_16 ic_m1 ?_
      refine e_iret dX9_agree_17 rfl ?_
      exact k μ Fx.rf hD
  | some b =>
  rw [eM] at k
  simp only [] at k
  obtain ⟨i, hx, hi⟩ := nmx_some eN
  obtain ⟨j, hy, hj⟩ := nmx_some eM
  have hil := (List.getElem?_eq_some_iff.mp hi).1
  have hjl := (List.getElem?_eq_some_iff.mp hj).1
  have hwa := hW.2.2.2.1.2 a (List.mem_of_getElem? hi)
  have hwb := hW.2.2.2.1.2 b (List.mem_of_getElem? hj)
  subst hx
  subst hy
  first | refine e_if_neB 18 16 (by decide) rfl dX9_agree_13 rfl (fun y2 => ?_) (fun y2 => ?_) | refine e_if_neN 18 16 (by decide) rfl dX9_agree_13 rfl (by omega) (fun y2 => ?_) (fun y2 => ?_) | refine e_if_ne 18 16 (by decide) rfl dX9_agree_13 (fun y2 => ?_) (fun y2 => ?_)
  rotate_left
  · cases y2
  refine e_al0 19 rfl dX9_agree_18 ?_
  refine e_il1 20 rfl dX9_agree_19 ?_
  refine e_invV0 [_] 23 rfl dX9_agree_20 k_X9_187 mo_X9_freshName rm_X9_agree_X9_freshName ⟨rfl, rfl⟩ rfl rfl (by assumption) (Nat.le_of_ble_eq_true rfl) ?_
  refine c_freshName hW hD hi (fun μ1 hF1 hf1 hP1 hD1 hfr1 => ?_)
  have gk1 := hD1.1.1.1
  refine e_as3 24 rfl dX9_agree_23 (by decide) rfl ?_
  refine e_al0 25 rfl dX9_agree_24 ?_
  refine e_il2 26 rfl dX9_agree_25 ?_
  refine e_invV0 [_] 29 rfl dX9_agree_26 k_X9_187 mo_X9_freshName rm_X9_agree_X9_freshName ⟨rfl, rfl⟩ rfl rfl (by assumption) (Nat.le_of_ble_eq_true rfl) ?_
  refine c_freshName hW hD1 hj (fun μ2 hF2 hf2 hP2 hD2 hfr2 => ?_)
  have hX2 : DF d μ μ2 := (fnQ_DF (by omega) hF1).trans (fnQ_DF (by omega) hF2)
  have hfa := two_fresh (S := S) (a := a) (by omega) (by omega) hF2 hfr1 hfr2
  have kf := k μ2 hX2 hD2
  have hN2 := hD2.2.2.2.2.2.2.2.2.2.1
  obtain ⟨ng1, r1, ky1⟩ := hD2.ky hW hi hfa
  obtain ⟨ng2, r2, ky2⟩ := hD2.ky hW hj hfr2
  have nk1 := (hD2.fresh hi hfa).1
  have nk2 := (hD2.fresh hj hfr2).1
  have nf1 := (hN2.2.2 i a hi).2.1.nf hwa
  have nf2 := (hN2.2.2 j b hj).2.1.nf hwb
  have l1 := (hN2.2.2 i a hi).1
  have l2 := (hN2.2.2 j b hj).1
  have kk1 := ng1.1.1
  have kk2 := ng2.1.1
  have la := hwa.1
  have lb := hwb.1
  unfold agV at kf
  have e1 : rdB (aS S a.1) (aB S) a = rB S a := rfl
  have e2 : rdB (aS S b.1) (aB S) b = rB S b := rfl
  have e3 : rdK (aS S a.1) (aB S) a = rK S a := rfl
  have e4 : rdK (aS S b.1) (aB S) b = rK S b := rfl
  have e5 : (fsN a).length = (rK S a).length := by rw [fsN_len]; unfold rK; rw [rdK_len]
  have e6 : (fsN b).length = (rK S b).length := by rw [fsN_len]; unfold rK; rw [rdK_len]
  rw [e1, e3] at nk1
  rw [e2, e4] at nk2
  rw [e1] at r1
  rw [e2] at r2
  refine e_as4 31 rfl dX9_agree_29 (by decide) rfl ?_
  refine e_al3 32 rfl dX9_agree_31 ?_
  first | refine e_getIv 35 rfl dX9_agree_32 f_X9_207 (by assumption) (by first | assumption | (simp only [mN_sF, mK_sF, mL_sF, mF_sF, mB_sF, mA_sF, mJ_sF, mP_sF, mO_sF, mN_sB, mK_sB, mL_sB, mF_sB, mB_sB, mA_sB, mJ_sB, mP_sB, mO_sB, mN_sA, mK_sA, mL_sA, mF_sA, mB_sA, mA_sA, mJ_sA, mP_sA, mO_sA, mN_sJ, mK_sJ, mL_sJ, mF_sJ, mB_sJ, mA_sJ, mJ_sJ, mP_sJ, mO_sJ, mN_sP, mK_sP, mL_sP, mF_sP, mB_sP, mA_sP, mJ_sP, mP_sP, mO_sP, mN_sO, mK_sO, mL_sO, mF_sO, mB_sO, mA_sO, mJ_sO, mP_sO, mO_sO, up2, if_true, if_false, eq_self, ite_true, ite_false, reduceIte, Nat.add_left_cancel_iff, Nat.add_eq_left, Nat.left_eq_add, Nat.reduceEqDiff]; assumption) | (simp only [mN_sF, mK_sF, mL_sF, mF_sF, mB_sF, mA_sF, mJ_sF, mP_sF, mO_sF, mN_sB, mK_sB, mL_sB, mF_sB, mB_sB, mA_sB, mJ_sB, mP_sB, mO_sB, mN_sA, mK_sA, mL_sA, mF_sA, mB_sA, mA_sA, mJ_sA, mP_sA, mO_sA, mN_sJ, mK_sJ, mL_sJ, mF_sJ, mB_sJ, mA_sJ, mJ_sJ, mP_sJ, mO_sJ, mN_sP, mK_sP, mL_sP, mF_sP, mB_sP, mA_sP, mJ_sP, mP_sP, mO_sP, mN_sO, mK_sO, mL_sO, mF_sO, mB_sO, mA_sO, mJ_sO, mP_sO, mO_sO, up2, if_true, if_false, eq_self, ite_true, ite_false, reduceIte, Nat.add_left_cancel_iff, Nat.add_eq_left, Nat.left_eq_add, Nat.reduceEqDiff]; done)) ?_ | refine e_getI 35 rfl dX9_agree_32 f_X9_207 (by assumption) ?_
  first | refine e_if_eqB 46 38 (by decide) rfl dX9_agree_35 rfl (fun y3 => ?_) (fun y3 => ?_) | refine e_if_eqN 46 38 (by decide) rfl dX9_agree_35 rfl (by omega) (fun y3 => ?_) (fun y3 => ?_) | refine e_if_eq 46 38 (by decide) rfl dX9_agree_35 (fun y3 => ?_) (fun y3 => ?_)
  · rw [if_neg (by rw [y3]; simp)] at kf
    refine e_iconst (-1) 47 rfl dX9_agree_46 ic_m1 ?_
    refine e_iret dX9_agree_47 rfl ?_
    exact kf
  refine e_al4 40 rfl dX9_agree_38 ?_
  first | refine e_getIv 43 rfl dX9_agree_40 f_X9_207 (by assumption) (by first | assumption | (simp only [mN_sF, mK_sF, mL_sF, mF_sF, mB_sF, mA_sF, mJ_sF, mP_sF, mO_sF, mN_sB, mK_sB, mL_sB, mF_sB, mB_sB, mA_sB, mJ_sB, mP_sB, mO_sB, mN_sA, mK_sA, mL_sA, mF_sA, mB_sA, mA_sA, mJ_sA, mP_sA, mO_sA, mN_sJ, mK_sJ, mL_sJ, mF_sJ, mB_sJ, mA_sJ, mJ_sJ, mP_sJ, mO_sJ, mN_sP, mK_sP, mL_sP, mF_sP, mB_sP, mA_sP, mJ_sP, mP_sP, mO_sP, mN_sO, mK_sO, mL_sO, mF_sO, mB_sO, mA_sO, mJ_sO, mP_sO, mO_sO, up2, if_true, if_false, eq_self, ite_true, ite_false, reduceIte, Nat.add_left_cancel_iff, Nat.add_eq_left, Nat.left_eq_add, Nat.reduceEqDiff]; assumption) | (simp only [mN_sF, mK_sF, mL_sF, mF_sF, mB_sF, mA_sF, mJ_sF, mP_sF, mO_sF, mN_sB, mK_sB, mL_sB, mF_sB, mB_sB, mA_sB, mJ_sB, mP_sB, mO_sB, mN_sA, mK_sA, mL_sA, mF_sA, mB_sA, mA_sA, mJ_sA, mP_sA, mO_sA, mN_sJ, mK_sJ, mL_sJ, mF_sJ, mB_sJ, mA_sJ, mJ_sJ, mP_sJ, mO_sJ, mN_sP, mK_sP, mL_sP, mF_sP, mB_sP, mA_sP, mJ_sP, mP_sP, mO_sP, mN_sO, mK_sO, mL_sO, mF_sO, mB_sO, mA_sO, mJ_sO, mP_sO, mO_sO, up2, if_true, if_false, eq_self, ite_true, ite_false, reduceIte, Nat.add_left_cancel_iff, Nat.add_eq_left, Nat.left_eq_add, Nat.reduceEqDiff]; done)) ?_ | refine e_getI 43 rfl dX9_agree_40 f_X9_207 (by assumption) ?_
  first | refine e_if_neB 48 46 (by decide) rfl dX9_agree_43 rfl (fun y4 => ?_) (fun y4 => ?_) | refine e_if_neN 48 46 (by decide) rfl dX9_agree_43 rfl (by omega) (fun y4 => ?_) (fun y4 => ?_) | refine e_if_ne 48 46 (by decide) rfl dX9_agree_43 (fun y4 => ?_) (fun y4 => ?_)
  rotate_left
  · rw [if_neg (by rw [y4]; simp)] at kf
    refine e_iconst (-1) 47 rfl dX9_agree_46 ic_m1 ?_
    refine e_iret dX9_agree_47 rfl ?_
    exact kf
  rw [if_pos (by rw [y3, y4]; rfl)] at kf
  refine e_al3 49 rfl dX9_agree_48 ?_
  first | refine e_getIv 52 rfl dX9_agree_49 f_X9_147 (by assumption) (by first | assumption | (simp only [mN_sF, mK_sF, mL_sF, mF_sF, mB_sF, mA_sF, mJ_sF, mP_sF, mO_sF, mN_sB, mK_sB, mL_sB, mF_sB, mB_sB, mA_sB, mJ_sB, mP_sB, mO_sB, mN_sA, mK_sA, mL_sA, mF_sA, mB_sA, mA_sA, mJ_sA, mP_sA, mO_sA, mN_sJ, mK_sJ, mL_sJ, mF_sJ, mB_sJ, mA_sJ, mJ_sJ, mP_sJ, mO_sJ, mN_sP, mK_sP, mL_sP, mF_sP, mB_sP, mA_sP, mJ_sP, mP_sP, mO_sP, mN_sO, mK_sO, mL_sO, mF_sO, mB_sO, mA_sO, mJ_sO, mP_sO, mO_sO, up2, if_true, if_false, eq_self, ite_true, ite_false, reduceIte, Nat.add_left_cancel_iff, Nat.add_eq_left, Nat.left_eq_add, Nat.reduceEqDiff]; assumption) | (simp only [mN_sF, mK_sF, mL_sF, mF_sF, mB_sF, mA_sF, mJ_sF, mP_sF, mO_sF, mN_sB, mK_sB, mL_sB, mF_sB, mB_sB, mA_sB, mJ_sB, mP_sB, mO_sB, mN_sA, mK_sA, mL_sA, mF_sA, mB_sA, mA_sA, mJ_sA, mP_sA, mO_sA, mN_sJ, mK_sJ, mL_sJ, mF_sJ, mB_sJ, mA_sJ, mJ_sJ, mP_sJ, mO_sJ, mN_sP, mK_sP, mL_sP, mF_sP, mB_sP, mA_sP, mJ_sP, mP_sP, mO_sP, mN_sO, mK_sO, mL_sO, mF_sO, mB_sO, mA_sO, mJ_sO, mP_sO, mO_sO, up2, if_true, if_false, eq_self, ite_true, ite_false, reduceIte, Nat.add_left_cancel_iff, Nat.add_eq_left, Nat.left_eq_add, Nat.reduceEqDiff]; done)) ?_ | refine e_getI 52 rfl dX9_agree_49 f_X9_147 (by assumption) ?_
  refine e_al4 54 rfl dX9_agree_52 ?_
  first | refine e_getIv 57 rfl dX9_agree_54 f_X9_147 (by assumption) (by first | assumption | (simp only [mN_sF, mK_sF, mL_sF, mF_sF, mB_sF, mA_sF, mJ_sF, mP_sF, mO_sF, mN_sB, mK_sB, mL_sB, mF_sB, mB_sB, mA_sB, mJ_sB, mP_sB, mO_sB, mN_sA, mK_sA, mL_sA, mF_sA, mB_sA, mA_sA, mJ_sA, mP_sA, mO_sA, mN_sJ, mK_sJ, mL_sJ, mF_sJ, mB_sJ, mA_sJ, mJ_sJ, mP_sJ, mO_sJ, mN_sP, mK_sP, mL_sP, mF_sP, mB_sP, mA_sP, mJ_sP, mP_sP, mO_sP, mN_sO, mK_sO, mL_sO, mF_sO, mB_sO, mA_sO, mJ_sO, mP_sO, mO_sO, up2, if_true, if_false, eq_self, ite_true, ite_false, reduceIte, Nat.add_left_cancel_iff, Nat.add_eq_left, Nat.left_eq_add, Nat.reduceEqDiff]; assumption) | (simp only [mN_sF, mK_sF, mL_sF, mF_sF, mB_sF, mA_sF, mJ_sF, mP_sF, mO_sF, mN_sB, mK_sB, mL_sB, mF_sB, mB_sB, mA_sB, mJ_sB, mP_sB, mO_sB, mN_sA, mK_sA, mL_sA, mF_sA, mB_sA, mA_sA, mJ_sA, mP_sA, mO_sA, mN_sJ, mK_sJ, mL_sJ, mF_sJ, mB_sJ, mA_sJ, mJ_sJ, mP_sJ, mO_sJ, mN_sP, mK_sP, mL_sP, mF_sP, mB_sP, mA_sP, mJ_sP, mP_sP, mO_sP, mN_sO, mK_sO, mL_sO, mF_sO, mB_sO, mA_sO, mJ_sO, mP_sO, mO_sO, up2, if_true, if_false, eq_self, ite_true, ite_false, reduceIte, Nat.add_left_cancel_iff, Nat.add_eq_left, Nat.left_eq_add, Nat.reduceEqDiff]; done)) ?_ | refine e_getI 57 rfl dX9_agree_54 f_X9_147 (by assumption) ?_
  first | refine e_cmp_neN 82 60 (by decide) rfl dX9_agree_57 rfl rfl (by omega) (by omega) (fun y5 => ?_) (fun y5 => ?_) | refine e_cmp_ne 82 60 (by decide) rfl dX9_agree_57 (fun y5 => ?_) (fun y5 => ?_)
  · refine e_iconst (nI 0) 83 rfl dX9_agree_82 ic_0 ?_
    refine e_iret dX9_agree_83 rfl ?_
    rw [show decide (a.1 = b.1) = false from decide_eq_false y5] at kf
    exact kf
  rw [show decide (a.1 = b.1) = true from decide_eq_true y5, Bool.true_and] at kf
  refine e_al3 61 rfl dX9_agree_60 ?_
  refine e_al4 63 rfl dX9_agree_61 ?_
  refine e_invS0 [_, _] 66 rfl dX9_agree_63 k_X9_210 mo_X9_sameFamily rm_X9_agree_X9_sameFamily ⟨rfl, rfl⟩ rfl rfl (Nat.le_of_ble_eq_true rfl) ?_
  refine c_sameFamily ng1 ng2 nk1 nk2 nf1 nf2 e5 e6 ?_
  first | refine e_if_eqB 82 69 (by decide) rfl dX9_agree_66 rfl (fun y6 => ?_) (fun y6 => ?_) | refine e_if_eqN 82 69 (by decide) rfl dX9_agree_66 rfl (by omega) (fun y6 => ?_) (fun y6 => ?_) | refine e_if_eq 82 69 (by decide) rfl dX9_agree_66 (fun y6 => ?_) (fun y6 => ?_)
  · refine e_iconst (nI 0) 83 rfl dX9_agree_82 ic_0 ?_
    refine e_iret dX9_agree_83 rfl ?_
    rw [y6, Bool.false_and] at kf
    exact kf
  rw [y6, Bool.true_and] at kf
  refine e_al3 70 rfl dX9_agree_69 ?_
  refine e_al4 72 rfl dX9_agree_70 ?_
  refine e_invS0 [_, _] 75 rfl dX9_agree_72 k_X9_214 mo_X9_fittingGiven rm_X9_agree_X9_fittingGiven ⟨rfl, rfl⟩ rfl rfl (Nat.le_of_ble_eq_true rfl) ?_
  refine c_fittingGiven ng1 ng2 nk1 nk2 nf1 nf2 e5 e6 ?_
  first | refine e_if_eqB 82 78 (by decide) rfl dX9_agree_75 rfl (fun y7 => ?_) (fun y7 => ?_) | refine e_if_eqN 82 78 (by decide) rfl dX9_agree_75 rfl (by omega) (fun y7 => ?_) (fun y7 => ?_) | refine e_if_eq 82 78 (by decide) rfl dX9_agree_75 (fun y7 => ?_) (fun y7 => ?_)
  · refine e_iconst (nI 0) 83 rfl dX9_agree_82 ic_0 ?_
    refine e_iret dX9_agree_83 rfl ?_
    rw [y7] at kf
    exact kf
  · refine e_iconst (nI 1) 79 rfl dX9_agree_78 ic_1 ?_
    refine e_goto 83 (by decide) dX9_agree_79 ?_
    refine e_iret dX9_agree_83 rfl ?_
    rw [y7] at kf
    exact kf
noncomputable def faV (S : Ast) (a b : Nm) : Int32 := if a.1 = b.1 then (match pls (rB S a) 32 (rK S a) 0, pls (rB S b) 2 (rK S b) 0 with
    | m :: _, g :: _ => bI (madeL (enO (aS S a.1)) ((fsN a).getD m []) && decide ((fsN b).getD g [] = ((fsN a).getD m []).take (((fsN a).getD m []).length - (enO (aS S a.1)).length)))
    | _, _ => -1) else -1
noncomputable def q_father (S : Ast) (x y : Int32) : Int32 := match nmx (aN S) x, nmx (aN S) y with
  | some a, some b => if x = y then -1 else faV S a b
  | _, _ => -1
theorem d_father {d : Nat} {S : Ast} {x y : Int32} (hW : WF S) (hD : DI d S μ) (k : ∀ μ', DF d μ μ' → DI d S μ' → K (some (.int (q_father S x y))) μ') : Cl E M_X9_father [.ref d, .int x, .int y] μ K := by
  have gk := hD.1.1.1
  have n30 := hW.2.2.2.1.1
  unfold q_father at k
  refine Cl.of0 4 pn_X9 (Nat.le_of_ble_eq_true rfl) ⟨rfl, rfl⟩ rfl ?_
  refine e_al0 1 rfl dX9_father_0 ?_
  refine e_il1 2 rfl dX9_father_1 ?_
  refine e_invV0 [_] 5 rfl dX9_father_2 k_X9_156 mo_X9_isName rm_X9_father_X9_isName ⟨rfl, rfl⟩ rfl rfl (by assumption) (Nat.le_of_ble_eq_true rfl) ?_
  refine c_isName gk hD.2.2.2.2.2.2.2.2.2.1.1 n30 ?_
  cases eN : nmx (aN S) x with
  | none =>
    rw [eN] at k
    first | refine e_if_eqB 21 8 (by decide) rfl dX9_father_5 rfl (fun y1 => ?_) (fun y1 => ?_) | refine e_if_eqN 21 8 (by decide) rfl dX9_father_5 rfl (by omega) (fun y1 => ?_) (fun y1 => ?_) | refine e_if_eq 21 8 (by decide) rfl dX9_father_5 (fun y1 => ?_) (fun y1 => ?_)
    · refine e_iconst (-1) 22 rfl dX9_father_21 ic_m1 ?_
      refine e_iret dX9_father_22 rfl ?_
      exact k μ Fx.rf hD
    · cases y1
  | some a =>
  rw [eN] at k
  first | refine e_if_eqB 21 8 (by decide) rfl dX9_father_5 rfl (fun y1 => ?_) (fun y1 => ?_) | refine e_if_eqN 21 8 (by decide) rfl dX9_father_5 rfl (by omega) (fun y1 => ?_) (fun y1 => ?_) | refine e_if_eq 21 8 (by decide) rfl dX9_father_5 (fun y1 => ?_) (fun y1 => ?_)
  · cases y1
  refine e_al0 9 rfl dX9_father_8 ?_
  refine e_il2 10 rfl dX9_father_9 ?_
  refine e_invV0 [_] 13 rfl dX9_father_10 k_X9_156 mo_X9_isName rm_X9_father_X9_isName ⟨rfl, rfl⟩ rfl rfl (by assumption) (Nat.le_of_ble_eq_true rfl) ?_
  refine c_isName gk hD.2.2.2.2.2.2.2.2.2.1.1 n30 ?_
  cases eM : nmx (aN S) y with
  | none =>
    rw [eM] at k
    first | refine e_if_eqB 21 16 (by decide) rfl dX9_father_13 rfl (fun y2 => ?_) (fun y2 => ?_) | refine e_if_eqN 21 16 (by decide) rfl dX9_father_13 rfl (by omega) (fun y2 => ?_) (fun y2 => ?_) | refine e_if_eq 21 16 (by decide) rfl dX9_father_13 (fun y2 => ?_) (fun y2 => ?_)
    · refine e_iconst (-1) 22 rfl dX9_father_21 ic_m1 ?_
      refine e_iret dX9_father_22 rfl ?_
      exact k μ Fx.rf hD
    · cases y2
  | some b =>
  rw [eM] at k
  simp only [] at k
  obtain ⟨i, hx, hi⟩ := nmx_some eN
  obtain ⟨j, hy, hj⟩ := nmx_some eM
  have hil := (List.getElem?_eq_some_iff.mp hi).1
  have hjl := (List.getElem?_eq_some_iff.mp hj).1
  have hwa := hW.2.2.2.1.2 a (List.mem_of_getElem? hi)
  have hwb := hW.2.2.2.1.2 b (List.mem_of_getElem? hj)
  subst hx
  subst hy
  first | refine e_if_eqB 21 16 (by decide) rfl dX9_father_13 rfl (fun y2 => ?_) (fun y2 => ?_) | refine e_if_eqN 21 16 (by decide) rfl dX9_father_13 rfl (by omega) (fun y2 => ?_) (fun y2 => ?_) | refine e_if_eq 21 16 (by decide) rfl dX9_father_13 (fun y2 => ?_) (fun y2 => ?_)
  · cases y2
  refine e_il1 17 rfl dX9_father_16 ?_
  refine e_il2 18 rfl dX9_father_17 ?_
  first | refine e_cmp_neN 23 21 (by decide) rfl dX9_father_18 rfl rfl (by omega) (by omega) (fun y3 => ?_) (fun y3 => ?_) | refine e_cmp_ne 23 21 (by decide) rfl dX9_father_18 (fun y3 => ?_) (fun y3 => ?_)
  rotate_left
  · rw [if_pos (by rw [y3])] at k
    refine e_iconst (-1) 22 rfl dX9_father_21 ic_m1 ?_
    refine e_iret dX9_father_22 rfl ?_
    exact k μ Fx.rf hD
  rw [if_neg (fun q => y3 ((nI_eq (by omega) (by omega)).mp q))] at k
  refine e_al0 24 rfl dX9_father_23 ?_
  refine e_il1 25 rfl dX9_father_24 ?_
  refine e_invV0 [_] 28 rfl dX9_father_25 k_X9_187 mo_X9_freshName rm_X9_father_X9_freshName ⟨rfl, rfl⟩ rfl rfl (by assumption) (Nat.le_of_ble_eq_true rfl) ?_
  refine c_freshName hW hD hi (fun μ1 hF1 hf1 hP1 hD1 hfr1 => ?_)
  have gk1 := hD1.1.1.1
  refine e_as3 29 rfl dX9_father_28 (by decide) rfl ?_
  refine e_al0 30 rfl dX9_father_29 ?_
  refine e_il2 31 rfl dX9_father_30 ?_
  refine e_invV0 [_] 34 rfl dX9_father_31 k_X9_187 mo_X9_freshName rm_X9_father_X9_freshName ⟨rfl, rfl⟩ rfl rfl (by assumption) (Nat.le_of_ble_eq_true rfl) ?_
  refine c_freshName hW hD1 hj (fun μ2 hF2 hf2 hP2 hD2 hfr2 => ?_)
  have hX2 : DF d μ μ2 := (fnQ_DF (by omega) hF1).trans (fnQ_DF (by omega) hF2)
  have hfa := two_fresh (S := S) (a := a) (by omega) (by omega) hF2 hfr1 hfr2
  have kf := k μ2 hX2 hD2
  have hN2 := hD2.2.2.2.2.2.2.2.2.2.1
  obtain ⟨ng1, r1, ky1⟩ := hD2.ky hW hi hfa
  obtain ⟨ng2, r2, ky2⟩ := hD2.ky hW hj hfr2
  have nk1 := (hD2.fresh hi hfa).1
  have nk2 := (hD2.fresh hj hfr2).1
  have nf1 := (hN2.2.2 i a hi).2.1.nf hwa
  have nf2 := (hN2.2.2 j b hj).2.1.nf hwb
  have l1 := (hN2.2.2 i a hi).1
  have l2 := (hN2.2.2 j b hj).1
  have kk1 := ng1.1.1
  have kk2 := ng2.1.1
  have la := hwa.1
  have lb := hwb.1
  unfold faV at kf
  have e1 : rdB (aS S a.1) (aB S) a = rB S a := rfl
  have e2 : rdB (aS S b.1) (aB S) b = rB S b := rfl
  have e3 : rdK (aS S a.1) (aB S) a = rK S a := rfl
  have e4 : rdK (aS S b.1) (aB S) b = rK S b := rfl
  have e5 : (fsN a).length = (rK S a).length := by rw [fsN_len]; unfold rK; rw [rdK_len]
  have e6 : (fsN b).length = (rK S b).length := by rw [fsN_len]; unfold rK; rw [rdK_len]
  rw [e1, e3] at nk1
  rw [e2, e4] at nk2
  have g8 := nk1.l8
  have h8 := nk2.l8
  refine e_as4 36 rfl dX9_father_34 (by decide) rfl ?_
  refine e_al3 37 rfl dX9_father_36 ?_
  first | refine e_getIv 40 rfl dX9_father_37 f_X9_147 (by assumption) (by first | assumption | (simp only [mN_sF, mK_sF, mL_sF, mF_sF, mB_sF, mA_sF, mJ_sF, mP_sF, mO_sF, mN_sB, mK_sB, mL_sB, mF_sB, mB_sB, mA_sB, mJ_sB, mP_sB, mO_sB, mN_sA, mK_sA, mL_sA, mF_sA, mB_sA, mA_sA, mJ_sA, mP_sA, mO_sA, mN_sJ, mK_sJ, mL_sJ, mF_sJ, mB_sJ, mA_sJ, mJ_sJ, mP_sJ, mO_sJ, mN_sP, mK_sP, mL_sP, mF_sP, mB_sP, mA_sP, mJ_sP, mP_sP, mO_sP, mN_sO, mK_sO, mL_sO, mF_sO, mB_sO, mA_sO, mJ_sO, mP_sO, mO_sO, up2, if_true, if_false, eq_self, ite_true, ite_false, reduceIte, Nat.add_left_cancel_iff, Nat.add_eq_left, Nat.left_eq_add, Nat.reduceEqDiff]; assumption) | (simp only [mN_sF, mK_sF, mL_sF, mF_sF, mB_sF, mA_sF, mJ_sF, mP_sF, mO_sF, mN_sB, mK_sB, mL_sB, mF_sB, mB_sB, mA_sB, mJ_sB, mP_sB, mO_sB, mN_sA, mK_sA, mL_sA, mF_sA, mB_sA, mA_sA, mJ_sA, mP_sA, mO_sA, mN_sJ, mK_sJ, mL_sJ, mF_sJ, mB_sJ, mA_sJ, mJ_sJ, mP_sJ, mO_sJ, mN_sP, mK_sP, mL_sP, mF_sP, mB_sP, mA_sP, mJ_sP, mP_sP, mO_sP, mN_sO, mK_sO, mL_sO, mF_sO, mB_sO, mA_sO, mJ_sO, mP_sO, mO_sO, up2, if_true, if_false, eq_self, ite_true, ite_false, reduceIte, Nat.add_left_cancel_iff, Nat.add_eq_left, Nat.left_eq_add, Nat.reduceEqDiff]; done)) ?_ | refine e_getI 40 rfl dX9_father_37 f_X9_147 (by assumption) ?_
  refine e_al4 42 rfl dX9_father_40 ?_
  first | refine e_getIv 45 rfl dX9_father_42 f_X9_147 (by assumption) (by first | assumption | (simp only [mN_sF, mK_sF, mL_sF, mF_sF, mB_sF, mA_sF, mJ_sF, mP_sF, mO_sF, mN_sB, mK_sB, mL_sB, mF_sB, mB_sB, mA_sB, mJ_sB, mP_sB, mO_sB, mN_sA, mK_sA, mL_sA, mF_sA, mB_sA, mA_sA, mJ_sA, mP_sA, mO_sA, mN_sJ, mK_sJ, mL_sJ, mF_sJ, mB_sJ, mA_sJ, mJ_sJ, mP_sJ, mO_sJ, mN_sP, mK_sP, mL_sP, mF_sP, mB_sP, mA_sP, mJ_sP, mP_sP, mO_sP, mN_sO, mK_sO, mL_sO, mF_sO, mB_sO, mA_sO, mJ_sO, mP_sO, mO_sO, up2, if_true, if_false, eq_self, ite_true, ite_false, reduceIte, Nat.add_left_cancel_iff, Nat.add_eq_left, Nat.left_eq_add, Nat.reduceEqDiff]; assumption) | (simp only [mN_sF, mK_sF, mL_sF, mF_sF, mB_sF, mA_sF, mJ_sF, mP_sF, mO_sF, mN_sB, mK_sB, mL_sB, mF_sB, mB_sB, mA_sB, mJ_sB, mP_sB, mO_sB, mN_sA, mK_sA, mL_sA, mF_sA, mB_sA, mA_sA, mJ_sA, mP_sA, mO_sA, mN_sJ, mK_sJ, mL_sJ, mF_sJ, mB_sJ, mA_sJ, mJ_sJ, mP_sJ, mO_sJ, mN_sP, mK_sP, mL_sP, mF_sP, mB_sP, mA_sP, mJ_sP, mP_sP, mO_sP, mN_sO, mK_sO, mL_sO, mF_sO, mB_sO, mA_sO, mJ_sO, mP_sO, mO_sO, up2, if_true, if_false, eq_self, ite_true, ite_false, reduceIte, Nat.add_left_cancel_iff, Nat.add_eq_left, Nat.left_eq_add, Nat.reduceEqDiff]; done)) ?_ | refine e_getI 45 rfl dX9_father_42 f_X9_147 (by assumption) ?_
  first | refine e_cmp_eqN 50 48 (by decide) rfl dX9_father_45 rfl rfl (by omega) (by omega) (fun y4 => ?_) (fun y4 => ?_) | refine e_cmp_eq 50 48 (by decide) rfl dX9_father_45 (fun y4 => ?_) (fun y4 => ?_)
  rotate_left
  · rw [if_neg y4] at kf
    refine e_iconst (-1) 49 rfl dX9_father_48 ic_m1 ?_
    refine e_iret dX9_father_49 rfl ?_
    exact kf
  rw [if_pos y4] at kf
  refine e_al3 51 rfl dX9_father_50 ?_
  refine e_bipush (nI 32) 53 rfl dX9_father_51 bc_32 ?_
  refine e_iconst (nI 0) 54 rfl dX9_father_53 ic_0 ?_
  refine e_invV0 [_, _] 57 rfl dX9_father_54 k_X9_217 mo_X2_nextOf rm_X9_father_X2_nextOf ⟨rfl, rfl⟩ rfl rfl (by assumption) (Nat.le_of_ble_eq_true rfl) ?_
  refine c_nextOf2 ng1 nk1 (by decide) (by omega) ?_
  refine e_is5 59 rfl dX9_father_57 (by decide) rfl ?_
  refine e_al4 61 rfl dX9_father_59 ?_
  refine e_iconst (nI 2) 62 rfl dX9_father_61 ic_2 ?_
  refine e_iconst (nI 0) 63 rfl dX9_father_62 ic_0 ?_
  refine e_invV0 [_, _] 66 rfl dX9_father_63 k_X9_217 mo_X2_nextOf rm_X9_father_X2_nextOf ⟨rfl, rfl⟩ rfl rfl (by assumption) (Nat.le_of_ble_eq_true rfl) ?_
  refine c_nextOf2 ng2 nk2 (by decide) (by omega) ?_
  cases eA : pls (rB S a) 32 (rK S a) 0 with
  | nil =>
    rw [eA] at kf
    refine e_is6 68 rfl dX9_father_66 (by decide) rfl ?_
    refine e_il5 70 rfl dX9_father_68 ?_
    refine e_iconst (-1) 71 rfl dX9_father_70 ic_m1 ?_
    refine e_cmp_eq 80 74 (by decide) rfl dX9_father_71 (fun y5 => ?_) (fun y5 => ?_)
    · refine e_iconst (-1) 81 rfl dX9_father_80 ic_m1 ?_
      refine e_iret dX9_father_81 rfl ?_
      exact kf
    · exact absurd rfl y5
  | cons w r =>
  obtain ⟨hw, hfw, er⟩ := pls_cons eA
  rw [eA] at kf
  refine e_is6 68 rfl dX9_father_66 (by decide) rfl ?_
  refine e_il5 70 rfl dX9_father_68 ?_
  refine e_iconst (-1) 71 rfl dX9_father_70 ic_m1 ?_
  refine e_cmp_eq 80 74 (by decide) rfl dX9_father_71 (fun y5 => ?_) (fun y5 => ?_)
  · exact absurd y5 (nI_nm1 (by omega))
  cases eB : pls (rB S b) 2 (rK S b) 0 with
  | nil =>
    rw [eB] at kf
    refine e_il6 76 rfl dX9_father_74 ?_
    refine e_iconst (-1) 77 rfl dX9_father_76 ic_m1 ?_
    refine e_cmp_ne 82 80 (by decide) rfl dX9_father_77 (fun y6 => ?_) (fun y6 => ?_)
    · exact absurd rfl y6
    · refine e_iconst (-1) 81 rfl dX9_father_80 ic_m1 ?_
      refine e_iret dX9_father_81 rfl ?_
      exact kf
  | cons v q =>
  obtain ⟨hv, hfv, eq⟩ := pls_cons eB
  rw [eB] at kf
  simp only [] at kf
  refine e_il6 76 rfl dX9_father_74 ?_
  refine e_iconst (-1) 77 rfl dX9_father_76 ic_m1 ?_
  refine e_cmp_ne 82 80 (by decide) rfl dX9_father_77 (fun y6 => ?_) (fun y6 => ?_)
  rotate_left
  · exact absurd y6 (nI_nm1 (by omega))
  obtain ⟨⟨gk2, q0, q1, qx⟩, ⟨k32, l32, _⟩, _⟩ := id hD2.1
  obtain ⟨hSg, π, hπ, hinj, hdr, hsh⟩ := hD2.2.2.2.2.2.2.2.2.1
  have o3 := (hsh a.1 la).1
  have hShM := (hsh a.1 la).2
  have sk : mK μ2 (shA d (π a.1)) = 5 := hShM.1.1.1.1
  obtain ⟨⟨_, w2, _, _, _, wk1, wl1, _⟩, _, wWs⟩ := id ng1
  obtain ⟨⟨_, v2, _, _, _, vk1, vl1, _⟩, _, vWs⟩ := id ng2
  have hw1 : w < (fsN a).length := by omega
  have hv1 : v < (fsN b).length := by omega
  have ow := (wWs w (by omega)).1
  have ov := (vWs v (by omega)).1
  have hwl := nf1.2.2 w _ (List.getElem?_eq_getElem hw1)
  have hvl := nf2.2.2 v _ (List.getElem?_eq_getElem hv1)
  have x1 : hd1 (w :: r) = nI w := rfl
  have x2 : hd1 (v :: q) = nI v := rfl
  rw [x1, x2]
  have x3 : (fsN a).getD w [] = (fsN a)[w] := by rw [List.getD_eq_getElem?_getD, List.getElem?_eq_getElem hw1]; rfl
  have x4 : (fsN b).getD v [] = (fsN b)[v] := by rw [List.getD_eq_getElem?_getD, List.getElem?_eq_getElem hv1]; rfl
  rw [x3, x4] at kf
  refine e_al0 83 rfl dX9_father_82 ?_
  refine e_getR 86 rfl dX9_father_83 f_X9_18 (by assumption) (by assumption) ?_
  refine e_al3 87 rfl dX9_father_86 ?_
  first | refine e_getIv 90 rfl dX9_father_87 f_X9_147 (by assumption) (by first | assumption | (simp only [mN_sF, mK_sF, mL_sF, mF_sF, mB_sF, mA_sF, mJ_sF, mP_sF, mO_sF, mN_sB, mK_sB, mL_sB, mF_sB, mB_sB, mA_sB, mJ_sB, mP_sB, mO_sB, mN_sA, mK_sA, mL_sA, mF_sA, mB_sA, mA_sA, mJ_sA, mP_sA, mO_sA, mN_sJ, mK_sJ, mL_sJ, mF_sJ, mB_sJ, mA_sJ, mJ_sJ, mP_sJ, mO_sJ, mN_sP, mK_sP, mL_sP, mF_sP, mB_sP, mA_sP, mJ_sP, mP_sP, mO_sP, mN_sO, mK_sO, mL_sO, mF_sO, mB_sO, mA_sO, mJ_sO, mP_sO, mO_sO, up2, if_true, if_false, eq_self, ite_true, ite_false, reduceIte, Nat.add_left_cancel_iff, Nat.add_eq_left, Nat.left_eq_add, Nat.reduceEqDiff]; assumption) | (simp only [mN_sF, mK_sF, mL_sF, mF_sF, mB_sF, mA_sF, mJ_sF, mP_sF, mO_sF, mN_sB, mK_sB, mL_sB, mF_sB, mB_sB, mA_sB, mJ_sB, mP_sB, mO_sB, mN_sA, mK_sA, mL_sA, mF_sA, mB_sA, mA_sA, mJ_sA, mP_sA, mO_sA, mN_sJ, mK_sJ, mL_sJ, mF_sJ, mB_sJ, mA_sJ, mJ_sJ, mP_sJ, mO_sJ, mN_sP, mK_sP, mL_sP, mF_sP, mB_sP, mA_sP, mJ_sP, mP_sP, mO_sP, mN_sO, mK_sO, mL_sO, mF_sO, mB_sO, mA_sO, mJ_sO, mP_sO, mO_sO, up2, if_true, if_false, eq_self, ite_true, ite_false, reduceIte, Nat.add_left_cancel_iff, Nat.add_eq_left, Nat.left_eq_add, Nat.reduceEqDiff]; done)) ?_ | refine e_getI 90 rfl dX9_father_87 f_X9_147 (by assumption) ?_
  refine e_aald 91 rfl dX9_father_90 (by assumption) (by decide) (by assumption) (by first | rfl | simp only [pk_mul, nI_add]) (by omega) (by omega) (by assumption) ?_
  refine e_al4 93 rfl dX9_father_91 ?_
  refine e_getR 96 rfl dX9_father_93 f_X9_220 (by assumption) (by assumption) ?_
  refine e_il6 98 rfl dX9_father_96 ?_
  refine e_aald 99 rfl dX9_father_98 (by assumption) (by decide) (by assumption) (by first | rfl | simp only [pk_mul, nI_add]) (by omega) (by omega) (by assumption) ?_
  refine e_al3 100 rfl dX9_father_99 ?_
  refine e_getR 103 rfl dX9_father_100 f_X9_220 (by assumption) (by assumption) ?_
  refine e_il5 105 rfl dX9_father_103 ?_
  refine e_aald 106 rfl dX9_father_105 (by assumption) (by decide) (by assumption) (by first | rfl | simp only [pk_mul, nI_add]) (by omega) (by omega) (by assumption) ?_
  refine e_invV0 [_, _] 109 rfl dX9_father_106 k_X9_224 mo_X4_makes rm_X9_father_X4_makes ⟨rfl, rfl⟩ rfl rfl (by assumption) (Nat.le_of_ble_eq_true rfl) ?_
  refine c_makes hShM.1.1 hShM.1.2.2.2.2.2 (vWs v (by omega)).2 hvl (wWs w (by omega)).2 hwl ?_
  first | refine e_if_eqB 116 112 (by decide) rfl dX9_father_109 rfl (fun y7 => ?_) (fun y7 => ?_) | refine e_if_eqN 116 112 (by decide) rfl dX9_father_109 rfl (by omega) (fun y7 => ?_) (fun y7 => ?_) | refine e_if_eq 116 112 (by decide) rfl dX9_father_109 (fun y7 => ?_) (fun y7 => ?_)
  · refine e_iconst (nI 0) 117 rfl dX9_father_116 ic_0 ?_
    refine e_iret dX9_father_117 rfl ?_
    rw [y7] at kf
    exact kf
  · refine e_iconst (nI 1) 113 rfl dX9_father_112 ic_1 ?_
    refine e_goto 117 (by decide) dX9_father_113 ?_
    refine e_iret dX9_father_117 rfl ?_
    rw [y7] at kf
    exact kf
def flP (S : Ast) (i j : Nat) : Bool := match (aN S)[i]?, (aN S)[j]? with
  | some a, some b => decide (pln (aL S) a = pln (aL S) b) && !decide (fsN a = fsN b)
  | _, _ => false
def fallN (S : Ast) (n : Nat) : Nat := sumF (fun i => ((List.range i).filter (flP S i)).length) n
theorem d_fallen {d : Nat} {S : Ast} (hW : WF S) (hD : DI d S μ) (k : ∀ μ', DF d μ μ' → DI d S μ' → K (some (.int (nI (fallN S (aN S).length)))) μ') : Cl E M_X9_fallen [.ref d] μ K := by
  have n30 := hW.2.2.2.1.1
  have hp : ∀ i, i < 30 → ∀ μ1 μ2, Fr (plQ d i) μ1 μ2 → DF d μ1 μ2 := fun i h μ1 μ2 h' => h'.fx.mono (fun q h => by unfold plQ nA at h; omega)
  have outer : ∀ (fu i : Nat), i + fu = (aN S).length → ∀ μ1 l3, DF d μ μ1 → DI d S μ1 → Ev E M_X9_fallen 0 0 4 [some (.ref d), some (.int (nI (fallN S i))), some (.int (nI i)), l3] [] μ1 K := by
    intro fu
    induction fu with
    | zero =>
      intro i hi μ1 l3 hX1 hD1
      have gk1 := hD1.1.1.1
      have h7 := hD1.2.2.2.2.2.2.2.2.2.1.1
      refine e_il2 5 rfl dX9_fallen_4 ?_
      refine e_al0 6 rfl dX9_fallen_5 ?_
      first | refine e_getIv 9 rfl dX9_fallen_6 f_X9_54 (by assumption) (by first | assumption | (simp only [mN_sF, mK_sF, mL_sF, mF_sF, mB_sF, mA_sF, mJ_sF, mP_sF, mO_sF, mN_sB, mK_sB, mL_sB, mF_sB, mB_sB, mA_sB, mJ_sB, mP_sB, mO_sB, mN_sA, mK_sA, mL_sA, mF_sA, mB_sA, mA_sA, mJ_sA, mP_sA, mO_sA, mN_sJ, mK_sJ, mL_sJ, mF_sJ, mB_sJ, mA_sJ, mJ_sJ, mP_sJ, mO_sJ, mN_sP, mK_sP, mL_sP, mF_sP, mB_sP, mA_sP, mJ_sP, mP_sP, mO_sP, mN_sO, mK_sO, mL_sO, mF_sO, mB_sO, mA_sO, mJ_sO, mP_sO, mO_sO, up2, if_true, if_false, eq_self, ite_true, ite_false, reduceIte, Nat.add_left_cancel_iff, Nat.add_eq_left, Nat.left_eq_add, Nat.reduceEqDiff]; assumption) | (simp only [mN_sF, mK_sF, mL_sF, mF_sF, mB_sF, mA_sF, mJ_sF, mP_sF, mO_sF, mN_sB, mK_sB, mL_sB, mF_sB, mB_sB, mA_sB, mJ_sB, mP_sB, mO_sB, mN_sA, mK_sA, mL_sA, mF_sA, mB_sA, mA_sA, mJ_sA, mP_sA, mO_sA, mN_sJ, mK_sJ, mL_sJ, mF_sJ, mB_sJ, mA_sJ, mJ_sJ, mP_sJ, mO_sJ, mN_sP, mK_sP, mL_sP, mF_sP, mB_sP, mA_sP, mJ_sP, mP_sP, mO_sP, mN_sO, mK_sO, mL_sO, mF_sO, mB_sO, mA_sO, mJ_sO, mP_sO, mO_sO, up2, if_true, if_false, eq_self, ite_true, ite_false, reduceIte, Nat.add_left_cancel_iff, Nat.add_eq_left, Nat.left_eq_add, Nat.reduceEqDiff]; done)) ?_ | refine e_getI 9 rfl dX9_fallen_6 f_X9_54 (by assumption) ?_
      first | refine e_cmp_geN 78 12 (by decide) rfl dX9_fallen_9 rfl rfl (by omega) (by omega) (fun y1 => ?_) (fun y1 => ?_) | refine e_cmp_ge 78 12 (by decide) rfl dX9_fallen_9 (fun y1 => ?_) (fun y1 => ?_)
      rotate_left
      · omega
      refine e_il1 79 rfl dX9_fallen_78 ?_
      refine e_iret dX9_fallen_79 rfl ?_
      rw [show i = (aN S).length by omega]
      exact k μ1 hX1 hD1
    | succ fu ih =>
      intro i hi μ1 l3 hX1 hD1
      have gk1 := hD1.1.1.1
      have h7 := hD1.2.2.2.2.2.2.2.2.2.1.1
      have hil : i < (aN S).length := by omega
      obtain ⟨a, ha⟩ : ∃ a, (aN S)[i]? = some a := ⟨_, List.getElem?_eq_getElem hil⟩
      have hwa := hW.2.2.2.1.2 a (List.mem_of_getElem? ha)
      refine e_il2 5 rfl dX9_fallen_4 ?_
      refine e_al0 6 rfl dX9_fallen_5 ?_
      first | refine e_getIv 9 rfl dX9_fallen_6 f_X9_54 (by assumption) (by first | assumption | (simp only [mN_sF, mK_sF, mL_sF, mF_sF, mB_sF, mA_sF, mJ_sF, mP_sF, mO_sF, mN_sB, mK_sB, mL_sB, mF_sB, mB_sB, mA_sB, mJ_sB, mP_sB, mO_sB, mN_sA, mK_sA, mL_sA, mF_sA, mB_sA, mA_sA, mJ_sA, mP_sA, mO_sA, mN_sJ, mK_sJ, mL_sJ, mF_sJ, mB_sJ, mA_sJ, mJ_sJ, mP_sJ, mO_sJ, mN_sP, mK_sP, mL_sP, mF_sP, mB_sP, mA_sP, mJ_sP, mP_sP, mO_sP, mN_sO, mK_sO, mL_sO, mF_sO, mB_sO, mA_sO, mJ_sO, mP_sO, mO_sO, up2, if_true, if_false, eq_self, ite_true, ite_false, reduceIte, Nat.add_left_cancel_iff, Nat.add_eq_left, Nat.left_eq_add, Nat.reduceEqDiff]; assumption) | (simp only [mN_sF, mK_sF, mL_sF, mF_sF, mB_sF, mA_sF, mJ_sF, mP_sF, mO_sF, mN_sB, mK_sB, mL_sB, mF_sB, mB_sB, mA_sB, mJ_sB, mP_sB, mO_sB, mN_sA, mK_sA, mL_sA, mF_sA, mB_sA, mA_sA, mJ_sA, mP_sA, mO_sA, mN_sJ, mK_sJ, mL_sJ, mF_sJ, mB_sJ, mA_sJ, mJ_sJ, mP_sJ, mO_sJ, mN_sP, mK_sP, mL_sP, mF_sP, mB_sP, mA_sP, mJ_sP, mP_sP, mO_sP, mN_sO, mK_sO, mL_sO, mF_sO, mB_sO, mA_sO, mJ_sO, mP_sO, mO_sO, up2, if_true, if_false, eq_self, ite_true, ite_false, reduceIte, Nat.add_left_cancel_iff, Nat.add_eq_left, Nat.left_eq_add, Nat.reduceEqDiff]; done)) ?_ | refine e_getI 9 rfl dX9_fallen_6 f_X9_54 (by assumption) ?_
      first | refine e_cmp_geN 78 12 (by decide) rfl dX9_fallen_9 rfl rfl (by omega) (by omega) (fun y1 => ?_) (fun y1 => ?_) | refine e_cmp_ge 78 12 (by decide) rfl dX9_fallen_9 (fun y1 => ?_) (fun y1 => ?_)
      · omega
      refine e_iconst (nI 0) 13 rfl dX9_fallen_12 ic_0 ?_
      refine e_is3 14 rfl dX9_fallen_13 (by decide) rfl ?_
      have inner : ∀ (gu j : Nat), j + gu = i → ∀ μ2, DF d μ μ2 → DI d S μ2 → Ev E M_X9_fallen 0 0 14 [some (.ref d), some (.int (nI (fallN S i + ((List.range j).filter (flP S i)).length))), some (.int (nI i)), some (.int (nI j))] [] μ2 K := by
        intro gu
        induction gu with
        | zero =>
          intro j hj μ2 hX2 hD2
          refine e_il3 15 rfl dX9_fallen_14 ?_
          refine e_il2 16 rfl dX9_fallen_15 ?_
          first | refine e_cmp_geN 72 19 (by decide) rfl dX9_fallen_16 rfl rfl (by omega) (by omega) (fun y2 => ?_) (fun y2 => ?_) | refine e_cmp_ge 72 19 (by decide) rfl dX9_fallen_16 (fun y2 => ?_) (fun y2 => ?_)
          rotate_left
          · omega
          refine e_ii2 (nI (_ + 1)) 75 rfl dX9_fallen_72 (ii1 _) rfl ?_
          refine e_goto 4 (by decide) dX9_fallen_75 ?_
          have := ih (i + 1) (by omega) μ2 (some (.int (nI j))) hX2 hD2
          rw [show fallN S (i + 1) = fallN S i + ((List.range j).filter (flP S i)).length by rw [show j = i by omega]; rfl] at this
          exact this
        | succ gu ihj =>
          intro j hj μ2 hX2 hD2
          have hjl : j < (aN S).length := by omega
          obtain ⟨b, hb⟩ : ∃ b, (aN S)[j]? = some b := ⟨_, List.getElem?_eq_getElem hjl⟩
          have hwb := hW.2.2.2.1.2 b (List.mem_of_getElem? hb)
          obtain ⟨⟨gk2, p0, p1, p2, p4, p5, p6, p8, p10, px⟩, ⟨k3, l3', k262, l262, k294, l294, kx⟩, g3⟩ := id hD2.1
          have oi := g3 i (by omega)
          have ef : flP S i j = (decide (pln (aL S) a = pln (aL S) b) && !decide (fsN a = fsN b)) := by unfold flP; rw [ha, hb]
          have es : ∀ v, flP S i j = v → (fallN S i + ((List.range (j + 1)).filter (flP S i)).length) = (fallN S i + ((List.range j).filter (flP S i)).length) + (if v then 1 else 0) := fun v hv => by
            rw [List.range_succ, List.filter_append, List.length_append, List.filter_cons, hv]
            cases v <;> simp <;> omega
          refine e_il3 15 rfl dX9_fallen_14 ?_
          refine e_il2 16 rfl dX9_fallen_15 ?_
          first | refine e_cmp_geN 72 19 (by decide) rfl dX9_fallen_16 rfl rfl (by omega) (by omega) (fun y2 => ?_) (fun y2 => ?_) | refine e_cmp_ge 72 19 (by decide) rfl dX9_fallen_16 (fun y2 => ?_) (fun y2 => ?_)
          · omega
          refine e_al0 20 rfl dX9_fallen_19 ?_
          refine e_al0 21 rfl dX9_fallen_20 ?_
          refine e_getR 24 rfl dX9_fallen_21 f_X9_50 (by assumption) (by assumption) ?_
          refine e_il2 25 rfl dX9_fallen_24 ?_
          refine e_aald 26 rfl dX9_fallen_25 (by assumption) (by decide) (by assumption) (by first | rfl | simp only [pk_mul, nI_add]) (by omega) (by omega) (by assumption) ?_
          refine e_invV0 [_] 29 rfl dX9_fallen_26 k_X9_232 mo_X9_putLine rm_X9_fallen_X9_putLine ⟨rfl, rfl⟩ rfl rfl (by assumption) (Nat.le_of_ble_eq_true rfl) ?_
          refine c_putLine hW hD2 ha (fun μ3 hF3 hD3 hL3 => ?_)
          obtain ⟨⟨gk3, p03, p13, p23, p43, p53, p63, px3⟩, ⟨k33, l33, k2623, l2623, kx3⟩, g33⟩ := id hD3.1
          have oj := g33 j (by omega)
          refine e_al0 30 rfl dX9_fallen_29 ?_
          refine e_al0 31 rfl dX9_fallen_30 ?_
          refine e_getR 34 rfl dX9_fallen_31 f_X9_50 (by assumption) (by assumption) ?_
          refine e_il3 35 rfl dX9_fallen_34 ?_
          refine e_aald 36 rfl dX9_fallen_35 (by assumption) (by decide) (by assumption) (by first | rfl | simp only [pk_mul, nI_add]) (by omega) (by omega) (by assumption) ?_
          refine e_invV0 [_] 39 rfl dX9_fallen_36 k_X9_232 mo_X9_putLine rm_X9_fallen_X9_putLine ⟨rfl, rfl⟩ rfl rfl (by assumption) (Nat.le_of_ble_eq_true rfl) ?_
          refine c_putLine hW hD3 hb (fun μ4 hF4 hD4 hL4 => ?_)
          have hN4 := hD4.2.2.2.2.2.2.2.2.2.1
          have hL34 : Lc μ4 (nA d i + 4) (pln (aL S) a) := hL3.fr hF4 (by unfold plQ nA; omega) (by unfold plQ nA; omega)
          have ngi := hN4.2.1 i (by omega)
          have ngj := hN4.2.1 j (by omega)
          have lk := ngi.2.1.1
          have hX4 : DF d μ μ4 := (hX2.trans (hp i (by omega) _ _ hF3)).trans (hp j (by omega) _ _ hF4)
          refine e_invV0 [_] 42 rfl dX9_fallen_39 k_X9_236 mo_X1_alike rm_X9_fallen_X1_alike ⟨rfl, rfl⟩ rfl rfl (by assumption) (Nat.le_of_ble_eq_true rfl) ?_
          refine c_lalike ngi.2.1 ngj.2.1 hL34 hL4 ?_
          first | refine e_if_eqB 66 45 (by decide) rfl dX9_fallen_42 rfl (fun y3 => ?_) (fun y3 => ?_) | refine e_if_eqN 66 45 (by decide) rfl dX9_fallen_42 rfl (by omega) (fun y3 => ?_) (fun y3 => ?_) | refine e_if_eq 66 45 (by decide) rfl dX9_fallen_42 (fun y3 => ?_) (fun y3 => ?_)
          · refine e_ii3 (nI (_ + 1)) 69 rfl dX9_fallen_66 (ii1 _) rfl ?_
            refine e_goto 14 (by decide) dX9_fallen_69 ?_
            have := ihj (j + 1) (by omega) μ4 hX4 hD4
            rw [es false (by rw [ef, y3]; rfl)] at this
            exact this
          obtain ⟨⟨gk4, p04, p14, p24, p44, p54, p64, px4⟩, ⟨k34, l34, k2624, l2624, kx4⟩, g34⟩ := id hD4.1
          have oi4 := g34 i (by omega)
          have oj4 := g34 j (by omega)
          have nk4 := ngi.1.1
          have nf1 := (hN4.2.2 i a ha).2.1.nf hwa
          have nf2 := (hN4.2.2 j b hb).2.1.nf hwb
          refine e_al0 46 rfl dX9_fallen_45 ?_
          refine e_getR 49 rfl dX9_fallen_46 f_X9_50 (by assumption) (by assumption) ?_
          refine e_il2 50 rfl dX9_fallen_49 ?_
          refine e_aald 51 rfl dX9_fallen_50 (by assumption) (by decide) (by assumption) (by first | rfl | simp only [pk_mul, nI_add]) (by omega) (by omega) (by assumption) ?_
          refine e_al0 52 rfl dX9_fallen_51 ?_
          refine e_getR 55 rfl dX9_fallen_52 f_X9_50 (by assumption) (by assumption) ?_
          refine e_il3 56 rfl dX9_fallen_55 ?_
          refine e_aald 57 rfl dX9_fallen_56 (by assumption) (by decide) (by assumption) (by first | rfl | simp only [pk_mul, nI_add]) (by omega) (by omega) (by assumption) ?_
          refine e_invV0 [_] 60 rfl dX9_fallen_57 k_X9_240 mo_X2_alikeFolded rm_X9_fallen_X2_alikeFolded ⟨rfl, rfl⟩ rfl rfl (by assumption) (Nat.le_of_ble_eq_true rfl) ?_
          refine c_alikeFolded ngi ngj nf1 nf2 ?_
          first | refine e_if_neB 66 63 (by decide) rfl dX9_fallen_60 rfl (fun y4 => ?_) (fun y4 => ?_) | refine e_if_neN 66 63 (by decide) rfl dX9_fallen_60 rfl (by omega) (fun y4 => ?_) (fun y4 => ?_) | refine e_if_ne 66 63 (by decide) rfl dX9_fallen_60 (fun y4 => ?_) (fun y4 => ?_)
          · refine e_ii3 (nI (_ + 1)) 69 rfl dX9_fallen_66 (ii1 _) rfl ?_
            refine e_goto 14 (by decide) dX9_fallen_69 ?_
            have := ihj (j + 1) (by omega) μ4 hX4 hD4
            rw [es false (by rw [ef, y3, y4]; rfl)] at this
            exact this
          · refine e_ii1 (nI (_ + 1)) 66 rfl dX9_fallen_63 (ii1 _) rfl ?_
            refine e_ii3 (nI (_ + 1)) 69 rfl dX9_fallen_66 (ii1 _) rfl ?_
            refine e_goto 14 (by decide) dX9_fallen_69 ?_
            have := ihj (j + 1) (by omega) μ4 hX4 hD4
            rw [es true (by rw [ef, y3, y4]; rfl)] at this
            exact this
      have := inner i 0 (by omega) μ1 hX1 hD1
      exact this
  refine Cl.of0 3 pn_X9 (Nat.le_of_ble_eq_true rfl) ⟨rfl, rfl⟩ rfl ?_
  refine e_iconst (nI 0) 1 rfl dX9_fallen_0 ic_0 ?_
  refine e_is1 2 rfl dX9_fallen_1 (by decide) rfl ?_
  refine e_iconst (nI 0) 3 rfl dX9_fallen_2 ic_0 ?_
  refine e_is2 4 rfl dX9_fallen_3 (by decide) rfl ?_
  exact outer (aN S).length 0 (by omega) μ _ Fx.rf hD
def shN (S : Ast) (n : Nat) : Nat := ((List.range n).filter (fun i => (aS S i).isSome)).length
def q_count (S : Ast) (x : Int32) : Int32 := if x = 0 then nI (aB S).length else if x = nI 1 then nI (aN S).length else if x = nI 2 then nI (shN S 6) else -1
theorem c_shapeCount {d : Nat} {S : Ast} (hW : WF S) (hD : DI d S μ) (k : K (some (.int (nI (shN S 6)))) μ) : Cl E M_X9_shapeCount [.ref d] μ K := by
  obtain ⟨⟨gk, p0, p1, px⟩, ⟨k3, l3, _⟩, _⟩ := id hD.1
  obtain ⟨hSg, π, hπ, hinj, hdr, hsh⟩ := hD.2.2.2.2.2.2.2.2.1
  have loop : ∀ (fu i : Nat), i + fu = 6 → Ev E M_X9_shapeCount 0 0 4 [some (.ref d), some (.int (nI (shN S i))), some (.int (nI i))] [] μ K := by
    intro fu
    induction fu with
    | zero =>
      intro i hi
      refine e_il2 5 rfl dX9_shapeCount_4 ?_
      refine e_bipush (nI 6) 7 rfl dX9_shapeCount_5 bc_6 ?_
      first | refine e_cmp_geN 36 10 (by decide) rfl dX9_shapeCount_7 rfl rfl (by omega) (by omega) (fun y1 => ?_) (fun y1 => ?_) | refine e_cmp_ge 36 10 (by decide) rfl dX9_shapeCount_7 (fun y1 => ?_) (fun y1 => ?_)
      rotate_left
      · omega
      refine e_il1 37 rfl dX9_shapeCount_36 ?_
      refine e_iret dX9_shapeCount_37 rfl ?_
      rw [show i = 6 by omega]
      exact k
    | succ fu ih =>
      intro i hi
      have o3 := (hsh i (by omega)).1
      have hShM := (hsh i (by omega)).2
      have sk : mK μ (shA d (π i)) = 5 := hShM.1.1.1.1
      have s0 := hShM.1.2.1.1
      have es : shN S (i + 1) = shN S i + (if (aS S i).isSome then 1 else 0) := by
        unfold shN
        rw [List.range_succ, List.filter_append, List.length_append, List.filter_cons]
        cases (aS S i).isSome <;> simp
      refine e_il2 5 rfl dX9_shapeCount_4 ?_
      refine e_bipush (nI 6) 7 rfl dX9_shapeCount_5 bc_6 ?_
      first | refine e_cmp_geN 36 10 (by decide) rfl dX9_shapeCount_7 rfl rfl (by omega) (by omega) (fun y1 => ?_) (fun y1 => ?_) | refine e_cmp_ge 36 10 (by decide) rfl dX9_shapeCount_7 (fun y1 => ?_) (fun y1 => ?_)
      · omega
      cases eo : aS S i with
      | none =>
        rw [eo] at s0 es
        have s0' : mF μ (shA d (π i)) 0 = nI 0 := s0
        refine e_il1 11 rfl dX9_shapeCount_10 ?_
        refine e_al0 12 rfl dX9_shapeCount_11 ?_
        refine e_getR 15 rfl dX9_shapeCount_12 f_X9_18 (by assumption) (by assumption) ?_
        refine e_il2 16 rfl dX9_shapeCount_15 ?_
        refine e_aald 17 rfl dX9_shapeCount_16 (by assumption) (by decide) (by assumption) (by first | rfl | simp only [pk_mul, nI_add]) (by omega) (by omega) (by assumption) ?_
        first | refine e_getIv 20 rfl dX9_shapeCount_17 f_X9_119 (by assumption) (by first | assumption | (simp only [mN_sF, mK_sF, mL_sF, mF_sF, mB_sF, mA_sF, mJ_sF, mP_sF, mO_sF, mN_sB, mK_sB, mL_sB, mF_sB, mB_sB, mA_sB, mJ_sB, mP_sB, mO_sB, mN_sA, mK_sA, mL_sA, mF_sA, mB_sA, mA_sA, mJ_sA, mP_sA, mO_sA, mN_sJ, mK_sJ, mL_sJ, mF_sJ, mB_sJ, mA_sJ, mJ_sJ, mP_sJ, mO_sJ, mN_sP, mK_sP, mL_sP, mF_sP, mB_sP, mA_sP, mJ_sP, mP_sP, mO_sP, mN_sO, mK_sO, mL_sO, mF_sO, mB_sO, mA_sO, mJ_sO, mP_sO, mO_sO, up2, if_true, if_false, eq_self, ite_true, ite_false, reduceIte, Nat.add_left_cancel_iff, Nat.add_eq_left, Nat.left_eq_add, Nat.reduceEqDiff]; assumption) | (simp only [mN_sF, mK_sF, mL_sF, mF_sF, mB_sF, mA_sF, mJ_sF, mP_sF, mO_sF, mN_sB, mK_sB, mL_sB, mF_sB, mB_sB, mA_sB, mJ_sB, mP_sB, mO_sB, mN_sA, mK_sA, mL_sA, mF_sA, mB_sA, mA_sA, mJ_sA, mP_sA, mO_sA, mN_sJ, mK_sJ, mL_sJ, mF_sJ, mB_sJ, mA_sJ, mJ_sJ, mP_sJ, mO_sJ, mN_sP, mK_sP, mL_sP, mF_sP, mB_sP, mA_sP, mJ_sP, mP_sP, mO_sP, mN_sO, mK_sO, mL_sO, mF_sO, mB_sO, mA_sO, mJ_sO, mP_sO, mO_sO, up2, if_true, if_false, eq_self, ite_true, ite_false, reduceIte, Nat.add_left_cancel_iff, Nat.add_eq_left, Nat.left_eq_add, Nat.reduceEqDiff]; done)) ?_ | refine e_getI 20 rfl dX9_shapeCount_17 f_X9_119 (by assumption) ?_
        first | refine e_if_leN 27 23 (by decide) rfl dX9_shapeCount_20 rfl (by omega) (fun y2 => ?_) (fun y2 => ?_) | refine e_if_le 27 23 (by decide) rfl dX9_shapeCount_20 (fun y2 => ?_) (fun y2 => ?_)
        rotate_left
        · omega
        refine e_iconst (nI 0) 28 rfl dX9_shapeCount_27 ic_0 ?_
        first | refine e_iaddN 29 rfl dX9_shapeCount_28 rfl rfl ?_ | refine e_iadd 29 rfl dX9_shapeCount_28 ?_
        refine e_is1 30 rfl dX9_shapeCount_29 (by decide) rfl ?_
        refine e_ii2 (nI (_ + 1)) 33 rfl dX9_shapeCount_30 (ii1 _) rfl ?_
        refine e_goto 4 (by decide) dX9_shapeCount_33 ?_
        have := ih (i + 1) (by omega)
        rw [es] at this
        exact this
      | some x =>
        rw [eo] at s0 es
        have hx := hW.2.1 i x eo
        have s0' : mF μ (shA d (π i)) 0 = nI x.1.length := s0
        have x1 := hx.1.1
        have x8 := hx.1.2.1
        refine e_il1 11 rfl dX9_shapeCount_10 ?_
        refine e_al0 12 rfl dX9_shapeCount_11 ?_
        refine e_getR 15 rfl dX9_shapeCount_12 f_X9_18 (by assumption) (by assumption) ?_
        refine e_il2 16 rfl dX9_shapeCount_15 ?_
        refine e_aald 17 rfl dX9_shapeCount_16 (by assumption) (by decide) (by assumption) (by first | rfl | simp only [pk_mul, nI_add]) (by omega) (by omega) (by assumption) ?_
        first | refine e_getIv 20 rfl dX9_shapeCount_17 f_X9_119 (by assumption) (by first | assumption | (simp only [mN_sF, mK_sF, mL_sF, mF_sF, mB_sF, mA_sF, mJ_sF, mP_sF, mO_sF, mN_sB, mK_sB, mL_sB, mF_sB, mB_sB, mA_sB, mJ_sB, mP_sB, mO_sB, mN_sA, mK_sA, mL_sA, mF_sA, mB_sA, mA_sA, mJ_sA, mP_sA, mO_sA, mN_sJ, mK_sJ, mL_sJ, mF_sJ, mB_sJ, mA_sJ, mJ_sJ, mP_sJ, mO_sJ, mN_sP, mK_sP, mL_sP, mF_sP, mB_sP, mA_sP, mJ_sP, mP_sP, mO_sP, mN_sO, mK_sO, mL_sO, mF_sO, mB_sO, mA_sO, mJ_sO, mP_sO, mO_sO, up2, if_true, if_false, eq_self, ite_true, ite_false, reduceIte, Nat.add_left_cancel_iff, Nat.add_eq_left, Nat.left_eq_add, Nat.reduceEqDiff]; assumption) | (simp only [mN_sF, mK_sF, mL_sF, mF_sF, mB_sF, mA_sF, mJ_sF, mP_sF, mO_sF, mN_sB, mK_sB, mL_sB, mF_sB, mB_sB, mA_sB, mJ_sB, mP_sB, mO_sB, mN_sA, mK_sA, mL_sA, mF_sA, mB_sA, mA_sA, mJ_sA, mP_sA, mO_sA, mN_sJ, mK_sJ, mL_sJ, mF_sJ, mB_sJ, mA_sJ, mJ_sJ, mP_sJ, mO_sJ, mN_sP, mK_sP, mL_sP, mF_sP, mB_sP, mA_sP, mJ_sP, mP_sP, mO_sP, mN_sO, mK_sO, mL_sO, mF_sO, mB_sO, mA_sO, mJ_sO, mP_sO, mO_sO, up2, if_true, if_false, eq_self, ite_true, ite_false, reduceIte, Nat.add_left_cancel_iff, Nat.add_eq_left, Nat.left_eq_add, Nat.reduceEqDiff]; done)) ?_ | refine e_getI 20 rfl dX9_shapeCount_17 f_X9_119 (by assumption) ?_
        first | refine e_if_leN 27 23 (by decide) rfl dX9_shapeCount_20 rfl (by omega) (fun y2 => ?_) (fun y2 => ?_) | refine e_if_le 27 23 (by decide) rfl dX9_shapeCount_20 (fun y2 => ?_) (fun y2 => ?_)
        · omega
        refine e_iconst (nI 1) 24 rfl dX9_shapeCount_23 ic_1 ?_
        refine e_goto 28 (by decide) dX9_shapeCount_24 ?_
        first | refine e_iaddN 29 rfl dX9_shapeCount_28 rfl rfl ?_ | refine e_iadd 29 rfl dX9_shapeCount_28 ?_
        refine e_is1 30 rfl dX9_shapeCount_29 (by decide) rfl ?_
        refine e_ii2 (nI (_ + 1)) 33 rfl dX9_shapeCount_30 (ii1 _) rfl ?_
        refine e_goto 4 (by decide) dX9_shapeCount_33 ?_
        have := ih (i + 1) (by omega)
        rw [es] at this
        exact this
  refine Cl.of0 2 pn_X9 (Nat.le_of_ble_eq_true rfl) ⟨rfl, rfl⟩ rfl ?_
  refine e_iconst (nI 0) 1 rfl dX9_shapeCount_0 ic_0 ?_
  refine e_is1 2 rfl dX9_shapeCount_1 (by decide) rfl ?_
  refine e_iconst (nI 0) 3 rfl dX9_shapeCount_2 ic_0 ?_
  refine e_is2 4 rfl dX9_shapeCount_3 (by decide) rfl ?_
  exact loop 6 0 (by omega)
theorem d_count {d : Nat} {S : Ast} {x : Int32} (hW : WF S) (hD : DI d S μ) (k : K (some (.int (q_count S x))) μ) : Cl E M_X9_count [.ref d, .int x] μ K := by
  obtain ⟨⟨gk, p0, p1, p2, p4, px⟩, _, _⟩ := id hD.1
  have h7 := hD.2.2.2.2.2.2.2.2.2.1.1
  have bk := hD.2.2.2.1.1.1.1
  have b3 := hD.2.2.2.1.2.1
  unfold q_count at k
  refine Cl.of0 0 pn_X9 (Nat.le_of_ble_eq_true rfl) ⟨rfl, rfl⟩ rfl ?_
  refine e_il1 1 rfl dX9_count_0 ?_
  rcases iN_cases x with ⟨hx, _⟩ | ⟨j, hj, hx, _⟩
  · have hx' : x.toInt < 0 := by have := Int32.lt_iff_toInt_lt.mp hx; simpa using this
    refine e_tabOut 46 dX9_count_1 (Or.inl hx') (by decide) ?_
    rw [if_neg (fun e => by rw [e] at hx; exact absurd hx (by decide)), if_neg (fun e => by rw [e] at hx; exact absurd hx (by decide)), if_neg (fun e => by rw [e] at hx; exact absurd hx (by decide))] at k
    refine e_iconst (-1) 47 rfl dX9_count_46 ic_m1 ?_
    refine e_iret dX9_count_47 rfl ?_
    exact k
  subst hx
  have tw := nI_toInt (n := j) hj
  have z0' : (0 : Int32) = nI 0 := rfl
  by_cases c : 2 < j
  · refine e_tabOut 46 dX9_count_1 (Or.inr (by rw [tw]; omega)) (by decide) ?_
    rw [if_neg (fun e => by rw [z0'] at e; have := (nI_eq hj (by decide)).mp e; omega), if_neg (fun e => by have := (nI_eq hj (by decide)).mp e; omega), if_neg (fun e => by have := (nI_eq hj (by decide)).mp e; omega)] at k
    refine e_iconst (-1) 47 rfl dX9_count_46 ic_m1 ?_
    refine e_iret dX9_count_47 rfl ?_
    exact k
  have hcase : j = 0 ∨ j = 1 ∨ j = 2 := by omega
  rcases hcase with e | e | e
  · subst e
    refine e_tabIn 28 dX9_count_1 (by rw [tw]; omega) (by rw [tw]; omega) (by rw [tw]; rfl) (by decide) ?_
    refine e_al0 29 rfl dX9_count_28 ?_
    refine e_getR 32 rfl dX9_count_29 f_X9_37 (by assumption) (by assumption) ?_
    first | refine e_getIv 35 rfl dX9_count_32 f_X9_132 (by assumption) (by first | assumption | (simp only [mN_sF, mK_sF, mL_sF, mF_sF, mB_sF, mA_sF, mJ_sF, mP_sF, mO_sF, mN_sB, mK_sB, mL_sB, mF_sB, mB_sB, mA_sB, mJ_sB, mP_sB, mO_sB, mN_sA, mK_sA, mL_sA, mF_sA, mB_sA, mA_sA, mJ_sA, mP_sA, mO_sA, mN_sJ, mK_sJ, mL_sJ, mF_sJ, mB_sJ, mA_sJ, mJ_sJ, mP_sJ, mO_sJ, mN_sP, mK_sP, mL_sP, mF_sP, mB_sP, mA_sP, mJ_sP, mP_sP, mO_sP, mN_sO, mK_sO, mL_sO, mF_sO, mB_sO, mA_sO, mJ_sO, mP_sO, mO_sO, up2, if_true, if_false, eq_self, ite_true, ite_false, reduceIte, Nat.add_left_cancel_iff, Nat.add_eq_left, Nat.left_eq_add, Nat.reduceEqDiff]; assumption) | (simp only [mN_sF, mK_sF, mL_sF, mF_sF, mB_sF, mA_sF, mJ_sF, mP_sF, mO_sF, mN_sB, mK_sB, mL_sB, mF_sB, mB_sB, mA_sB, mJ_sB, mP_sB, mO_sB, mN_sA, mK_sA, mL_sA, mF_sA, mB_sA, mA_sA, mJ_sA, mP_sA, mO_sA, mN_sJ, mK_sJ, mL_sJ, mF_sJ, mB_sJ, mA_sJ, mJ_sJ, mP_sJ, mO_sJ, mN_sP, mK_sP, mL_sP, mF_sP, mB_sP, mA_sP, mJ_sP, mP_sP, mO_sP, mN_sO, mK_sO, mL_sO, mF_sO, mB_sO, mA_sO, mJ_sO, mP_sO, mO_sO, up2, if_true, if_false, eq_self, ite_true, ite_false, reduceIte, Nat.add_left_cancel_iff, Nat.add_eq_left, Nat.left_eq_add, Nat.reduceEqDiff]; done)) ?_ | refine e_getI 35 rfl dX9_count_32 f_X9_132 (by assumption) ?_
    refine e_iret dX9_count_35 rfl ?_
    exact k
  · subst e
    refine e_tabIn 36 dX9_count_1 (by rw [tw]; omega) (by rw [tw]; omega) (by rw [tw]; rfl) (by decide) ?_
    refine e_al0 37 rfl dX9_count_36 ?_
    first | refine e_getIv 40 rfl dX9_count_37 f_X9_54 (by assumption) (by first | assumption | (simp only [mN_sF, mK_sF, mL_sF, mF_sF, mB_sF, mA_sF, mJ_sF, mP_sF, mO_sF, mN_sB, mK_sB, mL_sB, mF_sB, mB_sB, mA_sB, mJ_sB, mP_sB, mO_sB, mN_sA, mK_sA, mL_sA, mF_sA, mB_sA, mA_sA, mJ_sA, mP_sA, mO_sA, mN_sJ, mK_sJ, mL_sJ, mF_sJ, mB_sJ, mA_sJ, mJ_sJ, mP_sJ, mO_sJ, mN_sP, mK_sP, mL_sP, mF_sP, mB_sP, mA_sP, mJ_sP, mP_sP, mO_sP, mN_sO, mK_sO, mL_sO, mF_sO, mB_sO, mA_sO, mJ_sO, mP_sO, mO_sO, up2, if_true, if_false, eq_self, ite_true, ite_false, reduceIte, Nat.add_left_cancel_iff, Nat.add_eq_left, Nat.left_eq_add, Nat.reduceEqDiff]; assumption) | (simp only [mN_sF, mK_sF, mL_sF, mF_sF, mB_sF, mA_sF, mJ_sF, mP_sF, mO_sF, mN_sB, mK_sB, mL_sB, mF_sB, mB_sB, mA_sB, mJ_sB, mP_sB, mO_sB, mN_sA, mK_sA, mL_sA, mF_sA, mB_sA, mA_sA, mJ_sA, mP_sA, mO_sA, mN_sJ, mK_sJ, mL_sJ, mF_sJ, mB_sJ, mA_sJ, mJ_sJ, mP_sJ, mO_sJ, mN_sP, mK_sP, mL_sP, mF_sP, mB_sP, mA_sP, mJ_sP, mP_sP, mO_sP, mN_sO, mK_sO, mL_sO, mF_sO, mB_sO, mA_sO, mJ_sO, mP_sO, mO_sO, up2, if_true, if_false, eq_self, ite_true, ite_false, reduceIte, Nat.add_left_cancel_iff, Nat.add_eq_left, Nat.left_eq_add, Nat.reduceEqDiff]; done)) ?_ | refine e_getI 40 rfl dX9_count_37 f_X9_54 (by assumption) ?_
    refine e_iret dX9_count_40 rfl ?_
    exact k
  · subst e
    refine e_tabIn 41 dX9_count_1 (by rw [tw]; omega) (by rw [tw]; omega) (by rw [tw]; rfl) (by decide) ?_
    refine e_al0 42 rfl dX9_count_41 ?_
    refine e_invV0 [] 45 rfl dX9_count_42 k_X9_244 mo_X9_shapeCount rm_X9_count_X9_shapeCount ⟨rfl, rfl⟩ rfl rfl (by assumption) (Nat.le_of_ble_eq_true rfl) ?_
    refine c_shapeCount hW hD ?_
    refine e_iret dX9_count_45 rfl ?_
    exact k
end DESK2
