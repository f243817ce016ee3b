/-! NameDeskModel: forget, table, count -/
section MFORGET
variable {E : En} {μ : Mm} {K : Option Value → Mm → Prop}
theorem perm_mid {es : List Ent} {i : Nat} {e : Ent} (hi : es[i]? = some e) : es.Perm (e :: es.eraseIdx i) := by
  obtain ⟨h1, h2⟩ := List.getElem?_eq_some_iff.mp hi
  have hes : es = es.take i ++ e :: es.drop (i + 1) := by
    conv => lhs; rw [← List.take_append_drop i es, List.drop_eq_getElem_cons h1, h2]
  rw [List.eraseIdx_eq_take_drop_succ]
  conv => lhs; rw [hes]
  exact List.perm_middle
theorem perm_erase {es es' : List Ent} {i j : Nat} {e : Ent} (h : es.Perm es') (hi : es[i]? = some e) (hj : es'[j]? = some e) : (es.eraseIdx i).Perm (es'.eraseIdx j) := ((perm_mid hi).symm.trans (h.trans (perm_mid hj))).cons_inv
theorem erase_get {es : List Ent} {i j : Nat} : (es.eraseIdx i)[j]? = if j < i then es[j]? else es[j + 1]? := List.getElem?_eraseIdx
theorem m_forget {m : Nat} {S : Ast} {x y n : Int32} (hW : WF S) (hM : MI m S μ) (k : ∀ μ', MF m μ μ' → MI m (q_forget S x y n).2 μ' → K (some (.int (q_forget S x y n).1)) μ') : Cl E M_X10_forget [.ref m, .int x, .int y, .int n] μ K := by
  have mk0 := hM.1.1
  have fail : entQ (aT S) x y n = none → ∀ μ2, MF m μ μ2 → MI m S μ2 → K (some (.int (nI 0))) μ2 := fun h μ2 h1 h2 => by
    unfold q_forget at k
    rw [h] at k
    exact k μ2 h1 h2
  have hM1 := hM.thr (nI 0)
  have f1 : MF m μ (sF μ m 2 (nI 0)) := MF.thr _
  refine Cl.of0 3 pn_X10 (Nat.le_of_ble_eq_true rfl) ⟨rfl, rfl⟩ rfl ?_
  refine e_al0 1 rfl dX10_forget_0 ?_
  refine e_iconst (nI 0) 2 rfl dX10_forget_1 ic_0 ?_
  refine e_putI 5 rfl dX10_forget_2 f_X10_126 (by assumption) ?_
  generalize sF μ m 2 (nI 0) = μ1 at hM1 f1 ⊢
  have mk := hM1.1.1
  have t1 := hM1.2.1.1
  obtain ⟨es, hes, hBk⟩ := hM1.2.2.1
  obtain ⟨es80, esN, esW⟩ := hW.es hes
  have h400 := hW.1.1
  have en := hBk.1
  rcases okL_cases x with ⟨hx, qx⟩ | ⟨ld, hl31, hx, ⟨hl, qx⟩ | ⟨hl, qx⟩⟩
  · refine e_il1 6 rfl dX10_forget_5 ?_
    refine e_if_lt 42 9 (by decide) rfl dX10_forget_6 (fun y1 => ?_) (fun y1 => ?_)
    · refine e_iconst (nI 0) 43 rfl dX10_forget_42 ic_0 ?_
      refine e_zret dX10_forget_43 rfl (by first | exact z0 | exact z1 | exact bI01 _ | assumption) ?_
      exact fail (entQ_none_L qx) μ1 f1 hM1
    · exact absurd hx y1
  · subst hx
    refine e_il1 6 rfl dX10_forget_5 ?_
    first | refine e_if_ltN 42 9 (by decide) rfl dX10_forget_6 rfl (by omega) ?_ | refine e_if_lt 42 9 (by decide) rfl dX10_forget_6 (fun h => ?_) (fun h => ?_)
    refine e_il1 10 rfl dX10_forget_9 ?_
    refine e_iconst (nI 5) 11 rfl dX10_forget_10 ic_5 ?_
    first | refine e_cmp_gtN 42 14 (by decide) rfl dX10_forget_11 rfl rfl (by omega) (by omega) (fun y1 => ?_) (fun y1 => ?_) | refine e_cmp_gt 42 14 (by decide) rfl dX10_forget_11 (fun y1 => ?_) (fun y1 => ?_)
    · refine e_iconst (nI 0) 43 rfl dX10_forget_42 ic_0 ?_
      refine e_zret dX10_forget_43 rfl (by first | exact z0 | exact z1 | exact bI01 _ | assumption) ?_
      exact fail (entQ_none_L qx) μ1 f1 hM1
    · omega
  subst hx
  refine e_il1 6 rfl dX10_forget_5 ?_
  first | refine e_if_ltN 42 9 (by decide) rfl dX10_forget_6 rfl (by omega) ?_ | refine e_if_lt 42 9 (by decide) rfl dX10_forget_6 (fun h => ?_) (fun h => ?_)
  refine e_il1 10 rfl dX10_forget_9 ?_
  refine e_iconst (nI 5) 11 rfl dX10_forget_10 ic_5 ?_
  first | refine e_cmp_gtN 42 14 (by decide) rfl dX10_forget_11 rfl rfl (by omega) (by omega) (fun y1 => ?_) (fun y1 => ?_) | refine e_cmp_gt 42 14 (by decide) rfl dX10_forget_11 (fun y1 => ?_) (fun y1 => ?_)
  · omega
  refine e_il2 15 rfl dX10_forget_14 ?_
  refine e_invS0 [_] 18 rfl dX10_forget_15 k_X10_179 mo_X10_isKept rm_X10_forget_X10_isKept ⟨rfl, rfl⟩ rfl rfl (Nat.le_of_ble_eq_true rfl) ?_
  refine c_mIsKept ?_
  cases eK : okK y with
  | none =>
    first | refine e_if_eqB 42 21 (by decide) rfl dX10_forget_18 rfl (fun y2 => ?_) (fun y2 => ?_) | refine e_if_eqN 42 21 (by decide) rfl dX10_forget_18 rfl (by omega) (fun y2 => ?_) (fun y2 => ?_) | refine e_if_eq 42 21 (by decide) rfl dX10_forget_18 (fun y2 => ?_) (fun y2 => ?_)
    · refine e_iconst (nI 0) 43 rfl dX10_forget_42 ic_0 ?_
      refine e_zret dX10_forget_43 rfl (by first | exact z0 | exact z1 | exact bI01 _ | assumption) ?_
      exact fail (entQ_none_K eK) μ1 f1 hM1
    · cases y2
  | some kd =>
  obtain ⟨hk5, hy⟩ := okK_some eK
  subst hy
  first | refine e_if_eqB 42 21 (by decide) rfl dX10_forget_18 rfl (fun y2 => ?_) (fun y2 => ?_) | refine e_if_eqN 42 21 (by decide) rfl dX10_forget_18 rfl (by omega) (fun y2 => ?_) (fun y2 => ?_) | refine e_if_eq 42 21 (by decide) rfl dX10_forget_18 (fun y2 => ?_) (fun y2 => ?_)
  · cases y2
  rcases okH_cases (aT S) n with ⟨hn, qn⟩ | ⟨nn, hn31, hn, ⟨hh, qn⟩ | ⟨hh, qn⟩⟩
  · refine e_il3 22 rfl dX10_forget_21 ?_
    refine e_if_lt 42 25 (by decide) rfl dX10_forget_22 (fun y3 => ?_) (fun y3 => ?_)
    · refine e_iconst (nI 0) 43 rfl dX10_forget_42 ic_0 ?_
      refine e_zret dX10_forget_43 rfl (by first | exact z0 | exact z1 | exact bI01 _ | assumption) ?_
      exact fail (entQ_none_H qn) μ1 f1 hM1
    · exact absurd hn y3
  · subst hn
    refine e_il3 22 rfl dX10_forget_21 ?_
    first | refine e_if_ltN 42 25 (by decide) rfl dX10_forget_22 rfl (by omega) ?_ | refine e_if_lt 42 25 (by decide) rfl dX10_forget_22 (fun h => ?_) (fun h => ?_)
    refine e_il3 26 rfl dX10_forget_25 ?_
    refine e_al0 27 rfl dX10_forget_26 ?_
    first | refine e_getIv 30 rfl dX10_forget_27 f_X10_129 (by assumption) (by first | assumption | (simp only [mN_sF, mK_sF, mL_sF, mF_sF, mB_sF, mA_sF, mJ_sF, mP_sF, mO_sF, mN_sB, mK_sB, mL_sB, mF_sB, mB_sB, mA_sB, mJ_sB, mP_sB, mO_sB, mN_sA, mK_sA, mL_sA, mF_sA, mB_sA, mA_sA, mJ_sA, mP_sA, mO_sA, mN_sJ, mK_sJ, mL_sJ, mF_sJ, mB_sJ, mA_sJ, mJ_sJ, mP_sJ, mO_sJ, mN_sP, mK_sP, mL_sP, mF_sP, mB_sP, mA_sP, mJ_sP, mP_sP, mO_sP, mN_sO, mK_sO, mL_sO, mF_sO, mB_sO, mA_sO, mJ_sO, mP_sO, mO_sO, up2, if_true, if_false, eq_self, ite_true, ite_false, reduceIte, Nat.add_left_cancel_iff, Nat.add_eq_left, Nat.left_eq_add, Nat.reduceEqDiff]; assumption) | (simp only [mN_sF, mK_sF, mL_sF, mF_sF, mB_sF, mA_sF, mJ_sF, mP_sF, mO_sF, mN_sB, mK_sB, mL_sB, mF_sB, mB_sB, mA_sB, mJ_sB, mP_sB, mO_sB, mN_sA, mK_sA, mL_sA, mF_sA, mB_sA, mA_sA, mJ_sA, mP_sA, mO_sA, mN_sJ, mK_sJ, mL_sJ, mF_sJ, mB_sJ, mA_sJ, mJ_sJ, mP_sJ, mO_sJ, mN_sP, mK_sP, mL_sP, mF_sP, mB_sP, mA_sP, mJ_sP, mP_sP, mO_sP, mN_sO, mK_sO, mL_sO, mF_sO, mB_sO, mA_sO, mJ_sO, mP_sO, mO_sO, up2, if_true, if_false, eq_self, ite_true, ite_false, reduceIte, Nat.add_left_cancel_iff, Nat.add_eq_left, Nat.left_eq_add, Nat.reduceEqDiff]; done)) ?_ | refine e_getI 30 rfl dX10_forget_27 f_X10_129 (by assumption) ?_
    first | refine e_cmp_gtN 42 33 (by decide) rfl dX10_forget_30 rfl rfl (by omega) (by omega) (fun y3 => ?_) (fun y3 => ?_) | refine e_cmp_gt 42 33 (by decide) rfl dX10_forget_30 (fun y3 => ?_) (fun y3 => ?_)
    · refine e_iconst (nI 0) 43 rfl dX10_forget_42 ic_0 ?_
      refine e_zret dX10_forget_43 rfl (by first | exact z0 | exact z1 | exact bI01 _ | assumption) ?_
      exact fail (entQ_none_H qn) μ1 f1 hM1
    · omega
  subst hn
  refine e_il3 22 rfl dX10_forget_21 ?_
  first | refine e_if_ltN 42 25 (by decide) rfl dX10_forget_22 rfl (by omega) ?_ | refine e_if_lt 42 25 (by decide) rfl dX10_forget_22 (fun h => ?_) (fun h => ?_)
  refine e_il3 26 rfl dX10_forget_25 ?_
  refine e_al0 27 rfl dX10_forget_26 ?_
  first | refine e_getIv 30 rfl dX10_forget_27 f_X10_129 (by assumption) (by first | assumption | (simp only [mN_sF, mK_sF, mL_sF, mF_sF, mB_sF, mA_sF, mJ_sF, mP_sF, mO_sF, mN_sB, mK_sB, mL_sB, mF_sB, mB_sB, mA_sB, mJ_sB, mP_sB, mO_sB, mN_sA, mK_sA, mL_sA, mF_sA, mB_sA, mA_sA, mJ_sA, mP_sA, mO_sA, mN_sJ, mK_sJ, mL_sJ, mF_sJ, mB_sJ, mA_sJ, mJ_sJ, mP_sJ, mO_sJ, mN_sP, mK_sP, mL_sP, mF_sP, mB_sP, mA_sP, mJ_sP, mP_sP, mO_sP, mN_sO, mK_sO, mL_sO, mF_sO, mB_sO, mA_sO, mJ_sO, mP_sO, mO_sO, up2, if_true, if_false, eq_self, ite_true, ite_false, reduceIte, Nat.add_left_cancel_iff, Nat.add_eq_left, Nat.left_eq_add, Nat.reduceEqDiff]; assumption) | (simp only [mN_sF, mK_sF, mL_sF, mF_sF, mB_sF, mA_sF, mJ_sF, mP_sF, mO_sF, mN_sB, mK_sB, mL_sB, mF_sB, mB_sB, mA_sB, mJ_sB, mP_sB, mO_sB, mN_sA, mK_sA, mL_sA, mF_sA, mB_sA, mA_sA, mJ_sA, mP_sA, mO_sA, mN_sJ, mK_sJ, mL_sJ, mF_sJ, mB_sJ, mA_sJ, mJ_sJ, mP_sJ, mO_sJ, mN_sP, mK_sP, mL_sP, mF_sP, mB_sP, mA_sP, mJ_sP, mP_sP, mO_sP, mN_sO, mK_sO, mL_sO, mF_sO, mB_sO, mA_sO, mJ_sO, mP_sO, mO_sO, up2, if_true, if_false, eq_self, ite_true, ite_false, reduceIte, Nat.add_left_cancel_iff, Nat.add_eq_left, Nat.left_eq_add, Nat.reduceEqDiff]; done)) ?_ | refine e_getI 30 rfl dX10_forget_27 f_X10_129 (by assumption) ?_
  first | refine e_cmp_gtN 42 33 (by decide) rfl dX10_forget_30 rfl rfl (by omega) (by omega) (fun y3 => ?_) (fun y3 => ?_) | refine e_cmp_gt 42 33 (by decide) rfl dX10_forget_30 (fun y3 => ?_) (fun y3 => ?_)
  · omega
  have eQ : entQ (aT S) (nI ld) (nI kd) (nI nn) = if isWordL ((aT S).take nn) = true then some (ld, kd, foldL ((aT S).take nn)) else none := by unfold entQ; rw [qx, eK, qn]
  obtain ⟨tx, htx, hseg⟩ := hM1.2.1.tx hW.1.2
  refine e_al0 34 rfl dX10_forget_33 ?_
  refine e_iconst (nI 0) 35 rfl dX10_forget_34 ic_0 ?_
  refine e_il3 36 rfl dX10_forget_35 ?_
  refine e_invV0 [_, _] 39 rfl dX10_forget_36 k_X10_182 mo_X10_isWord rm_X10_forget_X10_isWord ⟨rfl, rfl⟩ rfl rfl (by assumption) (Nat.le_of_ble_eq_true rfl) ?_
  refine c_mIsWord (tx := tx) hM1.1 (Nat.zero_le _) (by omega) (fun i hi => htx i (by omega)) (fun hno μ2 hF2 hf2 => ?_) (fun hok μ2 hF2 hf2 h39 hH2 => ?_)
  · rw [hseg nn hh] at hno
    have hFq : Fr (mQ m) μ1 μ2 := hF2.mono (fun q a => by unfold iwQ at a; unfold mQ; omega)
    first | refine e_if_neB 44 42 (by decide) rfl dX10_forget_39 rfl (fun y5 => ?_) (fun y5 => ?_) | refine e_if_neN 44 42 (by decide) rfl dX10_forget_39 rfl (by omega) (fun y5 => ?_) (fun y5 => ?_) | refine e_if_ne 44 42 (by decide) rfl dX10_forget_39 (fun y5 => ?_) (fun y5 => ?_)
    · exact absurd rfl y5
    refine e_iconst (nI 0) 43 rfl dX10_forget_42 ic_0 ?_
    refine e_zret dX10_forget_43 rfl (by first | exact z0 | exact z1 | exact bI01 _ | assumption) ?_
    exact fail (by rw [eQ, if_neg (by rw [hno]; decide)]) μ2 (f1.trans (mQ_MF hFq)) (hM1.scr hFq (fun f hf => hf2 f (by omega)))
  rw [hseg nn hh] at hok h39 hH2
  rw [if_pos hok] at eQ
  have hFq : Fr (mQ m) μ1 μ2 := hF2.mono (fun q a => by unfold iwQ at a; unfold mQ; omega)
  have hM2 : MI m S μ2 := hM1.scr hFq (fun f hf => hf2 f (by omega))
  have f2 : MF m μ μ2 := f1.trans (mQ_MF hFq)
  have hww := wordL hok
  have hbk2 : mBk μ2 m es := hBk.fr hF2 (hf2 3 (by decide)) (fun q a b => by unfold iwQ; omega)
  have mk2 := hM2.1.1
  obtain ⟨pf, kf, lf⟩ := hM2.1.folded
  first | refine e_if_neB 44 42 (by decide) rfl dX10_forget_39 rfl (fun y5 => ?_) (fun y5 => ?_) | refine e_if_neN 44 42 (by decide) rfl dX10_forget_39 rfl (by omega) (fun y5 => ?_) (fun y5 => ?_) | refine e_if_ne 44 42 (by decide) rfl dX10_forget_39 (fun y5 => ?_) (fun y5 => ?_)
  rotate_left
  · exact absurd y5 (by decide)
  obtain ⟨w, hw⟩ : ∃ w, w = foldL ((aT S).take nn) := ⟨_, rfl⟩
  have hwr : ∀ c ∈ w, 97 ≤ c ∧ c ≤ 122 := by rw [hw]; exact foldL_r
  rw [← hw] at eQ h39 hH2 hww
  unfold q_forget at k
  rw [eQ] at k
  simp only [] at k
  refine e_al0 45 rfl dX10_forget_44 ?_
  refine e_il1 46 rfl dX10_forget_45 ?_
  refine e_il2 47 rfl dX10_forget_46 ?_
  refine e_al0 48 rfl dX10_forget_47 ?_
  refine e_getR 51 rfl dX10_forget_48 f_X10_99 (by assumption) (by assumption) ?_
  refine e_iconst (nI 0) 52 rfl dX10_forget_51 ic_0 ?_
  refine e_al0 53 rfl dX10_forget_52 ?_
  first | refine e_getIv 56 rfl dX10_forget_53 f_X10_173 (by assumption) (by first | assumption | (simp only [mN_sF, mK_sF, mL_sF, mF_sF, mB_sF, mA_sF, mJ_sF, mP_sF, mO_sF, mN_sB, mK_sB, mL_sB, mF_sB, mB_sB, mA_sB, mJ_sB, mP_sB, mO_sB, mN_sA, mK_sA, mL_sA, mF_sA, mB_sA, mA_sA, mJ_sA, mP_sA, mO_sA, mN_sJ, mK_sJ, mL_sJ, mF_sJ, mB_sJ, mA_sJ, mJ_sJ, mP_sJ, mO_sJ, mN_sP, mK_sP, mL_sP, mF_sP, mB_sP, mA_sP, mJ_sP, mP_sP, mO_sP, mN_sO, mK_sO, mL_sO, mF_sO, mB_sO, mA_sO, mJ_sO, mP_sO, mO_sO, up2, if_true, if_false, eq_self, ite_true, ite_false, reduceIte, Nat.add_left_cancel_iff, Nat.add_eq_left, Nat.left_eq_add, Nat.reduceEqDiff]; assumption) | (simp only [mN_sF, mK_sF, mL_sF, mF_sF, mB_sF, mA_sF, mJ_sF, mP_sF, mO_sF, mN_sB, mK_sB, mL_sB, mF_sB, mB_sB, mA_sB, mJ_sB, mP_sB, mO_sB, mN_sA, mK_sA, mL_sA, mF_sA, mB_sA, mA_sA, mJ_sA, mP_sA, mO_sA, mN_sJ, mK_sJ, mL_sJ, mF_sJ, mB_sJ, mA_sJ, mJ_sJ, mP_sJ, mO_sJ, mN_sP, mK_sP, mL_sP, mF_sP, mB_sP, mA_sP, mJ_sP, mP_sP, mO_sP, mN_sO, mK_sO, mL_sO, mF_sO, mB_sO, mA_sO, mJ_sO, mP_sO, mO_sO, up2, if_true, if_false, eq_self, ite_true, ite_false, reduceIte, Nat.add_left_cancel_iff, Nat.add_eq_left, Nat.left_eq_add, Nat.reduceEqDiff]; done)) ?_ | refine e_getI 56 rfl dX10_forget_53 f_X10_173 (by assumption) ?_
  refine e_invV0 [_, _, _, _, _] 59 rfl dX10_forget_56 k_X10_185 mo_X10_entry rm_X10_forget_X10_entry ⟨rfl, rfl⟩ rfl rfl (by assumption) (Nat.le_of_ble_eq_true rfl) ?_
  refine c_mEntry (at0 := 0) hM2.1 hbk2 ⟨es80, esW⟩ kf lf (by decide) (by omega) (hH2.of (fun i _ => by rw [Nat.zero_add])) (fun c hc => by have := hwr c hc; omega) (by omega) hl hk5 (fun hnin => ?_) (fun i hi hfst => ?_)
  · rw [if_neg (fun q => hnin (hes.mem_iff.mpr q))] at k
    refine e_is4 61 rfl dX10_forget_59 (by decide) rfl ?_
    refine e_il4 63 rfl dX10_forget_61 ?_
    refine e_if_ge 68 66 (by decide) rfl dX10_forget_63 (fun y6 => ?_) (fun y6 => ?_)
    · exact absurd y6 (by decide)
    refine e_iconst (nI 0) 67 rfl dX10_forget_66 ic_0 ?_
    refine e_zret dX10_forget_67 rfl (by first | exact z0 | exact z1 | exact bI01 _ | assumption) ?_
    exact k μ2 f2 hM2
  have hil := (List.getElem?_eq_some_iff.mp hi).1
  have hinB : (ld, kd, w) ∈ aB S := hes.mem_iff.mp (List.mem_of_getElem? hi)
  rw [if_pos hinB] at k
  have hj : (aB S)[fndI (aB S) (ld, kd, w)]? = some (ld, kd, w) := by
    have h1 : fndI (aB S) (ld, kd, w) < (aB S).length := by
      unfold fndI
      exact List.findIdx_lt_length_of_exists ⟨_, hinB, by simp⟩
    rw [List.getElem?_eq_getElem h1]
    congr 1
    have := List.findIdx_getElem (p := fun x => decide (x = (ld, kd, w))) (xs := aB S) (w := h1)
    exact of_decide_eq_true this
  have hperm : (es.eraseIdx i).Perm (remL (aB S) (fndI (aB S) (ld, kd, w))) := (perm_erase hes hi hj).trans (remL_perm (List.getElem?_eq_some_iff.mp hj).1).symm
  have hel : (es.eraseIdx i).length = es.length - 1 := by rw [List.length_eraseIdx, if_pos hil]
  refine e_is4 61 rfl dX10_forget_59 (by decide) rfl ?_
  refine e_il4 63 rfl dX10_forget_61 ?_
  first | refine e_if_geN 68 66 (by decide) rfl dX10_forget_63 rfl (by omega) ?_ | refine e_if_ge 68 66 (by decide) rfl dX10_forget_63 (fun y6 => ?_) (fun y6 => ?_)
  have mk3 : mK (sF μ2 m 1 (nI 0)) m = 11 := mk2
  have e3' : mF (sF μ2 m 1 (nI 0)) m 3 = nI es.length := by simp only [mN_sF, mK_sF, mL_sF, mF_sF, mB_sF, mA_sF, mJ_sF, mP_sF, mO_sF, mN_sB, mK_sB, mL_sB, mF_sB, mB_sB, mA_sB, mJ_sB, mP_sB, mO_sB, mN_sA, mK_sA, mL_sA, mF_sA, mB_sA, mA_sA, mJ_sA, mP_sA, mO_sA, mN_sJ, mK_sJ, mL_sJ, mF_sJ, mB_sJ, mA_sJ, mJ_sJ, mP_sJ, mO_sJ, mN_sP, mK_sP, mL_sP, mF_sP, mB_sP, mA_sP, mJ_sP, mP_sP, mO_sP, mN_sO, mK_sO, mL_sO, mF_sO, mB_sO, mA_sO, mJ_sO, mP_sO, mO_sO, up2, if_true, if_false, eq_self, ite_true, ite_false, reduceIte, Nat.add_left_cancel_iff, Nat.add_eq_left, Nat.left_eq_add, Nat.reduceEqDiff]; rw [hf2 3 (by decide)]; exact en
  refine e_al0 69 rfl dX10_forget_68 ?_
  refine e_iconst (nI 0) 70 rfl dX10_forget_69 ic_0 ?_
  refine e_putI 73 rfl dX10_forget_70 f_X10_129 (by assumption) ?_
  refine e_al0 74 rfl dX10_forget_73 ?_
  refine e_dup 75 rfl dX10_forget_74 rfl ?_
  first | refine e_getIv 78 rfl dX10_forget_75 f_X10_176 (by assumption) (by first | assumption | (simp only [mN_sF, mK_sF, mL_sF, mF_sF, mB_sF, mA_sF, mJ_sF, mP_sF, mO_sF, mN_sB, mK_sB, mL_sB, mF_sB, mB_sB, mA_sB, mJ_sB, mP_sB, mO_sB, mN_sA, mK_sA, mL_sA, mF_sA, mB_sA, mA_sA, mJ_sA, mP_sA, mO_sA, mN_sJ, mK_sJ, mL_sJ, mF_sJ, mB_sJ, mA_sJ, mJ_sJ, mP_sJ, mO_sJ, mN_sP, mK_sP, mL_sP, mF_sP, mB_sP, mA_sP, mJ_sP, mP_sP, mO_sP, mN_sO, mK_sO, mL_sO, mF_sO, mB_sO, mA_sO, mJ_sO, mP_sO, mO_sO, up2, if_true, if_false, eq_self, ite_true, ite_false, reduceIte, Nat.add_left_cancel_iff, Nat.add_eq_left, Nat.left_eq_add, Nat.reduceEqDiff]; assumption) | (simp only [mN_sF, mK_sF, mL_sF, mF_sF, mB_sF, mA_sF, mJ_sF, mP_sF, mO_sF, mN_sB, mK_sB, mL_sB, mF_sB, mB_sB, mA_sB, mJ_sB, mP_sB, mO_sB, mN_sA, mK_sA, mL_sA, mF_sA, mB_sA, mA_sA, mJ_sA, mP_sA, mO_sA, mN_sJ, mK_sJ, mL_sJ, mF_sJ, mB_sJ, mA_sJ, mJ_sJ, mP_sJ, mO_sJ, mN_sP, mK_sP, mL_sP, mF_sP, mB_sP, mA_sP, mJ_sP, mP_sP, mO_sP, mN_sO, mK_sO, mL_sO, mF_sO, mB_sO, mA_sO, mJ_sO, mP_sO, mO_sO, up2, if_true, if_false, eq_self, ite_true, ite_false, reduceIte, Nat.add_left_cancel_iff, Nat.add_eq_left, Nat.left_eq_add, Nat.reduceEqDiff]; done)) ?_ | refine e_getI 78 rfl dX10_forget_75 f_X10_176 (by assumption) ?_
  refine e_iconst (nI 1) 79 rfl dX10_forget_78 ic_1 ?_
  first | refine e_isubN 80 rfl dX10_forget_79 rfl rfl (by omega) ?_ | refine e_isub 80 rfl dX10_forget_79 ?_
  refine e_putI 83 rfl dX10_forget_80 f_X10_176 (by assumption) ?_
  refine e_il4 85 rfl dX10_forget_83 ?_
  refine e_is5 87 rfl dX10_forget_85 (by decide) rfl ?_
  have hF3 : Fr (fun q => q = m) μ2 (sF (sF μ2 m 1 (nI 0)) m 3 (nI (es.length - 1))) := ((Fr.rf (S := fun q => q = m)).sF rfl _ _).sF rfl _ _
  have hf3 : ∀ f, f ≠ 1 → f ≠ 3 → mF (sF (sF μ2 m 1 (nI 0)) m 3 (nI (es.length - 1))) m f = mF μ2 m f := fun f hf hf' => by show up2 (up2 _ m 1 _) m 3 _ m f = _; rw [up2_k hf', up2_k hf]
  have h13 : mF (sF (sF μ2 m 1 (nI 0)) m 3 (nI (es.length - 1))) m 1 = nI 0 := by show up2 (up2 _ m 1 _) m 3 _ m 1 = _; rw [up2_k (by decide), up2_s]
  have h33 : mF (sF (sF μ2 m 1 (nI 0)) m 3 (nI (es.length - 1))) m 3 = nI (es.length - 1) := by show up2 (up2 _ m 1 _) m 3 _ m 3 = _; rw [up2_s]
  clear e3' mk3
  generalize sF (sF μ2 m 1 (nI 0)) m 3 (nI (es.length - 1)) = μ3 at hF3 hf3 h13 h33 ⊢
  have hg3 := hM2.1.fr hF3
  have hent3 : ∀ j e, es[j]? = some e → mEnt μ3 m j e := fun j e he => by
    unfold mEnt
    rw [(hF3.2.2.2.2.2 (m + 2) (by omega)).2.2.1, (hF3.2.2.2.2.2 (m + 3) (by omega)).2.2.1, (hF3.2.2.2.2.2 (m + 4) (by omega)).2.2.1, (hF3.2.2.2.2.2 (m + 5) (by omega)).2.2.1]
    exact hbk2.2 j e he
  obtain ⟨Q, hQ⟩ : ∃ Q : Nat → Prop, Q = fun q => m + 2 ≤ q ∧ q ≤ m + 5 := ⟨_, rfl⟩
  have Q2 : Q (m + 2) := by rw [hQ]; exact ⟨by omega, by omega⟩
  have Q3 : Q (m + 3) := by rw [hQ]; exact ⟨by omega, by omega⟩
  have Q4 : Q (m + 4) := by rw [hQ]; exact ⟨by omega, by omega⟩
  have Q5 : Q (m + 5) := by rw [hQ]; exact ⟨by omega, by omega⟩
  have nQm : ¬ Q m := by rw [hQ]; omega
  have outer : ∀ (fu j : Nat), j + fu = es.length - 1 → i ≤ j → ∀ μ4 q6, Fr Q μ3 μ4 → (∀ t e, t < j → (es.eraseIdx i)[t]? = some e → mEnt μ4 m t e) → (∀ t e, j < t → es[t]? = some e → mEnt μ4 m t e) → Ev E M_X10_forget 0 0 87 [some (.ref m), some (.int (nI ld)), some (.int (nI kd)), some (.int (nI nn)), some (.int (nI i)), some (.int (nI j)), q6] [] μ4 K := by
    intro fu
    induction fu with
    | zero =>
      intro j hj' hij μ4 q6 hF4 hA hB
      have hg4 := hg3.fr hF4
      have mk4 := hg4.1
      have e34 : mF μ4 m 3 = nI (es.length - 1) := by rw [(hF4.2.2.2.2.2 m nQm).1]; exact h33
      refine e_il5 89 rfl dX10_forget_87 ?_
      refine e_al0 90 rfl dX10_forget_89 ?_
      first | refine e_getIv 93 rfl dX10_forget_90 f_X10_176 (by assumption) (by first | assumption | (simp only [mN_sF, mK_sF, mL_sF, mF_sF, mB_sF, mA_sF, mJ_sF, mP_sF, mO_sF, mN_sB, mK_sB, mL_sB, mF_sB, mB_sB, mA_sB, mJ_sB, mP_sB, mO_sB, mN_sA, mK_sA, mL_sA, mF_sA, mB_sA, mA_sA, mJ_sA, mP_sA, mO_sA, mN_sJ, mK_sJ, mL_sJ, mF_sJ, mB_sJ, mA_sJ, mJ_sJ, mP_sJ, mO_sJ, mN_sP, mK_sP, mL_sP, mF_sP, mB_sP, mA_sP, mJ_sP, mP_sP, mO_sP, mN_sO, mK_sO, mL_sO, mF_sO, mB_sO, mA_sO, mJ_sO, mP_sO, mO_sO, up2, if_true, if_false, eq_self, ite_true, ite_false, reduceIte, Nat.add_left_cancel_iff, Nat.add_eq_left, Nat.left_eq_add, Nat.reduceEqDiff]; assumption) | (simp only [mN_sF, mK_sF, mL_sF, mF_sF, mB_sF, mA_sF, mJ_sF, mP_sF, mO_sF, mN_sB, mK_sB, mL_sB, mF_sB, mB_sB, mA_sB, mJ_sB, mP_sB, mO_sB, mN_sA, mK_sA, mL_sA, mF_sA, mB_sA, mA_sA, mJ_sA, mP_sA, mO_sA, mN_sJ, mK_sJ, mL_sJ, mF_sJ, mB_sJ, mA_sJ, mJ_sJ, mP_sJ, mO_sJ, mN_sP, mK_sP, mL_sP, mF_sP, mB_sP, mA_sP, mJ_sP, mP_sP, mO_sP, mN_sO, mK_sO, mL_sO, mF_sO, mB_sO, mA_sO, mJ_sO, mP_sO, mO_sO, up2, if_true, if_false, eq_self, ite_true, ite_false, reduceIte, Nat.add_left_cancel_iff, Nat.add_eq_left, Nat.left_eq_add, Nat.reduceEqDiff]; done)) ?_ | refine e_getI 93 rfl dX10_forget_90 f_X10_176 (by assumption) ?_
      first | refine e_cmp_geN 195 96 (by decide) rfl dX10_forget_93 rfl rfl (by omega) (by omega) (fun y7 => ?_) (fun y7 => ?_) | refine e_cmp_ge 195 96 (by decide) rfl dX10_forget_93 (fun y7 => ?_) (fun y7 => ?_)
      rotate_left
      · omega
      refine e_iconst (nI 1) 196 rfl dX10_forget_195 ic_1 ?_
      refine e_zret dX10_forget_196 rfl (by first | exact z0 | exact z1 | exact bI01 _ | assumption) ?_
      obtain ⟨R, hR⟩ : ∃ R : Nat → Prop, R = fun q => q = m ∨ (m + 2 ≤ q ∧ q ≤ m + 5) := ⟨_, rfl⟩
      have hF24 : Fr R μ2 μ4 := (hF3.mono (S' := R) (fun q h => by rw [hR]; exact Or.inl h)).trans (hF4.mono (fun q h => by rw [hQ] at h; rw [hR]; exact Or.inr h))
      have nR : ∀ q, q = m + 1 ∨ m + 6 ≤ q → ¬ R q := fun q h => by rw [hR]; omega
      have hff : ∀ f, f ≠ 1 → f ≠ 3 → mF μ4 m f = mF μ2 m f := fun f a b => by rw [(hF4.2.2.2.2.2 m nQm).1]; exact hf3 f a b
      obtain ⟨h1, h2, _, h4, h5, h6, h7⟩ := id hM2
      refine k _ (f2.trans (hF24.mono (fun q h => by rw [hR] at h; omega))) ⟨h1.fr hF24, ⟨by rw [(hF4.2.2.2.2.2 m nQm).1]; exact h13, Hd.nil⟩, ⟨es.eraseIdx i, hperm, by rw [e34, hel], fun t e he => hA t e (by have := (List.getElem?_eq_some_iff.mp he).1; omega) he⟩, h4.fr hF24 (fun q a b => nR q (by omega)), ⟨by rw [hff 18 (by decide) (by decide)]; exact h5.1, by rw [hff 19 (by decide) (by decide)]; exact h5.2⟩, h6.fr hF24 (hff 20 (by decide) (by decide)) (fun q a b => nR q (by omega)), h7.fr hF24 (fun q a b => nR q (by omega))⟩
    | succ fu ih =>
      intro j hj' hij μ4 q6 hF4 hA hB
      have hg4 := hg3.fr hF4
      have mk4 := hg4.1
      have e34 : mF μ4 m 3 = nI (es.length - 1) := by rw [(hF4.2.2.2.2.2 m nQm).1]; exact h33
      obtain ⟨p1, k1, l1⟩ := hg4.eLand
      obtain ⟨p2, k2, l2⟩ := hg4.eKind
      obtain ⟨p3, k3, l3⟩ := hg4.eSize
      obtain ⟨p4, k4, l4⟩ := hg4.eWord
      obtain ⟨e, he⟩ : ∃ e, es[j + 1]? = some e := ⟨_, List.getElem?_eq_getElem (by omega)⟩
      obtain ⟨v1, v2, v3, v4⟩ := hB (j + 1) e (by omega) he
      have hew := (esW e (List.mem_of_getElem? he)).2.2.2.1
      refine e_il5 89 rfl dX10_forget_87 ?_
      refine e_al0 90 rfl dX10_forget_89 ?_
      first | refine e_getIv 93 rfl dX10_forget_90 f_X10_176 (by assumption) (by first | assumption | (simp only [mN_sF, mK_sF, mL_sF, mF_sF, mB_sF, mA_sF, mJ_sF, mP_sF, mO_sF, mN_sB, mK_sB, mL_sB, mF_sB, mB_sB, mA_sB, mJ_sB, mP_sB, mO_sB, mN_sA, mK_sA, mL_sA, mF_sA, mB_sA, mA_sA, mJ_sA, mP_sA, mO_sA, mN_sJ, mK_sJ, mL_sJ, mF_sJ, mB_sJ, mA_sJ, mJ_sJ, mP_sJ, mO_sJ, mN_sP, mK_sP, mL_sP, mF_sP, mB_sP, mA_sP, mJ_sP, mP_sP, mO_sP, mN_sO, mK_sO, mL_sO, mF_sO, mB_sO, mA_sO, mJ_sO, mP_sO, mO_sO, up2, if_true, if_false, eq_self, ite_true, ite_false, reduceIte, Nat.add_left_cancel_iff, Nat.add_eq_left, Nat.left_eq_add, Nat.reduceEqDiff]; assumption) | (simp only [mN_sF, mK_sF, mL_sF, mF_sF, mB_sF, mA_sF, mJ_sF, mP_sF, mO_sF, mN_sB, mK_sB, mL_sB, mF_sB, mB_sB, mA_sB, mJ_sB, mP_sB, mO_sB, mN_sA, mK_sA, mL_sA, mF_sA, mB_sA, mA_sA, mJ_sA, mP_sA, mO_sA, mN_sJ, mK_sJ, mL_sJ, mF_sJ, mB_sJ, mA_sJ, mJ_sJ, mP_sJ, mO_sJ, mN_sP, mK_sP, mL_sP, mF_sP, mB_sP, mA_sP, mJ_sP, mP_sP, mO_sP, mN_sO, mK_sO, mL_sO, mF_sO, mB_sO, mA_sO, mJ_sO, mP_sO, mO_sO, up2, if_true, if_false, eq_self, ite_true, ite_false, reduceIte, Nat.add_left_cancel_iff, Nat.add_eq_left, Nat.left_eq_add, Nat.reduceEqDiff]; done)) ?_ | refine e_getI 93 rfl dX10_forget_90 f_X10_176 (by assumption) ?_
      first | refine e_cmp_geN 195 96 (by decide) rfl dX10_forget_93 rfl rfl (by omega) (by omega) (fun y7 => ?_) (fun y7 => ?_) | refine e_cmp_ge 195 96 (by decide) rfl dX10_forget_93 (fun y7 => ?_) (fun y7 => ?_)
      · omega
      refine e_al0 97 rfl dX10_forget_96 ?_
      refine e_getR 100 rfl dX10_forget_97 f_X10_13 (by assumption) (by assumption) ?_
      refine e_il5 102 rfl dX10_forget_100 ?_
      refine e_al0 103 rfl dX10_forget_102 ?_
      refine e_getR 106 rfl dX10_forget_103 f_X10_13 (by assumption) (by assumption) ?_
      refine e_il5 108 rfl dX10_forget_106 ?_
      refine e_iconst (nI 1) 109 rfl dX10_forget_108 ic_1 ?_
      first | refine e_iaddN 110 rfl dX10_forget_109 rfl rfl ?_ | refine e_iadd 110 rfl dX10_forget_109 ?_
      first | refine e_ialdv 111 rfl dX10_forget_110 (by assumption) (by assumption) (by first | rfl | simp only [pk_mul, nI_add]) (by omega) (by omega) (by first | assumption | (simp only [mN_sF, mK_sF, mL_sF, mF_sF, mB_sF, mA_sF, mJ_sF, mP_sF, mO_sF, mN_sB, mK_sB, mL_sB, mF_sB, mB_sB, mA_sB, mJ_sB, mP_sB, mO_sB, mN_sA, mK_sA, mL_sA, mF_sA, mB_sA, mA_sA, mJ_sA, mP_sA, mO_sA, mN_sJ, mK_sJ, mL_sJ, mF_sJ, mB_sJ, mA_sJ, mJ_sJ, mP_sJ, mO_sJ, mN_sP, mK_sP, mL_sP, mF_sP, mB_sP, mA_sP, mJ_sP, mP_sP, mO_sP, mN_sO, mK_sO, mL_sO, mF_sO, mB_sO, mA_sO, mJ_sO, mP_sO, mO_sO, up2, if_true, if_false, eq_self, ite_true, ite_false, reduceIte, Nat.add_left_cancel_iff, Nat.add_eq_left, Nat.left_eq_add, Nat.reduceEqDiff]; assumption) | (simp only [mN_sF, mK_sF, mL_sF, mF_sF, mB_sF, mA_sF, mJ_sF, mP_sF, mO_sF, mN_sB, mK_sB, mL_sB, mF_sB, mB_sB, mA_sB, mJ_sB, mP_sB, mO_sB, mN_sA, mK_sA, mL_sA, mF_sA, mB_sA, mA_sA, mJ_sA, mP_sA, mO_sA, mN_sJ, mK_sJ, mL_sJ, mF_sJ, mB_sJ, mA_sJ, mJ_sJ, mP_sJ, mO_sJ, mN_sP, mK_sP, mL_sP, mF_sP, mB_sP, mA_sP, mJ_sP, mP_sP, mO_sP, mN_sO, mK_sO, mL_sO, mF_sO, mB_sO, mA_sO, mJ_sO, mP_sO, mO_sO, up2, if_true, if_false, eq_self, ite_true, ite_false, reduceIte, Nat.add_left_cancel_iff, Nat.add_eq_left, Nat.left_eq_add, Nat.reduceEqDiff]; done)) ?_ | refine e_iald 111 rfl dX10_forget_110 (by assumption) (by assumption) (by first | rfl | simp only [pk_mul, nI_add]) (by omega) (by omega) ?_
      refine e_iast 112 rfl dX10_forget_111 (by assumption) (by assumption) (by first | rfl | simp only [pk_mul, nI_add]) (by omega) (by omega) ?_
      have v25 : mA (sA μ4 (m + 2) j (nI e.1)) (m + 3) (j + 1) = nI e.2.1 := by show up2 _ (m + 2) _ _ (m + 3) _ = _; rw [up2_a (by omega)]; exact v2
      refine e_al0 113 rfl dX10_forget_112 ?_
      refine e_getR 116 rfl dX10_forget_113 f_X10_16 (by assumption) (by assumption) ?_
      refine e_il5 118 rfl dX10_forget_116 ?_
      refine e_al0 119 rfl dX10_forget_118 ?_
      refine e_getR 122 rfl dX10_forget_119 f_X10_16 (by assumption) (by assumption) ?_
      refine e_il5 124 rfl dX10_forget_122 ?_
      refine e_iconst (nI 1) 125 rfl dX10_forget_124 ic_1 ?_
      first | refine e_iaddN 126 rfl dX10_forget_125 rfl rfl ?_ | refine e_iadd 126 rfl dX10_forget_125 ?_
      first | refine e_ialdv 127 rfl dX10_forget_126 (by assumption) (by assumption) (by first | rfl | simp only [pk_mul, nI_add]) (by omega) (by omega) (by first | assumption | (simp only [mN_sF, mK_sF, mL_sF, mF_sF, mB_sF, mA_sF, mJ_sF, mP_sF, mO_sF, mN_sB, mK_sB, mL_sB, mF_sB, mB_sB, mA_sB, mJ_sB, mP_sB, mO_sB, mN_sA, mK_sA, mL_sA, mF_sA, mB_sA, mA_sA, mJ_sA, mP_sA, mO_sA, mN_sJ, mK_sJ, mL_sJ, mF_sJ, mB_sJ, mA_sJ, mJ_sJ, mP_sJ, mO_sJ, mN_sP, mK_sP, mL_sP, mF_sP, mB_sP, mA_sP, mJ_sP, mP_sP, mO_sP, mN_sO, mK_sO, mL_sO, mF_sO, mB_sO, mA_sO, mJ_sO, mP_sO, mO_sO, up2, if_true, if_false, eq_self, ite_true, ite_false, reduceIte, Nat.add_left_cancel_iff, Nat.add_eq_left, Nat.left_eq_add, Nat.reduceEqDiff]; assumption) | (simp only [mN_sF, mK_sF, mL_sF, mF_sF, mB_sF, mA_sF, mJ_sF, mP_sF, mO_sF, mN_sB, mK_sB, mL_sB, mF_sB, mB_sB, mA_sB, mJ_sB, mP_sB, mO_sB, mN_sA, mK_sA, mL_sA, mF_sA, mB_sA, mA_sA, mJ_sA, mP_sA, mO_sA, mN_sJ, mK_sJ, mL_sJ, mF_sJ, mB_sJ, mA_sJ, mJ_sJ, mP_sJ, mO_sJ, mN_sP, mK_sP, mL_sP, mF_sP, mB_sP, mA_sP, mJ_sP, mP_sP, mO_sP, mN_sO, mK_sO, mL_sO, mF_sO, mB_sO, mA_sO, mJ_sO, mP_sO, mO_sO, up2, if_true, if_false, eq_self, ite_true, ite_false, reduceIte, Nat.add_left_cancel_iff, Nat.add_eq_left, Nat.left_eq_add, Nat.reduceEqDiff]; done)) ?_ | refine e_iald 127 rfl dX10_forget_126 (by assumption) (by assumption) (by first | rfl | simp only [pk_mul, nI_add]) (by omega) (by omega) ?_
      refine e_iast 128 rfl dX10_forget_127 (by assumption) (by assumption) (by first | rfl | simp only [pk_mul, nI_add]) (by omega) (by omega) ?_
      have v36 : mA (sA (sA μ4 (m + 2) j (nI e.1)) (m + 3) j (nI e.2.1)) (m + 4) (j + 1) = nI e.2.2.length := by show up2 (up2 _ (m + 2) _ _) (m + 3) _ _ (m + 4) _ = _; rw [up2_a (by omega), up2_a (by omega)]; exact v3
      refine e_al0 129 rfl dX10_forget_128 ?_
      refine e_getR 132 rfl dX10_forget_129 f_X10_19 (by assumption) (by assumption) ?_
      refine e_il5 134 rfl dX10_forget_132 ?_
      refine e_al0 135 rfl dX10_forget_134 ?_
      refine e_getR 138 rfl dX10_forget_135 f_X10_19 (by assumption) (by assumption) ?_
      refine e_il5 140 rfl dX10_forget_138 ?_
      refine e_iconst (nI 1) 141 rfl dX10_forget_140 ic_1 ?_
      first | refine e_iaddN 142 rfl dX10_forget_141 rfl rfl ?_ | refine e_iadd 142 rfl dX10_forget_141 ?_
      first | refine e_ialdv 143 rfl dX10_forget_142 (by assumption) (by assumption) (by first | rfl | simp only [pk_mul, nI_add]) (by omega) (by omega) (by first | assumption | (simp only [mN_sF, mK_sF, mL_sF, mF_sF, mB_sF, mA_sF, mJ_sF, mP_sF, mO_sF, mN_sB, mK_sB, mL_sB, mF_sB, mB_sB, mA_sB, mJ_sB, mP_sB, mO_sB, mN_sA, mK_sA, mL_sA, mF_sA, mB_sA, mA_sA, mJ_sA, mP_sA, mO_sA, mN_sJ, mK_sJ, mL_sJ, mF_sJ, mB_sJ, mA_sJ, mJ_sJ, mP_sJ, mO_sJ, mN_sP, mK_sP, mL_sP, mF_sP, mB_sP, mA_sP, mJ_sP, mP_sP, mO_sP, mN_sO, mK_sO, mL_sO, mF_sO, mB_sO, mA_sO, mJ_sO, mP_sO, mO_sO, up2, if_true, if_false, eq_self, ite_true, ite_false, reduceIte, Nat.add_left_cancel_iff, Nat.add_eq_left, Nat.left_eq_add, Nat.reduceEqDiff]; assumption) | (simp only [mN_sF, mK_sF, mL_sF, mF_sF, mB_sF, mA_sF, mJ_sF, mP_sF, mO_sF, mN_sB, mK_sB, mL_sB, mF_sB, mB_sB, mA_sB, mJ_sB, mP_sB, mO_sB, mN_sA, mK_sA, mL_sA, mF_sA, mB_sA, mA_sA, mJ_sA, mP_sA, mO_sA, mN_sJ, mK_sJ, mL_sJ, mF_sJ, mB_sJ, mA_sJ, mJ_sJ, mP_sJ, mO_sJ, mN_sP, mK_sP, mL_sP, mF_sP, mB_sP, mA_sP, mJ_sP, mP_sP, mO_sP, mN_sO, mK_sO, mL_sO, mF_sO, mB_sO, mA_sO, mJ_sO, mP_sO, mO_sO, up2, if_true, if_false, eq_self, ite_true, ite_false, reduceIte, Nat.add_left_cancel_iff, Nat.add_eq_left, Nat.left_eq_add, Nat.reduceEqDiff]; done)) ?_ | refine e_iald 143 rfl dX10_forget_142 (by assumption) (by assumption) (by first | rfl | simp only [pk_mul, nI_add]) (by omega) (by omega) ?_
      refine e_iast 144 rfl dX10_forget_143 (by assumption) (by assumption) (by first | rfl | simp only [pk_mul, nI_add]) (by omega) (by omega) ?_
      refine e_iconst (nI 0) 145 rfl dX10_forget_144 ic_0 ?_
      refine e_is6 147 rfl dX10_forget_145 (by decide) rfl ?_
      have hF5 : Fr Q μ4 (sA (sA (sA μ4 (m + 2) j (nI e.1)) (m + 3) j (nI e.2.1)) (m + 4) j (nI e.2.2.length)) := (((Fr.rf (S := Q)).sA Q2 _ _).sA Q3 _ _).sA Q4 _ _
      have b2 : ∀ t, mA (sA (sA (sA μ4 (m + 2) j (nI e.1)) (m + 3) j (nI e.2.1)) (m + 4) j (nI e.2.2.length)) (m + 2) t = if t = j then nI e.1 else mA μ4 (m + 2) t := fun t => by
        show up2 (up2 (up2 _ (m + 2) _ _) (m + 3) _ _) (m + 4) _ _ (m + 2) t = _
        rw [up2_a (by omega), up2_a (by omega)]
        by_cases c : t = j
        · rw [if_pos c, c, up2_s]
        · rw [if_neg c, up2_k c]
      have b3 : ∀ t, mA (sA (sA (sA μ4 (m + 2) j (nI e.1)) (m + 3) j (nI e.2.1)) (m + 4) j (nI e.2.2.length)) (m + 3) t = if t = j then nI e.2.1 else mA μ4 (m + 3) t := fun t => by
        show up2 (up2 (up2 _ (m + 2) _ _) (m + 3) _ _) (m + 4) _ _ (m + 3) t = _
        rw [up2_a (by omega)]
        by_cases c : t = j
        · rw [if_pos c, c, up2_s]
        · rw [if_neg c, up2_k c, up2_a (by omega)]
      have b4 : ∀ t, mA (sA (sA (sA μ4 (m + 2) j (nI e.1)) (m + 3) j (nI e.2.1)) (m + 4) j (nI e.2.2.length)) (m + 4) t = if t = j then nI e.2.2.length else mA μ4 (m + 4) t := fun t => by
        show up2 (up2 (up2 _ (m + 2) _ _) (m + 3) _ _) (m + 4) _ _ (m + 4) t = _
        by_cases c : t = j
        · rw [if_pos c, c, up2_s]
        · rw [if_neg c, up2_k c, up2_a (by omega), up2_a (by omega)]
      have b5 : ∀ t, mA (sA (sA (sA μ4 (m + 2) j (nI e.1)) (m + 3) j (nI e.2.1)) (m + 4) j (nI e.2.2.length)) (m + 5) t = mA μ4 (m + 5) t := fun t => by
        show up2 (up2 (up2 _ (m + 2) _ _) (m + 3) _ _) (m + 4) _ _ (m + 5) t = _
        rw [up2_a (by omega), up2_a (by omega), up2_a (by omega)]
      clear v25 v36
      generalize sA (sA (sA μ4 (m + 2) j (nI e.1)) (m + 3) j (nI e.2.1)) (m + 4) j (nI e.2.2.length) = μ5 at hF5 b2 b3 b4 b5 ⊢
      have inner : ∀ (gu t : Nat), t + gu = 21 → ∀ μ6, Fr (fun q => q = m + 5) μ5 μ6 → (∀ u, mA μ6 (m + 5) u = if 21 * j ≤ u ∧ u < 21 * j + t then mA μ5 (m + 5) (u + 21) else mA μ5 (m + 5) u) → Ev E M_X10_forget 0 0 147 [some (.ref m), some (.int (nI ld)), some (.int (nI kd)), some (.int (nI nn)), some (.int (nI i)), some (.int (nI j)), some (.int (nI t))] [] μ6 K := by
        intro gu
        induction gu with
        | zero =>
          intro t ht μ6 hF6 hw6
          refine e_il6 149 rfl dX10_forget_147 ?_
          refine e_bipush (nI 21) 151 rfl dX10_forget_149 bc_21 ?_
          first | refine e_cmp_geN 189 154 (by decide) rfl dX10_forget_151 rfl rfl (by omega) (by omega) (fun y8 => ?_) (fun y8 => ?_) | refine e_cmp_ge 189 154 (by decide) rfl dX10_forget_151 (fun y8 => ?_) (fun y8 => ?_)
          rotate_left
          · omega
          refine e_ii5 (nI (_ + 1)) 192 rfl dX10_forget_189 (ii1 _) rfl ?_
          refine e_goto 87 (by decide) dX10_forget_192 ?_
          have et : t = 21 := by omega
          subst et
          have hF46 : Fr Q μ3 μ6 := (hF4.trans hF5).trans (hF6.mono (fun q h => by rw [h]; exact Q5))
          have c2 : ∀ t, mA μ6 (m + 2) t = mA μ5 (m + 2) t := fun t => by rw [(hF6.2.2.2.2.2 (m + 2) (by omega)).2.2.1]
          have c3 : ∀ t, mA μ6 (m + 3) t = mA μ5 (m + 3) t := fun t => by rw [(hF6.2.2.2.2.2 (m + 3) (by omega)).2.2.1]
          have c4 : ∀ t, mA μ6 (m + 4) t = mA μ5 (m + 4) t := fun t => by rw [(hF6.2.2.2.2.2 (m + 4) (by omega)).2.2.1]
          have other : ∀ t f, t ≠ j → f.2.2.length ≤ 20 → mEnt μ4 m t f → mEnt μ6 m t f := fun t f hne hf20 hm => by
            obtain ⟨r1, r2, r3, r4⟩ := hm
            refine ⟨by rw [c2, b2, if_neg hne]; exact r1, by rw [c3, b3, if_neg hne]; exact r2, by rw [c4, b4, if_neg hne]; exact r3, r4.of (fun u hu => ?_)⟩
            rw [hw6, if_neg (by omega), b5]
          refine ih (j + 1) (by omega) (by omega) μ6 _ hF46 (fun t f ht hf => ?_) (fun t f ht hf => ?_)
          · by_cases c : t = j
            · subst c
              rw [erase_get, if_neg (by omega), he] at hf
              have hf' : e = f := Option.some.inj hf
              rw [← hf']
              refine ⟨by rw [c2, b2, if_pos rfl], by rw [c3, b3, if_pos rfl], by rw [c4, b4, if_pos rfl], v4.of (fun u hu => ?_)⟩
              rw [hw6, if_pos (by omega), b5, show 21 * t + u + 21 = 21 * (t + 1) + u by omega]
            · have hf2 : f.2.2.length ≤ 20 := by
                have hm : f ∈ es := List.mem_of_mem_eraseIdx (List.mem_of_getElem? hf)
                exact (esW f hm).2.2.2.1
              exact other t f c hf2 (hA t f (by omega) hf)
          · exact other t f (by omega) (esW f (List.mem_of_getElem? hf)).2.2.2.1 (hB t f (by omega) hf)
        | succ gu iht =>
          intro t ht μ6 hF6 hw6
          have hg6 := (hg4.fr hF5).fr hF6
          have mk6 := hg6.1
          obtain ⟨p46, k46, l46⟩ := hg6.eWord
          have vv : mA μ6 (m + 5) (21 * j + 21 + t) = mA μ5 (m + 5) (21 * j + t + 21) := by rw [hw6, if_neg (by omega), show 21 * j + 21 + t = 21 * j + t + 21 by omega]
          refine e_il6 149 rfl dX10_forget_147 ?_
          refine e_bipush (nI 21) 151 rfl dX10_forget_149 bc_21 ?_
          first | refine e_cmp_geN 189 154 (by decide) rfl dX10_forget_151 rfl rfl (by omega) (by omega) (fun y8 => ?_) (fun y8 => ?_) | refine e_cmp_ge 189 154 (by decide) rfl dX10_forget_151 (fun y8 => ?_) (fun y8 => ?_)
          · omega
          refine e_al0 155 rfl dX10_forget_154 ?_
          refine e_getR 158 rfl dX10_forget_155 f_X10_22 (by assumption) (by assumption) ?_
          refine e_bipush (nI 21) 160 rfl dX10_forget_158 bc_21 ?_
          refine e_il5 162 rfl dX10_forget_160 ?_
          first | refine e_imulN 163 rfl dX10_forget_162 rfl rfl ?_ | refine e_imul 163 rfl dX10_forget_162 ?_
          refine e_il6 165 rfl dX10_forget_163 ?_
          first | refine e_iaddN 166 rfl dX10_forget_165 rfl rfl ?_ | refine e_iadd 166 rfl dX10_forget_165 ?_
          refine e_al0 167 rfl dX10_forget_166 ?_
          refine e_getR 170 rfl dX10_forget_167 f_X10_22 (by assumption) (by assumption) ?_
          refine e_bipush (nI 21) 172 rfl dX10_forget_170 bc_21 ?_
          refine e_il5 174 rfl dX10_forget_172 ?_
          first | refine e_imulN 175 rfl dX10_forget_174 rfl rfl ?_ | refine e_imul 175 rfl dX10_forget_174 ?_
          refine e_bipush (nI 21) 177 rfl dX10_forget_175 bc_21 ?_
          first | refine e_iaddN 178 rfl dX10_forget_177 rfl rfl ?_ | refine e_iadd 178 rfl dX10_forget_177 ?_
          refine e_il6 180 rfl dX10_forget_178 ?_
          first | refine e_iaddN 181 rfl dX10_forget_180 rfl rfl ?_ | refine e_iadd 181 rfl dX10_forget_180 ?_
          first | refine e_ialdv 182 rfl dX10_forget_181 (by assumption) (by assumption) (by first | rfl | simp only [pk_mul, nI_add]) (by omega) (by omega) (by first | assumption | (simp only [mN_sF, mK_sF, mL_sF, mF_sF, mB_sF, mA_sF, mJ_sF, mP_sF, mO_sF, mN_sB, mK_sB, mL_sB, mF_sB, mB_sB, mA_sB, mJ_sB, mP_sB, mO_sB, mN_sA, mK_sA, mL_sA, mF_sA, mB_sA, mA_sA, mJ_sA, mP_sA, mO_sA, mN_sJ, mK_sJ, mL_sJ, mF_sJ, mB_sJ, mA_sJ, mJ_sJ, mP_sJ, mO_sJ, mN_sP, mK_sP, mL_sP, mF_sP, mB_sP, mA_sP, mJ_sP, mP_sP, mO_sP, mN_sO, mK_sO, mL_sO, mF_sO, mB_sO, mA_sO, mJ_sO, mP_sO, mO_sO, up2, if_true, if_false, eq_self, ite_true, ite_false, reduceIte, Nat.add_left_cancel_iff, Nat.add_eq_left, Nat.left_eq_add, Nat.reduceEqDiff]; assumption) | (simp only [mN_sF, mK_sF, mL_sF, mF_sF, mB_sF, mA_sF, mJ_sF, mP_sF, mO_sF, mN_sB, mK_sB, mL_sB, mF_sB, mB_sB, mA_sB, mJ_sB, mP_sB, mO_sB, mN_sA, mK_sA, mL_sA, mF_sA, mB_sA, mA_sA, mJ_sA, mP_sA, mO_sA, mN_sJ, mK_sJ, mL_sJ, mF_sJ, mB_sJ, mA_sJ, mJ_sJ, mP_sJ, mO_sJ, mN_sP, mK_sP, mL_sP, mF_sP, mB_sP, mA_sP, mJ_sP, mP_sP, mO_sP, mN_sO, mK_sO, mL_sO, mF_sO, mB_sO, mA_sO, mJ_sO, mP_sO, mO_sO, up2, if_true, if_false, eq_self, ite_true, ite_false, reduceIte, Nat.add_left_cancel_iff, Nat.add_eq_left, Nat.left_eq_add, Nat.reduceEqDiff]; done)) ?_ | refine e_iald 182 rfl dX10_forget_181 (by assumption) (by assumption) (by first | rfl | simp only [pk_mul, nI_add]) (by omega) (by omega) ?_
          refine e_iast 183 rfl dX10_forget_182 (by assumption) (by assumption) (by first | rfl | simp only [pk_mul, nI_add]) (by omega) (by omega) ?_
          refine e_ii6 (nI (_ + 1)) 186 rfl dX10_forget_183 (ii1 _) rfl ?_
          refine e_goto 147 (by decide) dX10_forget_186 ?_
          refine iht (t + 1) (by omega) _ (hF6.sA rfl _ _) (fun u => ?_)
          show up2 _ (m + 5) _ _ (m + 5) u = _
          by_cases c : u = 21 * j + t
          · rw [c, up2_s, if_pos (by omega)]
          · rw [up2_k c, hw6]
            by_cases c2 : 21 * j ≤ u ∧ u < 21 * j + t
            · rw [if_pos c2, if_pos (by omega)]
            · rw [if_neg c2, if_neg (by omega)]
      exact inner 21 0 (by omega) μ5 Fr.rf (fun u => by rw [if_neg (by omega)])
  exact outer (es.length - 1 - i) i (by omega) (Nat.le_refl _) μ3 _ Fr.rf (fun t e ht he => by
    rw [erase_get, if_pos ht] at he
    exact hent3 t e he) (fun t e _ he => hent3 t e he)
theorem m_count {m : Nat} {S : Ast} {x : Int32} (hW : WF S) (hM : MI m S μ) (k : ∀ μ', MF m μ μ' → MI m S μ' → K (some (.int (q_count S x))) μ') : Cl E M_X10_count [.ref m, .int x] μ K := by
  have mk0 := hM.1.1
  have hM1 := hM.thr (nI 0)
  have f1 : MF m μ (sF μ m 2 (nI 0)) := MF.thr _
  refine Cl.of0 2 pn_X10 (Nat.le_of_ble_eq_true rfl) ⟨rfl, rfl⟩ rfl ?_
  refine e_al0 1 rfl dX10_count_0 ?_
  refine e_iconst (nI 0) 2 rfl dX10_count_1 ic_0 ?_
  refine e_putI 5 rfl dX10_count_2 f_X10_126 (by assumption) ?_
  refine e_iconst (nI 0) 6 rfl dX10_count_5 ic_0 ?_
  refine e_is2 7 rfl dX10_count_6 (by decide) rfl ?_
  refine e_il1 8 rfl dX10_count_7 ?_
  generalize sF μ m 2 (nI 0) = μ1 at hM1 f1 ⊢
  have k1 := k μ1 f1 hM1
  have mk := hM1.1.1
  obtain ⟨es, hes, hBk⟩ := hM1.2.2.1
  have en := hBk.1
  have nn := hM1.2.2.2.2.2.1.1
  rw [hes.length_eq] at en
  unfold q_count at k1
  rcases iN_cases x with ⟨hx, _⟩ | ⟨j, hj, hx, _⟩
  · have hx' : x.toInt < 0 := by have := Int32.lt_iff_toInt_lt.mp hx; simpa using this
    refine e_tabOut 79 dX10_count_8 (Or.inl hx') (by decide) ?_
    rw [if_neg (fun e => by rw [e] at hx; exact absurd hx (by decide)), if_neg (fun e => by rw [e] at hx; exact absurd hx (by decide)), if_neg (fun e => by rw [e] at hx; exact absurd hx (by decide))] at k1
    refine e_iconst (-1) 80 rfl dX10_count_79 ic_m1 ?_
    refine e_iret dX10_count_80 rfl ?_
    exact k1
  subst hx
  have tw := nI_toInt (n := j) hj
  have z0' : (0 : Int32) = nI 0 := rfl
  by_cases c : 2 < j
  · refine e_tabOut 79 dX10_count_8 (Or.inr (by rw [tw]; omega)) (by decide) ?_
    rw [if_neg (fun e => by rw [z0'] at e; have := (nI_eq hj (by decide)).mp e; omega), if_neg (fun e => by have := (nI_eq hj (by decide)).mp e; omega), if_neg (fun e => by have := (nI_eq hj (by decide)).mp e; omega)] at k1
    refine e_iconst (-1) 80 rfl dX10_count_79 ic_m1 ?_
    refine e_iret dX10_count_80 rfl ?_
    exact k1
  have hcase : j = 0 ∨ j = 1 ∨ j = 2 := by omega
  rcases hcase with e | e | e
  · subst e
    refine e_tabIn 36 dX10_count_8 (by rw [tw]; omega) (by rw [tw]; omega) (by rw [tw]; rfl) (by decide) ?_
    refine e_al0 37 rfl dX10_count_36 ?_
    first | refine e_getIv 40 rfl dX10_count_37 f_X10_176 (by assumption) (by first | assumption | (simp only [mN_sF, mK_sF, mL_sF, mF_sF, mB_sF, mA_sF, mJ_sF, mP_sF, mO_sF, mN_sB, mK_sB, mL_sB, mF_sB, mB_sB, mA_sB, mJ_sB, mP_sB, mO_sB, mN_sA, mK_sA, mL_sA, mF_sA, mB_sA, mA_sA, mJ_sA, mP_sA, mO_sA, mN_sJ, mK_sJ, mL_sJ, mF_sJ, mB_sJ, mA_sJ, mJ_sJ, mP_sJ, mO_sJ, mN_sP, mK_sP, mL_sP, mF_sP, mB_sP, mA_sP, mJ_sP, mP_sP, mO_sP, mN_sO, mK_sO, mL_sO, mF_sO, mB_sO, mA_sO, mJ_sO, mP_sO, mO_sO, up2, if_true, if_false, eq_self, ite_true, ite_false, reduceIte, Nat.add_left_cancel_iff, Nat.add_eq_left, Nat.left_eq_add, Nat.reduceEqDiff]; assumption) | (simp only [mN_sF, mK_sF, mL_sF, mF_sF, mB_sF, mA_sF, mJ_sF, mP_sF, mO_sF, mN_sB, mK_sB, mL_sB, mF_sB, mB_sB, mA_sB, mJ_sB, mP_sB, mO_sB, mN_sA, mK_sA, mL_sA, mF_sA, mB_sA, mA_sA, mJ_sA, mP_sA, mO_sA, mN_sJ, mK_sJ, mL_sJ, mF_sJ, mB_sJ, mA_sJ, mJ_sJ, mP_sJ, mO_sJ, mN_sP, mK_sP, mL_sP, mF_sP, mB_sP, mA_sP, mJ_sP, mP_sP, mO_sP, mN_sO, mK_sO, mL_sO, mF_sO, mB_sO, mA_sO, mJ_sO, mP_sO, mO_sO, up2, if_true, if_false, eq_self, ite_true, ite_false, reduceIte, Nat.add_left_cancel_iff, Nat.add_eq_left, Nat.left_eq_add, Nat.reduceEqDiff]; done)) ?_ | refine e_getI 40 rfl dX10_count_37 f_X10_176 (by assumption) ?_
    refine e_iret dX10_count_40 rfl ?_
    exact k1
  · subst e
    refine e_tabIn 41 dX10_count_8 (by rw [tw]; omega) (by rw [tw]; omega) (by rw [tw]; rfl) (by decide) ?_
    refine e_al0 42 rfl dX10_count_41 ?_
    first | refine e_getIv 45 rfl dX10_count_42 f_X10_189 (by assumption) (by first | assumption | (simp only [mN_sF, mK_sF, mL_sF, mF_sF, mB_sF, mA_sF, mJ_sF, mP_sF, mO_sF, mN_sB, mK_sB, mL_sB, mF_sB, mB_sB, mA_sB, mJ_sB, mP_sB, mO_sB, mN_sA, mK_sA, mL_sA, mF_sA, mB_sA, mA_sA, mJ_sA, mP_sA, mO_sA, mN_sJ, mK_sJ, mL_sJ, mF_sJ, mB_sJ, mA_sJ, mJ_sJ, mP_sJ, mO_sJ, mN_sP, mK_sP, mL_sP, mF_sP, mB_sP, mA_sP, mJ_sP, mP_sP, mO_sP, mN_sO, mK_sO, mL_sO, mF_sO, mB_sO, mA_sO, mJ_sO, mP_sO, mO_sO, up2, if_true, if_false, eq_self, ite_true, ite_false, reduceIte, Nat.add_left_cancel_iff, Nat.add_eq_left, Nat.left_eq_add, Nat.reduceEqDiff]; assumption) | (simp only [mN_sF, mK_sF, mL_sF, mF_sF, mB_sF, mA_sF, mJ_sF, mP_sF, mO_sF, mN_sB, mK_sB, mL_sB, mF_sB, mB_sB, mA_sB, mJ_sB, mP_sB, mO_sB, mN_sA, mK_sA, mL_sA, mF_sA, mB_sA, mA_sA, mJ_sA, mP_sA, mO_sA, mN_sJ, mK_sJ, mL_sJ, mF_sJ, mB_sJ, mA_sJ, mJ_sJ, mP_sJ, mO_sJ, mN_sP, mK_sP, mL_sP, mF_sP, mB_sP, mA_sP, mJ_sP, mP_sP, mO_sP, mN_sO, mK_sO, mL_sO, mF_sO, mB_sO, mA_sO, mJ_sO, mP_sO, mO_sO, up2, if_true, if_false, eq_self, ite_true, ite_false, reduceIte, Nat.add_left_cancel_iff, Nat.add_eq_left, Nat.left_eq_add, Nat.reduceEqDiff]; done)) ?_ | refine e_getI 45 rfl dX10_count_42 f_X10_189 (by assumption) ?_
    refine e_iret dX10_count_45 rfl ?_
    exact k1
  · subst e
    refine e_tabIn 46 dX10_count_8 (by rw [tw]; omega) (by rw [tw]; omega) (by rw [tw]; rfl) (by decide) ?_
    obtain ⟨ph, kh, lh⟩ := hM1.1.has
    have hsh := hM1.2.2.2.1
    refine e_iconst (nI 0) 47 rfl dX10_count_46 ic_0 ?_
    refine e_is3 48 rfl dX10_count_47 (by decide) rfl ?_
    have loop : ∀ (fu i : Nat), i + fu = 6 → Ev E M_X10_count 0 0 48 [some (.ref m), some (.int (nI 2)), some (.int (nI (shN S i))), some (.int (nI i))] [] μ1 K := by
      intro fu
      induction fu with
      | zero =>
        intro i hi
        refine e_il3 49 rfl dX10_count_48 ?_
        refine e_bipush (nI 6) 51 rfl dX10_count_49 bc_6 ?_
        first | refine e_cmp_geN 77 54 (by decide) rfl dX10_count_51 rfl rfl (by omega) (by omega) (fun y1 => ?_) (fun y1 => ?_) | refine e_cmp_ge 77 54 (by decide) rfl dX10_count_51 (fun y1 => ?_) (fun y1 => ?_)
        rotate_left
        · omega
        refine e_il2 78 rfl dX10_count_77 ?_
        refine e_iret dX10_count_78 rfl ?_
        rw [show i = 6 by omega]
        exact k1
      | succ fu ih =>
        intro i hi
        have hv := (hsh i (by omega)).1
        have es : shN S (i + 1) = shN S i + (if (aS S i).isSome then 1 else 0) := by
          unfold shN
          rw [List.range_succ, List.filter_append, List.length_append, List.filter_cons]
          cases (aS S i).isSome <;> simp
        have hn := ih (i + 1) (by omega)
        rw [es] at hn
        refine e_il3 49 rfl dX10_count_48 ?_
        refine e_bipush (nI 6) 51 rfl dX10_count_49 bc_6 ?_
        first | refine e_cmp_geN 77 54 (by decide) rfl dX10_count_51 rfl rfl (by omega) (by omega) (fun y1 => ?_) (fun y1 => ?_) | refine e_cmp_ge 77 54 (by decide) rfl dX10_count_51 (fun y1 => ?_) (fun y1 => ?_)
        · omega
        refine e_il2 55 rfl dX10_count_54 ?_
        refine e_al0 56 rfl dX10_count_55 ?_
        refine e_getR 59 rfl dX10_count_56 f_X10_25 (by assumption) (by assumption) ?_
        refine e_il3 60 rfl dX10_count_59 ?_
        first | refine e_baldv 61 rfl dX10_count_60 (by assumption) (by assumption) (by first | rfl | simp only [pk_mul, nI_add]) (by omega) (by omega) (by first | assumption | (simp only [mN_sF, mK_sF, mL_sF, mF_sF, mB_sF, mA_sF, mJ_sF, mP_sF, mO_sF, mN_sB, mK_sB, mL_sB, mF_sB, mB_sB, mA_sB, mJ_sB, mP_sB, mO_sB, mN_sA, mK_sA, mL_sA, mF_sA, mB_sA, mA_sA, mJ_sA, mP_sA, mO_sA, mN_sJ, mK_sJ, mL_sJ, mF_sJ, mB_sJ, mA_sJ, mJ_sJ, mP_sJ, mO_sJ, mN_sP, mK_sP, mL_sP, mF_sP, mB_sP, mA_sP, mJ_sP, mP_sP, mO_sP, mN_sO, mK_sO, mL_sO, mF_sO, mB_sO, mA_sO, mJ_sO, mP_sO, mO_sO, up2, if_true, if_false, eq_self, ite_true, ite_false, reduceIte, Nat.add_left_cancel_iff, Nat.add_eq_left, Nat.left_eq_add, Nat.reduceEqDiff]; assumption) | (simp only [mN_sF, mK_sF, mL_sF, mF_sF, mB_sF, mA_sF, mJ_sF, mP_sF, mO_sF, mN_sB, mK_sB, mL_sB, mF_sB, mB_sB, mA_sB, mJ_sB, mP_sB, mO_sB, mN_sA, mK_sA, mL_sA, mF_sA, mB_sA, mA_sA, mJ_sA, mP_sA, mO_sA, mN_sJ, mK_sJ, mL_sJ, mF_sJ, mB_sJ, mA_sJ, mJ_sJ, mP_sJ, mO_sJ, mN_sP, mK_sP, mL_sP, mF_sP, mB_sP, mA_sP, mJ_sP, mP_sP, mO_sP, mN_sO, mK_sO, mL_sO, mF_sO, mB_sO, mA_sO, mJ_sO, mP_sO, mO_sO, up2, if_true, if_false, eq_self, ite_true, ite_false, reduceIte, Nat.add_left_cancel_iff, Nat.add_eq_left, Nat.left_eq_add, Nat.reduceEqDiff]; done)) ?_ | refine e_zaldv 61 rfl dX10_count_60 (by assumption) (by assumption) (by first | rfl | simp only [pk_mul, nI_add]) (by omega) (by omega) (by first | assumption | (simp only [mN_sF, mK_sF, mL_sF, mF_sF, mB_sF, mA_sF, mJ_sF, mP_sF, mO_sF, mN_sB, mK_sB, mL_sB, mF_sB, mB_sB, mA_sB, mJ_sB, mP_sB, mO_sB, mN_sA, mK_sA, mL_sA, mF_sA, mB_sA, mA_sA, mJ_sA, mP_sA, mO_sA, mN_sJ, mK_sJ, mL_sJ, mF_sJ, mB_sJ, mA_sJ, mJ_sJ, mP_sJ, mO_sJ, mN_sP, mK_sP, mL_sP, mF_sP, mB_sP, mA_sP, mJ_sP, mP_sP, mO_sP, mN_sO, mK_sO, mL_sO, mF_sO, mB_sO, mA_sO, mJ_sO, mP_sO, mO_sO, up2, if_true, if_false, eq_self, ite_true, ite_false, reduceIte, Nat.add_left_cancel_iff, Nat.add_eq_left, Nat.left_eq_add, Nat.reduceEqDiff]; assumption) | (simp only [mN_sF, mK_sF, mL_sF, mF_sF, mB_sF, mA_sF, mJ_sF, mP_sF, mO_sF, mN_sB, mK_sB, mL_sB, mF_sB, mB_sB, mA_sB, mJ_sB, mP_sB, mO_sB, mN_sA, mK_sA, mL_sA, mF_sA, mB_sA, mA_sA, mJ_sA, mP_sA, mO_sA, mN_sJ, mK_sJ, mL_sJ, mF_sJ, mB_sJ, mA_sJ, mJ_sJ, mP_sJ, mO_sJ, mN_sP, mK_sP, mL_sP, mF_sP, mB_sP, mA_sP, mJ_sP, mP_sP, mO_sP, mN_sO, mK_sO, mL_sO, mF_sO, mB_sO, mA_sO, mJ_sO, mP_sO, mO_sO, up2, if_true, if_false, eq_self, ite_true, ite_false, reduceIte, Nat.add_left_cancel_iff, Nat.add_eq_left, Nat.left_eq_add, Nat.reduceEqDiff]; done)) ?_ | refine e_bald 61 rfl dX10_count_60 (by assumption) (by assumption) (by first | rfl | simp only [pk_mul, nI_add]) (by omega) (by omega) ?_ | refine e_zald 61 rfl dX10_count_60 (by assumption) (by assumption) (by first | rfl | simp only [pk_mul, nI_add]) (by omega) (by omega) ?_
        first | refine e_if_eqB 68 64 (by decide) rfl dX10_count_61 rfl (fun y2 => ?_) (fun y2 => ?_) | refine e_if_eqN 68 64 (by decide) rfl dX10_count_61 rfl (by omega) (fun y2 => ?_) (fun y2 => ?_) | refine e_if_eq 68 64 (by decide) rfl dX10_count_61 (fun y2 => ?_) (fun y2 => ?_)
        · refine e_iconst (nI 0) 69 rfl dX10_count_68 ic_0 ?_
          first | refine e_iaddN 70 rfl dX10_count_69 rfl rfl ?_ | refine e_iadd 70 rfl dX10_count_69 ?_
          refine e_is2 71 rfl dX10_count_70 (by decide) rfl ?_
          refine e_ii3 (nI (_ + 1)) 74 rfl dX10_count_71 (ii1 _) rfl ?_
          refine e_goto 48 (by decide) dX10_count_74 ?_
          rw [y2] at hn
          exact hn
        · refine e_iconst (nI 1) 65 rfl dX10_count_64 ic_1 ?_
          refine e_goto 69 (by decide) dX10_count_65 ?_
          first | refine e_iaddN 70 rfl dX10_count_69 rfl rfl ?_ | refine e_iadd 70 rfl dX10_count_69 ?_
          refine e_is2 71 rfl dX10_count_70 (by decide) rfl ?_
          refine e_ii3 (nI (_ + 1)) 74 rfl dX10_count_71 (ii1 _) rfl ?_
          refine e_goto 48 (by decide) dX10_count_74 ?_
          rw [y2] at hn
          exact hn
    exact loop 6 0 (by omega)
end MFORGET
