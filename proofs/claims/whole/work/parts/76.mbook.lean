/-! NameDeskModel: know, forget, table, count -/
section MBOOK
variable {E : En} {μ : Mm} {K : Option Value → Mm → Prop}
theorem okL_cases (x : Int32) : (x < 0 ∧ okL x = none) ∨ ∃ j, j < 2 ^ 31 ∧ x = nI j ∧ ((6 ≤ j ∧ okL x = none) ∨ (j < 6 ∧ okL x = some j)) := by
  unfold okL
  rcases iN_cases x with ⟨h, q⟩ | ⟨j, h1, h2, q⟩
  · exact Or.inl ⟨h, by rw [q]; rfl⟩
  · refine Or.inr ⟨j, h1, h2, ?_⟩
    rw [q, Option.filter_some]
    by_cases c : j < 6
    · exact Or.inr ⟨c, by rw [if_pos (by simp [c])]⟩
    · exact Or.inl ⟨by omega, by rw [if_neg (by simp [c])]⟩
theorem okH_cases (l : List Nat) (x : Int32) : (x < 0 ∧ okH l x = none) ∨ ∃ j, j < 2 ^ 31 ∧ x = nI j ∧ ((l.length < j ∧ okH l x = none) ∨ (j ≤ l.length ∧ okH l x = some j)) := by
  unfold okH
  rcases iN_cases x with ⟨h, q⟩ | ⟨j, h1, h2, q⟩
  · exact Or.inl ⟨h, by rw [q]; rfl⟩
  · refine Or.inr ⟨j, h1, h2, ?_⟩
    rw [q, Option.filter_some]
    by_cases c : j ≤ l.length
    · exact Or.inr ⟨c, by rw [if_pos (by simp [c])]⟩
    · exact Or.inl ⟨by omega, by rw [if_neg (by simp [c])]⟩
theorem okT_cases (x : Int32) : (x < 0 ∧ okT x = none) ∨ ∃ j, j < 2 ^ 31 ∧ x = nI j ∧ ((26 ≤ j ∧ okT x = none) ∨ (j < 26 ∧ okT x = some j)) := by
  unfold okT
  rcases iN_cases x with ⟨h, q⟩ | ⟨j, h1, h2, q⟩
  · exact Or.inl ⟨h, by rw [q]; rfl⟩
  · refine Or.inr ⟨j, h1, h2, ?_⟩
    rw [q, Option.filter_some]
    by_cases c : j < 26
    · exact Or.inr ⟨c, by rw [if_pos (by simp [c])]⟩
    · exact Or.inl ⟨by omega, by rw [if_neg (by simp [c])]⟩
theorem mTp.tx {m : Nat} {T : List Nat} (h : mTp μ m T) (hc : ∀ c ∈ T, c < 256) : ∃ tx : Nat → Nat, (∀ i, i < T.length → mA μ (m + 1) i = nI (tx i) ∧ tx i < 256) ∧ ∀ e, e ≤ T.length → seg tx 0 e = T.take e := by
  refine ⟨fun i => if hi : i < T.length then T[i] else 0, fun i hi => ?_, fun e he => ?_⟩
  · simp only [hi, dif_pos]
    exact ⟨h.2.at hi, hc _ (List.getElem_mem hi)⟩
  · refine List.ext_getElem? (fun i => ?_)
    by_cases c : i < e
    · rw [seg_get _ (by omega), List.getElem?_take_of_lt c, List.getElem?_eq_getElem (by omega)]
      simp only [Nat.zero_add]
      rw [dif_pos (by omega)]
    · rw [List.getElem?_eq_none (by rw [seg_len]; omega), List.getElem?_eq_none (by rw [List.length_take]; omega)]
theorem entQ_none_L {l : List Nat} {x y n : Int32} (h : okL x = none) : entQ l x y n = none := by unfold entQ; rw [h]
theorem entQ_none_K {l : List Nat} {x y n : Int32} (h : okK y = none) : entQ l x y n = none := by unfold entQ; rw [h]; cases okL x <;> rfl
theorem entQ_none_H {l : List Nat} {x y n : Int32} (h : okH l n = none) : entQ l x y n = none := by unfold entQ; rw [h]; cases okL x <;> cases okK y <;> rfl
def mEnt (μ : Mm) (m i : Nat) (e : Ent) : Prop := mA μ (m + 2) i = nI e.1 ∧ mA μ (m + 3) i = nI e.2.1 ∧ mA μ (m + 4) i = nI e.2.2.length ∧ Hd (fun j => mA μ (m + 5) (21 * i + j)) e.2.2
theorem WF.es {S : Ast} (hW : WF S) {es : List Ent} (he : es.Perm (aB S)) : es.length ≤ 80 ∧ es.Nodup ∧ ∀ e ∈ es, wfE e := ⟨by rw [he.length_eq]; exact hW.2.2.1.1, he.nodup_iff.mpr hW.2.2.1.2.1, fun e h => hW.2.2.1.2.2 e (he.mem_iff.mp h)⟩
/-- an int of a call that a land, or so, is not -/
theorem m_know {m : Nat} {S : Ast} {x y n : Int32} (hW : WF S) (hM : MI m S μ) (k : ∀ μ', MF m μ μ' → MI m (q_know S x y n).2 μ' → K (some (.int (q_know S x y n).1)) μ') : Cl E M_X10_know [.ref m, .int x, .int y, .int n] μ K := by
  have mk0 := hM.1.1
  have fail : entQ (aT S) x y n = none → ∀ μ2, MF m μ μ2 → MI m S μ2 → K (some (.int (-1))) μ2 := fun h μ2 h1 h2 => by
    unfold q_know at k
    rw [h] at k
    exact k μ2 h1 h2
  have hM1 := hM.thr (nI 0)
  have f1 : MF m μ (sF μ m 2 (nI 0)) := MF.thr _
  refine Cl.of0 1 pn_X10 (Nat.le_of_ble_eq_true rfl) ⟨rfl, rfl⟩ rfl ?_
  refine e_al0 1 rfl dX10_know_0 ?_
  refine e_iconst (nI 0) 2 rfl dX10_know_1 ic_0 ?_
  refine e_putI 5 rfl dX10_know_2 f_X10_126 (by assumption) ?_
  generalize sF μ m 2 (nI 0) = μ1 at hM1 f1 ⊢
  have mk := hM1.1.1
  have t1 := hM1.2.1.1
  obtain ⟨es, hes, hBk⟩ := hM1.2.2.1
  obtain ⟨es80, esN, esW⟩ := hW.es hes
  have h400 := hW.1.1
  have en := hBk.1
  rcases okL_cases x with ⟨hx, qx⟩ | ⟨ld, hl31, hx, ⟨hl, qx⟩ | ⟨hl, qx⟩⟩
  · refine e_il1 6 rfl dX10_know_5 ?_
    refine e_if_lt 69 9 (by decide) rfl dX10_know_6 (fun y1 => ?_) (fun y1 => ?_)
    · refine e_iconst (-1) 70 rfl dX10_know_69 ic_m1 ?_
      refine e_iret dX10_know_70 rfl ?_
      exact fail (entQ_none_L qx) μ1 f1 hM1
    · exact absurd hx y1
  · subst hx
    refine e_il1 6 rfl dX10_know_5 ?_
    first | refine e_if_ltN 69 9 (by decide) rfl dX10_know_6 rfl (by omega) ?_ | refine e_if_lt 69 9 (by decide) rfl dX10_know_6 (fun h => ?_) (fun h => ?_)
    refine e_il1 10 rfl dX10_know_9 ?_
    refine e_iconst (nI 5) 11 rfl dX10_know_10 ic_5 ?_
    first | refine e_cmp_gtN 69 14 (by decide) rfl dX10_know_11 rfl rfl (by omega) (by omega) (fun y1 => ?_) (fun y1 => ?_) | refine e_cmp_gt 69 14 (by decide) rfl dX10_know_11 (fun y1 => ?_) (fun y1 => ?_)
    · refine e_iconst (-1) 70 rfl dX10_know_69 ic_m1 ?_
      refine e_iret dX10_know_70 rfl ?_
      exact fail (entQ_none_L qx) μ1 f1 hM1
    · omega
  subst hx
  refine e_il1 6 rfl dX10_know_5 ?_
  first | refine e_if_ltN 69 9 (by decide) rfl dX10_know_6 rfl (by omega) ?_ | refine e_if_lt 69 9 (by decide) rfl dX10_know_6 (fun h => ?_) (fun h => ?_)
  refine e_il1 10 rfl dX10_know_9 ?_
  refine e_iconst (nI 5) 11 rfl dX10_know_10 ic_5 ?_
  first | refine e_cmp_gtN 69 14 (by decide) rfl dX10_know_11 rfl rfl (by omega) (by omega) (fun y1 => ?_) (fun y1 => ?_) | refine e_cmp_gt 69 14 (by decide) rfl dX10_know_11 (fun y1 => ?_) (fun y1 => ?_)
  · omega
  refine e_il2 15 rfl dX10_know_14 ?_
  refine e_invS0 [_] 18 rfl dX10_know_15 k_X10_179 mo_X10_isKept rm_X10_know_X10_isKept ⟨rfl, rfl⟩ rfl rfl (Nat.le_of_ble_eq_true rfl) ?_
  refine c_mIsKept ?_
  cases eK : okK y with
  | none =>
    first | refine e_if_eqB 69 21 (by decide) rfl dX10_know_18 rfl (fun y2 => ?_) (fun y2 => ?_) | refine e_if_eqN 69 21 (by decide) rfl dX10_know_18 rfl (by omega) (fun y2 => ?_) (fun y2 => ?_) | refine e_if_eq 69 21 (by decide) rfl dX10_know_18 (fun y2 => ?_) (fun y2 => ?_)
    · refine e_iconst (-1) 70 rfl dX10_know_69 ic_m1 ?_
      refine e_iret dX10_know_70 rfl ?_
      exact fail (entQ_none_K eK) μ1 f1 hM1
    · cases y2
  | some kd =>
  obtain ⟨hk5, hy⟩ := okK_some eK
  subst hy
  first | refine e_if_eqB 69 21 (by decide) rfl dX10_know_18 rfl (fun y2 => ?_) (fun y2 => ?_) | refine e_if_eqN 69 21 (by decide) rfl dX10_know_18 rfl (by omega) (fun y2 => ?_) (fun y2 => ?_) | refine e_if_eq 69 21 (by decide) rfl dX10_know_18 (fun y2 => ?_) (fun y2 => ?_)
  · cases y2
  rcases okH_cases (aT S) n with ⟨hn, qn⟩ | ⟨nn, hn31, hn, ⟨hh, qn⟩ | ⟨hh, qn⟩⟩
  · refine e_il3 22 rfl dX10_know_21 ?_
    refine e_if_lt 69 25 (by decide) rfl dX10_know_22 (fun y3 => ?_) (fun y3 => ?_)
    · refine e_iconst (-1) 70 rfl dX10_know_69 ic_m1 ?_
      refine e_iret dX10_know_70 rfl ?_
      exact fail (entQ_none_H qn) μ1 f1 hM1
    · exact absurd hn y3
  · subst hn
    refine e_il3 22 rfl dX10_know_21 ?_
    first | refine e_if_ltN 69 25 (by decide) rfl dX10_know_22 rfl (by omega) ?_ | refine e_if_lt 69 25 (by decide) rfl dX10_know_22 (fun h => ?_) (fun h => ?_)
    refine e_il3 26 rfl dX10_know_25 ?_
    refine e_al0 27 rfl dX10_know_26 ?_
    first | refine e_getIv 30 rfl dX10_know_27 f_X10_129 (by assumption) (by first | assumption | (simp only [mN_sF, mK_sF, mL_sF, mF_sF, mB_sF, mA_sF, mJ_sF, mP_sF, mO_sF, mN_sB, mK_sB, mL_sB, mF_sB, mB_sB, mA_sB, mJ_sB, mP_sB, mO_sB, mN_sA, mK_sA, mL_sA, mF_sA, mB_sA, mA_sA, mJ_sA, mP_sA, mO_sA, mN_sJ, mK_sJ, mL_sJ, mF_sJ, mB_sJ, mA_sJ, mJ_sJ, mP_sJ, mO_sJ, mN_sP, mK_sP, mL_sP, mF_sP, mB_sP, mA_sP, mJ_sP, mP_sP, mO_sP, mN_sO, mK_sO, mL_sO, mF_sO, mB_sO, mA_sO, mJ_sO, mP_sO, mO_sO, up2, if_true, if_false, eq_self, ite_true, ite_false, reduceIte, Nat.add_left_cancel_iff, Nat.add_eq_left, Nat.left_eq_add, Nat.reduceEqDiff]; assumption) | (simp only [mN_sF, mK_sF, mL_sF, mF_sF, mB_sF, mA_sF, mJ_sF, mP_sF, mO_sF, mN_sB, mK_sB, mL_sB, mF_sB, mB_sB, mA_sB, mJ_sB, mP_sB, mO_sB, mN_sA, mK_sA, mL_sA, mF_sA, mB_sA, mA_sA, mJ_sA, mP_sA, mO_sA, mN_sJ, mK_sJ, mL_sJ, mF_sJ, mB_sJ, mA_sJ, mJ_sJ, mP_sJ, mO_sJ, mN_sP, mK_sP, mL_sP, mF_sP, mB_sP, mA_sP, mJ_sP, mP_sP, mO_sP, mN_sO, mK_sO, mL_sO, mF_sO, mB_sO, mA_sO, mJ_sO, mP_sO, mO_sO, up2, if_true, if_false, eq_self, ite_true, ite_false, reduceIte, Nat.add_left_cancel_iff, Nat.add_eq_left, Nat.left_eq_add, Nat.reduceEqDiff]; done)) ?_ | refine e_getI 30 rfl dX10_know_27 f_X10_129 (by assumption) ?_
    first | refine e_cmp_gtN 69 33 (by decide) rfl dX10_know_30 rfl rfl (by omega) (by omega) (fun y3 => ?_) (fun y3 => ?_) | refine e_cmp_gt 69 33 (by decide) rfl dX10_know_30 (fun y3 => ?_) (fun y3 => ?_)
    · refine e_iconst (-1) 70 rfl dX10_know_69 ic_m1 ?_
      refine e_iret dX10_know_70 rfl ?_
      exact fail (entQ_none_H qn) μ1 f1 hM1
    · omega
  subst hn
  refine e_il3 22 rfl dX10_know_21 ?_
  first | refine e_if_ltN 69 25 (by decide) rfl dX10_know_22 rfl (by omega) ?_ | refine e_if_lt 69 25 (by decide) rfl dX10_know_22 (fun h => ?_) (fun h => ?_)
  refine e_il3 26 rfl dX10_know_25 ?_
  refine e_al0 27 rfl dX10_know_26 ?_
  first | refine e_getIv 30 rfl dX10_know_27 f_X10_129 (by assumption) (by first | assumption | (simp only [mN_sF, mK_sF, mL_sF, mF_sF, mB_sF, mA_sF, mJ_sF, mP_sF, mO_sF, mN_sB, mK_sB, mL_sB, mF_sB, mB_sB, mA_sB, mJ_sB, mP_sB, mO_sB, mN_sA, mK_sA, mL_sA, mF_sA, mB_sA, mA_sA, mJ_sA, mP_sA, mO_sA, mN_sJ, mK_sJ, mL_sJ, mF_sJ, mB_sJ, mA_sJ, mJ_sJ, mP_sJ, mO_sJ, mN_sP, mK_sP, mL_sP, mF_sP, mB_sP, mA_sP, mJ_sP, mP_sP, mO_sP, mN_sO, mK_sO, mL_sO, mF_sO, mB_sO, mA_sO, mJ_sO, mP_sO, mO_sO, up2, if_true, if_false, eq_self, ite_true, ite_false, reduceIte, Nat.add_left_cancel_iff, Nat.add_eq_left, Nat.left_eq_add, Nat.reduceEqDiff]; assumption) | (simp only [mN_sF, mK_sF, mL_sF, mF_sF, mB_sF, mA_sF, mJ_sF, mP_sF, mO_sF, mN_sB, mK_sB, mL_sB, mF_sB, mB_sB, mA_sB, mJ_sB, mP_sB, mO_sB, mN_sA, mK_sA, mL_sA, mF_sA, mB_sA, mA_sA, mJ_sA, mP_sA, mO_sA, mN_sJ, mK_sJ, mL_sJ, mF_sJ, mB_sJ, mA_sJ, mJ_sJ, mP_sJ, mO_sJ, mN_sP, mK_sP, mL_sP, mF_sP, mB_sP, mA_sP, mJ_sP, mP_sP, mO_sP, mN_sO, mK_sO, mL_sO, mF_sO, mB_sO, mA_sO, mJ_sO, mP_sO, mO_sO, up2, if_true, if_false, eq_self, ite_true, ite_false, reduceIte, Nat.add_left_cancel_iff, Nat.add_eq_left, Nat.left_eq_add, Nat.reduceEqDiff]; done)) ?_ | refine e_getI 30 rfl dX10_know_27 f_X10_129 (by assumption) ?_
  first | refine e_cmp_gtN 69 33 (by decide) rfl dX10_know_30 rfl rfl (by omega) (by omega) (fun y3 => ?_) (fun y3 => ?_) | refine e_cmp_gt 69 33 (by decide) rfl dX10_know_30 (fun y3 => ?_) (fun y3 => ?_)
  · omega
  have eQ : entQ (aT S) (nI ld) (nI kd) (nI nn) = if isWordL ((aT S).take nn) = true then some (ld, kd, foldL ((aT S).take nn)) else none := by unfold entQ; rw [qx, eK, qn]
  have hlen := hes.length_eq
  refine e_al0 34 rfl dX10_know_33 ?_
  first | refine e_getIv 37 rfl dX10_know_34 f_X10_176 (by assumption) (by first | assumption | (simp only [mN_sF, mK_sF, mL_sF, mF_sF, mB_sF, mA_sF, mJ_sF, mP_sF, mO_sF, mN_sB, mK_sB, mL_sB, mF_sB, mB_sB, mA_sB, mJ_sB, mP_sB, mO_sB, mN_sA, mK_sA, mL_sA, mF_sA, mB_sA, mA_sA, mJ_sA, mP_sA, mO_sA, mN_sJ, mK_sJ, mL_sJ, mF_sJ, mB_sJ, mA_sJ, mJ_sJ, mP_sJ, mO_sJ, mN_sP, mK_sP, mL_sP, mF_sP, mB_sP, mA_sP, mJ_sP, mP_sP, mO_sP, mN_sO, mK_sO, mL_sO, mF_sO, mB_sO, mA_sO, mJ_sO, mP_sO, mO_sO, up2, if_true, if_false, eq_self, ite_true, ite_false, reduceIte, Nat.add_left_cancel_iff, Nat.add_eq_left, Nat.left_eq_add, Nat.reduceEqDiff]; assumption) | (simp only [mN_sF, mK_sF, mL_sF, mF_sF, mB_sF, mA_sF, mJ_sF, mP_sF, mO_sF, mN_sB, mK_sB, mL_sB, mF_sB, mB_sB, mA_sB, mJ_sB, mP_sB, mO_sB, mN_sA, mK_sA, mL_sA, mF_sA, mB_sA, mA_sA, mJ_sA, mP_sA, mO_sA, mN_sJ, mK_sJ, mL_sJ, mF_sJ, mB_sJ, mA_sJ, mJ_sJ, mP_sJ, mO_sJ, mN_sP, mK_sP, mL_sP, mF_sP, mB_sP, mA_sP, mJ_sP, mP_sP, mO_sP, mN_sO, mK_sO, mL_sO, mF_sO, mB_sO, mA_sO, mJ_sO, mP_sO, mO_sO, up2, if_true, if_false, eq_self, ite_true, ite_false, reduceIte, Nat.add_left_cancel_iff, Nat.add_eq_left, Nat.left_eq_add, Nat.reduceEqDiff]; done)) ?_ | refine e_getI 37 rfl dX10_know_34 f_X10_176 (by assumption) ?_
  refine e_bipush (nI 80) 39 rfl dX10_know_37 bc_80 ?_
  first | refine e_cmp_eqN 69 42 (by decide) rfl dX10_know_39 rfl rfl (by omega) (by omega) (fun y4 => ?_) (fun y4 => ?_) | refine e_cmp_eq 69 42 (by decide) rfl dX10_know_39 (fun y4 => ?_) (fun y4 => ?_)
  · have hf : K (some (.int (-1))) μ1 := by
      by_cases hw : isWordL ((aT S).take nn) = true
      · unfold q_know at k
        rw [eQ, if_pos hw] at k
        simp only [] at k
        rw [if_neg (fun q => by omega)] at k
        exact k μ1 f1 hM1
      · exact fail (by rw [eQ, if_neg hw]) μ1 f1 hM1
    refine e_iconst (-1) 70 rfl dX10_know_69 ic_m1 ?_
    refine e_iret dX10_know_70 rfl ?_
    exact hf
  obtain ⟨tx, htx, hseg⟩ := hM1.2.1.tx hW.1.2
  refine e_al0 43 rfl dX10_know_42 ?_
  refine e_iconst (nI 0) 44 rfl dX10_know_43 ic_0 ?_
  refine e_il3 45 rfl dX10_know_44 ?_
  refine e_invV0 [_, _] 48 rfl dX10_know_45 k_X10_182 mo_X10_isWord rm_X10_know_X10_isWord ⟨rfl, rfl⟩ rfl rfl (by assumption) (Nat.le_of_ble_eq_true rfl) ?_
  refine c_mIsWord (tx := tx) hM1.1 (Nat.zero_le _) (by omega) (fun i hi => htx i (by omega)) (fun hno μ2 hF2 hf2 => ?_) (fun hok μ2 hF2 hf2 h39 hH2 => ?_)
  · rw [hseg nn hh] at hno
    have hFq : Fr (mQ m) μ1 μ2 := hF2.mono (fun q a => by unfold iwQ at a; unfold mQ; omega)
    first | refine e_if_eqB 69 51 (by decide) rfl dX10_know_48 rfl (fun y5 => ?_) (fun y5 => ?_) | refine e_if_eqN 69 51 (by decide) rfl dX10_know_48 rfl (by omega) (fun y5 => ?_) (fun y5 => ?_) | refine e_if_eq 69 51 (by decide) rfl dX10_know_48 (fun y5 => ?_) (fun y5 => ?_)
    rotate_left
    · exact absurd y5 (by decide)
    refine e_iconst (-1) 70 rfl dX10_know_69 ic_m1 ?_
    refine e_iret dX10_know_70 rfl ?_
    exact fail (by rw [eQ, if_neg (by rw [hno]; decide)]) μ2 (f1.trans (mQ_MF hFq)) (hM1.scr hFq (fun f hf => hf2 f (by omega)))
  rw [hseg nn hh] at hok h39 hH2
  rw [if_pos hok] at eQ
  have hFq : Fr (mQ m) μ1 μ2 := hF2.mono (fun q a => by unfold iwQ at a; unfold mQ; omega)
  have hM2 : MI m S μ2 := hM1.scr hFq (fun f hf => hf2 f (by omega))
  have f2 : MF m μ μ2 := f1.trans (mQ_MF hFq)
  have hww := wordL hok
  have hbk2 : mBk μ2 m es := hBk.fr hF2 (hf2 3 (by decide)) (fun q a b => by unfold iwQ; omega)
  have mk2 := hM2.1.1
  obtain ⟨pf, kf, lf⟩ := hM2.1.folded
  first | refine e_if_eqB 69 51 (by decide) rfl dX10_know_48 rfl (fun y5 => ?_) (fun y5 => ?_) | refine e_if_eqN 69 51 (by decide) rfl dX10_know_48 rfl (by omega) (fun y5 => ?_) (fun y5 => ?_) | refine e_if_eq 69 51 (by decide) rfl dX10_know_48 (fun y5 => ?_) (fun y5 => ?_)
  · exact absurd y5 (by decide)
  obtain ⟨w, hw⟩ : ∃ w, w = foldL ((aT S).take nn) := ⟨_, rfl⟩
  have hwr : ∀ c ∈ w, 97 ≤ c ∧ c ≤ 122 := by rw [hw]; exact foldL_r
  rw [← hw] at eQ h39 hH2 hww
  unfold q_know at k
  rw [eQ] at k
  simp only [] at k
  refine e_al0 52 rfl dX10_know_51 ?_
  refine e_il1 53 rfl dX10_know_52 ?_
  refine e_il2 54 rfl dX10_know_53 ?_
  refine e_al0 55 rfl dX10_know_54 ?_
  refine e_getR 58 rfl dX10_know_55 f_X10_99 (by assumption) (by assumption) ?_
  refine e_iconst (nI 0) 59 rfl dX10_know_58 ic_0 ?_
  refine e_al0 60 rfl dX10_know_59 ?_
  first | refine e_getIv 63 rfl dX10_know_60 f_X10_173 (by assumption) (by first | assumption | (simp only [mN_sF, mK_sF, mL_sF, mF_sF, mB_sF, mA_sF, mJ_sF, mP_sF, mO_sF, mN_sB, mK_sB, mL_sB, mF_sB, mB_sB, mA_sB, mJ_sB, mP_sB, mO_sB, mN_sA, mK_sA, mL_sA, mF_sA, mB_sA, mA_sA, mJ_sA, mP_sA, mO_sA, mN_sJ, mK_sJ, mL_sJ, mF_sJ, mB_sJ, mA_sJ, mJ_sJ, mP_sJ, mO_sJ, mN_sP, mK_sP, mL_sP, mF_sP, mB_sP, mA_sP, mJ_sP, mP_sP, mO_sP, mN_sO, mK_sO, mL_sO, mF_sO, mB_sO, mA_sO, mJ_sO, mP_sO, mO_sO, up2, if_true, if_false, eq_self, ite_true, ite_false, reduceIte, Nat.add_left_cancel_iff, Nat.add_eq_left, Nat.left_eq_add, Nat.reduceEqDiff]; assumption) | (simp only [mN_sF, mK_sF, mL_sF, mF_sF, mB_sF, mA_sF, mJ_sF, mP_sF, mO_sF, mN_sB, mK_sB, mL_sB, mF_sB, mB_sB, mA_sB, mJ_sB, mP_sB, mO_sB, mN_sA, mK_sA, mL_sA, mF_sA, mB_sA, mA_sA, mJ_sA, mP_sA, mO_sA, mN_sJ, mK_sJ, mL_sJ, mF_sJ, mB_sJ, mA_sJ, mJ_sJ, mP_sJ, mO_sJ, mN_sP, mK_sP, mL_sP, mF_sP, mB_sP, mA_sP, mJ_sP, mP_sP, mO_sP, mN_sO, mK_sO, mL_sO, mF_sO, mB_sO, mA_sO, mJ_sO, mP_sO, mO_sO, up2, if_true, if_false, eq_self, ite_true, ite_false, reduceIte, Nat.add_left_cancel_iff, Nat.add_eq_left, Nat.left_eq_add, Nat.reduceEqDiff]; done)) ?_ | refine e_getI 63 rfl dX10_know_60 f_X10_173 (by assumption) ?_
  refine e_invV0 [_, _, _, _, _] 66 rfl dX10_know_63 k_X10_185 mo_X10_entry rm_X10_know_X10_entry ⟨rfl, rfl⟩ rfl rfl (by assumption) (Nat.le_of_ble_eq_true rfl) ?_
  refine c_mEntry (at0 := 0) hM2.1 hbk2 ⟨es80, esW⟩ kf lf (by decide) (by omega) (hH2.of (fun i _ => by rw [Nat.zero_add])) (fun c hc => by have := hwr c hc; omega) (by omega) hl hk5 (fun hnin => ?_) (fun i hi hfst => ?_)
  rotate_left
  · have hi80 := (List.getElem?_eq_some_iff.mp hi).1
    rw [if_neg (fun q => q.2 (hes.mem_iff.mp (List.mem_of_getElem? hi)))] at k
    first | refine e_if_ltN 71 69 (by decide) rfl dX10_know_66 rfl (by omega) ?_ | refine e_if_lt 71 69 (by decide) rfl dX10_know_66 (fun y6 => ?_) (fun y6 => ?_)
    refine e_iconst (-1) 70 rfl dX10_know_69 ic_m1 ?_
    refine e_iret dX10_know_70 rfl ?_
    exact k μ2 f2 hM2
  rw [if_pos ⟨by omega, fun q => hnin (hes.mem_iff.mpr q)⟩, ← hlen] at k
  refine e_if_lt 71 69 (by decide) rfl dX10_know_66 (fun y6 => ?_) (fun y6 => ?_)
  rotate_left
  · exact absurd (by decide) y6
  have mk3 : mK (sF μ2 m 1 (nI 0)) m = 11 := mk2
  refine e_al0 72 rfl dX10_know_71 ?_
  refine e_iconst (nI 0) 73 rfl dX10_know_72 ic_0 ?_
  refine e_putI 76 rfl dX10_know_73 f_X10_129 (by assumption) ?_
  have hF3 : Fr (fun q => q = m) μ2 (sF μ2 m 1 (nI 0)) := (Fr.rf (S := fun q => q = m)).sF rfl _ _
  have hf3 : ∀ f, f ≠ 1 → mF (sF μ2 m 1 (nI 0)) m f = mF μ2 m f := fun f hf => by show up2 _ m 1 _ m f = _; rw [up2_k hf]
  have h13 : mF (sF μ2 m 1 (nI 0)) m 1 = nI 0 := by simp only [mN_sF, mK_sF, mL_sF, mF_sF, mB_sF, mA_sF, mJ_sF, mP_sF, mO_sF, mN_sB, mK_sB, mL_sB, mF_sB, mB_sB, mA_sB, mJ_sB, mP_sB, mO_sB, mN_sA, mK_sA, mL_sA, mF_sA, mB_sA, mA_sA, mJ_sA, mP_sA, mO_sA, mN_sJ, mK_sJ, mL_sJ, mF_sJ, mB_sJ, mA_sJ, mJ_sJ, mP_sJ, mO_sJ, mN_sP, mK_sP, mL_sP, mF_sP, mB_sP, mA_sP, mJ_sP, mP_sP, mO_sP, mN_sO, mK_sO, mL_sO, mF_sO, mB_sO, mA_sO, mJ_sO, mP_sO, mO_sO, up2, if_true, if_false, eq_self, ite_true, ite_false, reduceIte, Nat.add_left_cancel_iff, Nat.add_eq_left, Nat.left_eq_add, Nat.reduceEqDiff]
  generalize sF μ2 m 1 (nI 0) = μ3 at mk3 hF3 hf3 h13 ⊢
  have hg3 := hM2.1.fr hF3
  obtain ⟨p1, k1, l1⟩ := hg3.eLand
  obtain ⟨p2, k2, l2⟩ := hg3.eKind
  obtain ⟨p3, k3, l3⟩ := hg3.eSize
  obtain ⟨p4, k4, l4⟩ := hg3.eWord
  obtain ⟨p5, k5, l5⟩ := hg3.folded
  have e3 : mF μ3 m 3 = nI es.length := by rw [hf3 3 (by decide), hf2 3 (by decide)]; exact en
  have e39 : mF μ3 m 39 = nI w.length := by rw [hf3 39 (by decide)]; exact h39
  have hH3 : Hd (mA μ3 (m + 29)) w := by rw [(hF3.2.2.2.2.2 (m + 29) (by omega)).2.2.1]; exact hH2
  refine e_al0 77 rfl dX10_know_76 ?_
  refine e_getR 80 rfl dX10_know_77 f_X10_13 (by assumption) (by assumption) ?_
  refine e_al0 81 rfl dX10_know_80 ?_
  first | refine e_getIv 84 rfl dX10_know_81 f_X10_176 (by assumption) (by first | assumption | (simp only [mN_sF, mK_sF, mL_sF, mF_sF, mB_sF, mA_sF, mJ_sF, mP_sF, mO_sF, mN_sB, mK_sB, mL_sB, mF_sB, mB_sB, mA_sB, mJ_sB, mP_sB, mO_sB, mN_sA, mK_sA, mL_sA, mF_sA, mB_sA, mA_sA, mJ_sA, mP_sA, mO_sA, mN_sJ, mK_sJ, mL_sJ, mF_sJ, mB_sJ, mA_sJ, mJ_sJ, mP_sJ, mO_sJ, mN_sP, mK_sP, mL_sP, mF_sP, mB_sP, mA_sP, mJ_sP, mP_sP, mO_sP, mN_sO, mK_sO, mL_sO, mF_sO, mB_sO, mA_sO, mJ_sO, mP_sO, mO_sO, up2, if_true, if_false, eq_self, ite_true, ite_false, reduceIte, Nat.add_left_cancel_iff, Nat.add_eq_left, Nat.left_eq_add, Nat.reduceEqDiff]; assumption) | (simp only [mN_sF, mK_sF, mL_sF, mF_sF, mB_sF, mA_sF, mJ_sF, mP_sF, mO_sF, mN_sB, mK_sB, mL_sB, mF_sB, mB_sB, mA_sB, mJ_sB, mP_sB, mO_sB, mN_sA, mK_sA, mL_sA, mF_sA, mB_sA, mA_sA, mJ_sA, mP_sA, mO_sA, mN_sJ, mK_sJ, mL_sJ, mF_sJ, mB_sJ, mA_sJ, mJ_sJ, mP_sJ, mO_sJ, mN_sP, mK_sP, mL_sP, mF_sP, mB_sP, mA_sP, mJ_sP, mP_sP, mO_sP, mN_sO, mK_sO, mL_sO, mF_sO, mB_sO, mA_sO, mJ_sO, mP_sO, mO_sO, up2, if_true, if_false, eq_self, ite_true, ite_false, reduceIte, Nat.add_left_cancel_iff, Nat.add_eq_left, Nat.left_eq_add, Nat.reduceEqDiff]; done)) ?_ | refine e_getI 84 rfl dX10_know_81 f_X10_176 (by assumption) ?_
  refine e_il1 85 rfl dX10_know_84 ?_
  refine e_iast 86 rfl dX10_know_85 (by assumption) (by assumption) (by first | rfl | simp only [pk_mul, nI_add]) (by omega) (by omega) ?_
  have e33 : mF (sA μ3 (m + 2) es.length (nI ld)) m 3 = nI es.length := e3
  refine e_al0 87 rfl dX10_know_86 ?_
  refine e_getR 90 rfl dX10_know_87 f_X10_16 (by assumption) (by assumption) ?_
  refine e_al0 91 rfl dX10_know_90 ?_
  first | refine e_getIv 94 rfl dX10_know_91 f_X10_176 (by assumption) (by first | assumption | (simp only [mN_sF, mK_sF, mL_sF, mF_sF, mB_sF, mA_sF, mJ_sF, mP_sF, mO_sF, mN_sB, mK_sB, mL_sB, mF_sB, mB_sB, mA_sB, mJ_sB, mP_sB, mO_sB, mN_sA, mK_sA, mL_sA, mF_sA, mB_sA, mA_sA, mJ_sA, mP_sA, mO_sA, mN_sJ, mK_sJ, mL_sJ, mF_sJ, mB_sJ, mA_sJ, mJ_sJ, mP_sJ, mO_sJ, mN_sP, mK_sP, mL_sP, mF_sP, mB_sP, mA_sP, mJ_sP, mP_sP, mO_sP, mN_sO, mK_sO, mL_sO, mF_sO, mB_sO, mA_sO, mJ_sO, mP_sO, mO_sO, up2, if_true, if_false, eq_self, ite_true, ite_false, reduceIte, Nat.add_left_cancel_iff, Nat.add_eq_left, Nat.left_eq_add, Nat.reduceEqDiff]; assumption) | (simp only [mN_sF, mK_sF, mL_sF, mF_sF, mB_sF, mA_sF, mJ_sF, mP_sF, mO_sF, mN_sB, mK_sB, mL_sB, mF_sB, mB_sB, mA_sB, mJ_sB, mP_sB, mO_sB, mN_sA, mK_sA, mL_sA, mF_sA, mB_sA, mA_sA, mJ_sA, mP_sA, mO_sA, mN_sJ, mK_sJ, mL_sJ, mF_sJ, mB_sJ, mA_sJ, mJ_sJ, mP_sJ, mO_sJ, mN_sP, mK_sP, mL_sP, mF_sP, mB_sP, mA_sP, mJ_sP, mP_sP, mO_sP, mN_sO, mK_sO, mL_sO, mF_sO, mB_sO, mA_sO, mJ_sO, mP_sO, mO_sO, up2, if_true, if_false, eq_self, ite_true, ite_false, reduceIte, Nat.add_left_cancel_iff, Nat.add_eq_left, Nat.left_eq_add, Nat.reduceEqDiff]; done)) ?_ | refine e_getI 94 rfl dX10_know_91 f_X10_176 (by assumption) ?_
  refine e_il2 95 rfl dX10_know_94 ?_
  refine e_iast 96 rfl dX10_know_95 (by assumption) (by assumption) (by first | rfl | simp only [pk_mul, nI_add]) (by omega) (by omega) ?_
  have e34 : mF (sA (sA μ3 (m + 2) es.length (nI ld)) (m + 3) es.length (nI kd)) m 3 = nI es.length := e3
  have e394 : mF (sA (sA μ3 (m + 2) es.length (nI ld)) (m + 3) es.length (nI kd)) m 39 = nI w.length := e39
  refine e_al0 97 rfl dX10_know_96 ?_
  refine e_getR 100 rfl dX10_know_97 f_X10_19 (by assumption) (by assumption) ?_
  refine e_al0 101 rfl dX10_know_100 ?_
  first | refine e_getIv 104 rfl dX10_know_101 f_X10_176 (by assumption) (by first | assumption | (simp only [mN_sF, mK_sF, mL_sF, mF_sF, mB_sF, mA_sF, mJ_sF, mP_sF, mO_sF, mN_sB, mK_sB, mL_sB, mF_sB, mB_sB, mA_sB, mJ_sB, mP_sB, mO_sB, mN_sA, mK_sA, mL_sA, mF_sA, mB_sA, mA_sA, mJ_sA, mP_sA, mO_sA, mN_sJ, mK_sJ, mL_sJ, mF_sJ, mB_sJ, mA_sJ, mJ_sJ, mP_sJ, mO_sJ, mN_sP, mK_sP, mL_sP, mF_sP, mB_sP, mA_sP, mJ_sP, mP_sP, mO_sP, mN_sO, mK_sO, mL_sO, mF_sO, mB_sO, mA_sO, mJ_sO, mP_sO, mO_sO, up2, if_true, if_false, eq_self, ite_true, ite_false, reduceIte, Nat.add_left_cancel_iff, Nat.add_eq_left, Nat.left_eq_add, Nat.reduceEqDiff]; assumption) | (simp only [mN_sF, mK_sF, mL_sF, mF_sF, mB_sF, mA_sF, mJ_sF, mP_sF, mO_sF, mN_sB, mK_sB, mL_sB, mF_sB, mB_sB, mA_sB, mJ_sB, mP_sB, mO_sB, mN_sA, mK_sA, mL_sA, mF_sA, mB_sA, mA_sA, mJ_sA, mP_sA, mO_sA, mN_sJ, mK_sJ, mL_sJ, mF_sJ, mB_sJ, mA_sJ, mJ_sJ, mP_sJ, mO_sJ, mN_sP, mK_sP, mL_sP, mF_sP, mB_sP, mA_sP, mJ_sP, mP_sP, mO_sP, mN_sO, mK_sO, mL_sO, mF_sO, mB_sO, mA_sO, mJ_sO, mP_sO, mO_sO, up2, if_true, if_false, eq_self, ite_true, ite_false, reduceIte, Nat.add_left_cancel_iff, Nat.add_eq_left, Nat.left_eq_add, Nat.reduceEqDiff]; done)) ?_ | refine e_getI 104 rfl dX10_know_101 f_X10_176 (by assumption) ?_
  refine e_al0 105 rfl dX10_know_104 ?_
  first | refine e_getIv 108 rfl dX10_know_105 f_X10_173 (by assumption) (by first | assumption | (simp only [mN_sF, mK_sF, mL_sF, mF_sF, mB_sF, mA_sF, mJ_sF, mP_sF, mO_sF, mN_sB, mK_sB, mL_sB, mF_sB, mB_sB, mA_sB, mJ_sB, mP_sB, mO_sB, mN_sA, mK_sA, mL_sA, mF_sA, mB_sA, mA_sA, mJ_sA, mP_sA, mO_sA, mN_sJ, mK_sJ, mL_sJ, mF_sJ, mB_sJ, mA_sJ, mJ_sJ, mP_sJ, mO_sJ, mN_sP, mK_sP, mL_sP, mF_sP, mB_sP, mA_sP, mJ_sP, mP_sP, mO_sP, mN_sO, mK_sO, mL_sO, mF_sO, mB_sO, mA_sO, mJ_sO, mP_sO, mO_sO, up2, if_true, if_false, eq_self, ite_true, ite_false, reduceIte, Nat.add_left_cancel_iff, Nat.add_eq_left, Nat.left_eq_add, Nat.reduceEqDiff]; assumption) | (simp only [mN_sF, mK_sF, mL_sF, mF_sF, mB_sF, mA_sF, mJ_sF, mP_sF, mO_sF, mN_sB, mK_sB, mL_sB, mF_sB, mB_sB, mA_sB, mJ_sB, mP_sB, mO_sB, mN_sA, mK_sA, mL_sA, mF_sA, mB_sA, mA_sA, mJ_sA, mP_sA, mO_sA, mN_sJ, mK_sJ, mL_sJ, mF_sJ, mB_sJ, mA_sJ, mJ_sJ, mP_sJ, mO_sJ, mN_sP, mK_sP, mL_sP, mF_sP, mB_sP, mA_sP, mJ_sP, mP_sP, mO_sP, mN_sO, mK_sO, mL_sO, mF_sO, mB_sO, mA_sO, mJ_sO, mP_sO, mO_sO, up2, if_true, if_false, eq_self, ite_true, ite_false, reduceIte, Nat.add_left_cancel_iff, Nat.add_eq_left, Nat.left_eq_add, Nat.reduceEqDiff]; done)) ?_ | refine e_getI 108 rfl dX10_know_105 f_X10_173 (by assumption) ?_
  refine e_iast 109 rfl dX10_know_108 (by assumption) (by assumption) (by first | rfl | simp only [pk_mul, nI_add]) (by omega) (by omega) ?_
  refine e_iconst (nI 0) 110 rfl dX10_know_109 ic_0 ?_
  refine e_is4 112 rfl dX10_know_110 (by decide) rfl ?_
  have hF4 : Fr (fun q => m + 2 ≤ q ∧ q ≤ m + 4) μ3 (sA (sA (sA μ3 (m + 2) es.length (nI ld)) (m + 3) es.length (nI kd)) (m + 4) es.length (nI w.length)) := (((Fr.rf (S := fun q => m + 2 ≤ q ∧ q ≤ m + 4)).sA ⟨by omega, by omega⟩ _ _).sA ⟨by omega, by omega⟩ _ _).sA ⟨by omega, by omega⟩ _ _
  have a24 : ∀ i, i ≠ es.length → mA (sA (sA (sA μ3 (m + 2) es.length (nI ld)) (m + 3) es.length (nI kd)) (m + 4) es.length (nI w.length)) (m + 2) i = mA μ3 (m + 2) i := fun i hi => by
    show up2 (up2 (up2 _ (m + 2) _ _) (m + 3) _ _) (m + 4) _ _ (m + 2) i = _
    rw [up2_a (by omega), up2_a (by omega), up2_k hi]
  have a24' : mA (sA (sA (sA μ3 (m + 2) es.length (nI ld)) (m + 3) es.length (nI kd)) (m + 4) es.length (nI w.length)) (m + 2) es.length = nI ld := by
    show up2 (up2 (up2 _ (m + 2) _ _) (m + 3) _ _) (m + 4) _ _ (m + 2) _ = _
    rw [up2_a (by omega), up2_a (by omega), up2_s]
  have a34 : ∀ i, i ≠ es.length → mA (sA (sA (sA μ3 (m + 2) es.length (nI ld)) (m + 3) es.length (nI kd)) (m + 4) es.length (nI w.length)) (m + 3) i = mA μ3 (m + 3) i := fun i hi => by
    show up2 (up2 (up2 _ (m + 2) _ _) (m + 3) _ _) (m + 4) _ _ (m + 3) i = _
    rw [up2_a (by omega), up2_k hi, up2_a (by omega)]
  have a34' : mA (sA (sA (sA μ3 (m + 2) es.length (nI ld)) (m + 3) es.length (nI kd)) (m + 4) es.length (nI w.length)) (m + 3) es.length = nI kd := by
    show up2 (up2 (up2 _ (m + 2) _ _) (m + 3) _ _) (m + 4) _ _ (m + 3) _ = _
    rw [up2_a (by omega), up2_s]
  have a44 : ∀ i, i ≠ es.length → mA (sA (sA (sA μ3 (m + 2) es.length (nI ld)) (m + 3) es.length (nI kd)) (m + 4) es.length (nI w.length)) (m + 4) i = mA μ3 (m + 4) i := fun i hi => by
    show up2 (up2 (up2 _ (m + 2) _ _) (m + 3) _ _) (m + 4) _ _ (m + 4) i = _
    rw [up2_k hi, up2_a (by omega), up2_a (by omega)]
  have a44' : mA (sA (sA (sA μ3 (m + 2) es.length (nI ld)) (m + 3) es.length (nI kd)) (m + 4) es.length (nI w.length)) (m + 4) es.length = nI w.length := by
    show up2 (up2 (up2 _ (m + 2) _ _) (m + 3) _ _) (m + 4) _ _ (m + 4) _ = _
    rw [up2_s]
  clear e33 e34 e394
  generalize sA (sA (sA μ3 (m + 2) es.length (nI ld)) (m + 3) es.length (nI kd)) (m + 4) es.length (nI w.length) = μ4 at hF4 a24 a24' a34 a34' a44 a44' ⊢
  have loop : ∀ (fu j : Nat), j + fu = w.length → ∀ μ5, Fr (fun q => q = m + 5) μ4 μ5 → (∀ q, q < 21 * es.length → mA μ5 (m + 5) q = mA μ4 (m + 5) q) → Hd (fun q => mA μ5 (m + 5) (21 * es.length + q)) (w.take j) → Ev E M_X10_know 0 0 112 [some (.ref m), some (.int (nI ld)), some (.int (nI kd)), some (.int (nI nn)), some (.int (nI j))] [] μ5 K := by
    intro fu
    induction fu with
    | zero =>
      intro j hj μ5 hF5 hold hnew
      have hg5 := (hg3.fr hF4).fr hF5
      have mk5 := hg5.1
      have fm5 : mF μ5 m = mF μ3 m := by rw [(hF5.2.2.2.2.2 m (by omega)).1, (hF4.2.2.2.2.2 m (by omega)).1]
      have e395 : mF μ5 m 39 = nI w.length := by rw [fm5]; exact e39
      have e35 : mF μ5 m 3 = nI es.length := by rw [fm5]; exact e3
      have mk6 : mK (sF μ5 m 3 (nI (es.length + 1))) m = 11 := mk5
      have e36 : mF (sF μ5 m 3 (nI (es.length + 1))) m 3 = nI (es.length + 1) := by simp only [mN_sF, mK_sF, mL_sF, mF_sF, mB_sF, mA_sF, mJ_sF, mP_sF, mO_sF, mN_sB, mK_sB, mL_sB, mF_sB, mB_sB, mA_sB, mJ_sB, mP_sB, mO_sB, mN_sA, mK_sA, mL_sA, mF_sA, mB_sA, mA_sA, mJ_sA, mP_sA, mO_sA, mN_sJ, mK_sJ, mL_sJ, mF_sJ, mB_sJ, mA_sJ, mJ_sJ, mP_sJ, mO_sJ, mN_sP, mK_sP, mL_sP, mF_sP, mB_sP, mA_sP, mJ_sP, mP_sP, mO_sP, mN_sO, mK_sO, mL_sO, mF_sO, mB_sO, mA_sO, mJ_sO, mP_sO, mO_sO, up2, if_true, if_false, eq_self, ite_true, ite_false, reduceIte, Nat.add_left_cancel_iff, Nat.add_eq_left, Nat.left_eq_add, Nat.reduceEqDiff]
      refine e_il4 114 rfl dX10_know_112 ?_
      refine e_al0 115 rfl dX10_know_114 ?_
      first | refine e_getIv 118 rfl dX10_know_115 f_X10_173 (by assumption) (by first | assumption | (simp only [mN_sF, mK_sF, mL_sF, mF_sF, mB_sF, mA_sF, mJ_sF, mP_sF, mO_sF, mN_sB, mK_sB, mL_sB, mF_sB, mB_sB, mA_sB, mJ_sB, mP_sB, mO_sB, mN_sA, mK_sA, mL_sA, mF_sA, mB_sA, mA_sA, mJ_sA, mP_sA, mO_sA, mN_sJ, mK_sJ, mL_sJ, mF_sJ, mB_sJ, mA_sJ, mJ_sJ, mP_sJ, mO_sJ, mN_sP, mK_sP, mL_sP, mF_sP, mB_sP, mA_sP, mJ_sP, mP_sP, mO_sP, mN_sO, mK_sO, mL_sO, mF_sO, mB_sO, mA_sO, mJ_sO, mP_sO, mO_sO, up2, if_true, if_false, eq_self, ite_true, ite_false, reduceIte, Nat.add_left_cancel_iff, Nat.add_eq_left, Nat.left_eq_add, Nat.reduceEqDiff]; assumption) | (simp only [mN_sF, mK_sF, mL_sF, mF_sF, mB_sF, mA_sF, mJ_sF, mP_sF, mO_sF, mN_sB, mK_sB, mL_sB, mF_sB, mB_sB, mA_sB, mJ_sB, mP_sB, mO_sB, mN_sA, mK_sA, mL_sA, mF_sA, mB_sA, mA_sA, mJ_sA, mP_sA, mO_sA, mN_sJ, mK_sJ, mL_sJ, mF_sJ, mB_sJ, mA_sJ, mJ_sJ, mP_sJ, mO_sJ, mN_sP, mK_sP, mL_sP, mF_sP, mB_sP, mA_sP, mJ_sP, mP_sP, mO_sP, mN_sO, mK_sO, mL_sO, mF_sO, mB_sO, mA_sO, mJ_sO, mP_sO, mO_sO, up2, if_true, if_false, eq_self, ite_true, ite_false, reduceIte, Nat.add_left_cancel_iff, Nat.add_eq_left, Nat.left_eq_add, Nat.reduceEqDiff]; done)) ?_ | refine e_getI 118 rfl dX10_know_115 f_X10_173 (by assumption) ?_
      first | refine e_cmp_geN 149 121 (by decide) rfl dX10_know_118 rfl rfl (by omega) (by omega) (fun y7 => ?_) (fun y7 => ?_) | refine e_cmp_ge 149 121 (by decide) rfl dX10_know_118 (fun y7 => ?_) (fun y7 => ?_)
      rotate_left
      · omega
      refine e_al0 150 rfl dX10_know_149 ?_
      refine e_dup 151 rfl dX10_know_150 rfl ?_
      first | refine e_getIv 154 rfl dX10_know_151 f_X10_176 (by assumption) (by first | assumption | (simp only [mN_sF, mK_sF, mL_sF, mF_sF, mB_sF, mA_sF, mJ_sF, mP_sF, mO_sF, mN_sB, mK_sB, mL_sB, mF_sB, mB_sB, mA_sB, mJ_sB, mP_sB, mO_sB, mN_sA, mK_sA, mL_sA, mF_sA, mB_sA, mA_sA, mJ_sA, mP_sA, mO_sA, mN_sJ, mK_sJ, mL_sJ, mF_sJ, mB_sJ, mA_sJ, mJ_sJ, mP_sJ, mO_sJ, mN_sP, mK_sP, mL_sP, mF_sP, mB_sP, mA_sP, mJ_sP, mP_sP, mO_sP, mN_sO, mK_sO, mL_sO, mF_sO, mB_sO, mA_sO, mJ_sO, mP_sO, mO_sO, up2, if_true, if_false, eq_self, ite_true, ite_false, reduceIte, Nat.add_left_cancel_iff, Nat.add_eq_left, Nat.left_eq_add, Nat.reduceEqDiff]; assumption) | (simp only [mN_sF, mK_sF, mL_sF, mF_sF, mB_sF, mA_sF, mJ_sF, mP_sF, mO_sF, mN_sB, mK_sB, mL_sB, mF_sB, mB_sB, mA_sB, mJ_sB, mP_sB, mO_sB, mN_sA, mK_sA, mL_sA, mF_sA, mB_sA, mA_sA, mJ_sA, mP_sA, mO_sA, mN_sJ, mK_sJ, mL_sJ, mF_sJ, mB_sJ, mA_sJ, mJ_sJ, mP_sJ, mO_sJ, mN_sP, mK_sP, mL_sP, mF_sP, mB_sP, mA_sP, mJ_sP, mP_sP, mO_sP, mN_sO, mK_sO, mL_sO, mF_sO, mB_sO, mA_sO, mJ_sO, mP_sO, mO_sO, up2, if_true, if_false, eq_self, ite_true, ite_false, reduceIte, Nat.add_left_cancel_iff, Nat.add_eq_left, Nat.left_eq_add, Nat.reduceEqDiff]; done)) ?_ | refine e_getI 154 rfl dX10_know_151 f_X10_176 (by assumption) ?_
      refine e_iconst (nI 1) 155 rfl dX10_know_154 ic_1 ?_
      first | refine e_iaddN 156 rfl dX10_know_155 rfl rfl ?_ | refine e_iadd 156 rfl dX10_know_155 ?_
      refine e_putI 159 rfl dX10_know_156 f_X10_176 (by assumption) ?_
      refine e_al0 160 rfl dX10_know_159 ?_
      first | refine e_getIv 163 rfl dX10_know_160 f_X10_176 (by assumption) (by first | assumption | (simp only [mN_sF, mK_sF, mL_sF, mF_sF, mB_sF, mA_sF, mJ_sF, mP_sF, mO_sF, mN_sB, mK_sB, mL_sB, mF_sB, mB_sB, mA_sB, mJ_sB, mP_sB, mO_sB, mN_sA, mK_sA, mL_sA, mF_sA, mB_sA, mA_sA, mJ_sA, mP_sA, mO_sA, mN_sJ, mK_sJ, mL_sJ, mF_sJ, mB_sJ, mA_sJ, mJ_sJ, mP_sJ, mO_sJ, mN_sP, mK_sP, mL_sP, mF_sP, mB_sP, mA_sP, mJ_sP, mP_sP, mO_sP, mN_sO, mK_sO, mL_sO, mF_sO, mB_sO, mA_sO, mJ_sO, mP_sO, mO_sO, up2, if_true, if_false, eq_self, ite_true, ite_false, reduceIte, Nat.add_left_cancel_iff, Nat.add_eq_left, Nat.left_eq_add, Nat.reduceEqDiff]; assumption) | (simp only [mN_sF, mK_sF, mL_sF, mF_sF, mB_sF, mA_sF, mJ_sF, mP_sF, mO_sF, mN_sB, mK_sB, mL_sB, mF_sB, mB_sB, mA_sB, mJ_sB, mP_sB, mO_sB, mN_sA, mK_sA, mL_sA, mF_sA, mB_sA, mA_sA, mJ_sA, mP_sA, mO_sA, mN_sJ, mK_sJ, mL_sJ, mF_sJ, mB_sJ, mA_sJ, mJ_sJ, mP_sJ, mO_sJ, mN_sP, mK_sP, mL_sP, mF_sP, mB_sP, mA_sP, mJ_sP, mP_sP, mO_sP, mN_sO, mK_sO, mL_sO, mF_sO, mB_sO, mA_sO, mJ_sO, mP_sO, mO_sO, up2, if_true, if_false, eq_self, ite_true, ite_false, reduceIte, Nat.add_left_cancel_iff, Nat.add_eq_left, Nat.left_eq_add, Nat.reduceEqDiff]; done)) ?_ | refine e_getI 163 rfl dX10_know_160 f_X10_176 (by assumption) ?_
      refine e_iret dX10_know_163 rfl ?_
      have ej : j = w.length := by omega
      subst ej
      rw [List.take_length] at hnew
      have hF6 : Fr (fun q => q = m) μ5 (sF μ5 m 3 (nI (es.length + 1))) := (Fr.rf (S := fun q => q = m)).sF rfl _ _
      have hff : ∀ f, f ≠ 3 → f ≠ 1 → mF (sF μ5 m 3 (nI (es.length + 1))) m f = mF μ2 m f := fun f a b => by
        show up2 _ m 3 _ m f = _
        rw [up2_k a, fm5]; exact hf3 f b
      have h16 : mF (sF μ5 m 3 (nI (es.length + 1))) m 1 = nI 0 := by
        show up2 _ m 3 _ m 1 = _
        rw [up2_k (by decide), fm5]; exact h13
      obtain ⟨R, hR⟩ : ∃ R : Nat → Prop, R = fun q => q = m ∨ (m + 2 ≤ q ∧ q ≤ m + 5) := ⟨_, rfl⟩
      have hF26 : Fr R μ2 (sF μ5 m 3 (nI (es.length + 1))) := (((hF3.mono (S' := R) (fun q h => by rw [hR]; exact Or.inl h)).trans (hF4.mono (fun q h => by rw [hR]; exact Or.inr ⟨h.1, by omega⟩))).trans (hF5.mono (fun q h => by rw [hR]; exact Or.inr ⟨by omega, by omega⟩))).trans (hF6.mono (fun q h => by rw [hR]; exact Or.inl h))
      have nR : ∀ q, q = m + 1 ∨ m + 6 ≤ q → ¬ R q := fun q h => by rw [hR]; omega
      have hbk6 : mBk (sF μ5 m 3 (nI (es.length + 1))) m (es ++ [(ld, kd, w)]) := by
        refine ⟨by rw [e36, List.length_append]; rfl, fun i e hi => ?_⟩
        show mA μ5 (m + 2) i = _ ∧ mA μ5 (m + 3) i = _ ∧ mA μ5 (m + 4) i = _ ∧ Hd (fun q => mA μ5 (m + 5) (21 * i + q)) _
        rw [(hF5.2.2.2.2.2 (m + 2) (by omega)).2.2.1, (hF5.2.2.2.2.2 (m + 3) (by omega)).2.2.1, (hF5.2.2.2.2.2 (m + 4) (by omega)).2.2.1]
        by_cases c : i < es.length
        · rw [List.getElem?_append_left c] at hi
          obtain ⟨r1, r2, r3, r4⟩ := hbk2.2 i e hi
          have hwe := (esW e (List.mem_of_getElem? hi)).2.2.2.1
          refine ⟨by rw [a24 i (by omega), (hF3.2.2.2.2.2 (m + 2) (by omega)).2.2.1]; exact r1, by rw [a34 i (by omega), (hF3.2.2.2.2.2 (m + 3) (by omega)).2.2.1]; exact r2, by rw [a44 i (by omega), (hF3.2.2.2.2.2 (m + 4) (by omega)).2.2.1]; exact r3, r4.of (fun q hq => ?_)⟩
          rw [hold _ (by omega), (hF4.2.2.2.2.2 (m + 5) (by omega)).2.2.1, (hF3.2.2.2.2.2 (m + 5) (by omega)).2.2.1]
        · rw [List.getElem?_append_right (by omega)] at hi
          have hz : i - es.length < 1 := (List.getElem?_eq_some_iff.mp hi).1
          have ei : i = es.length := by omega
          subst ei
          rw [Nat.sub_self] at hi
          have hi2 : (ld, kd, w) = e := Option.some.inj hi
          rw [← hi2]
          exact ⟨a24', a34', a44', hnew⟩
      obtain ⟨h1, h2, _, h4, h5, h6, h7⟩ := id hM2
      refine k _ (f2.trans (hF26.mono (fun q h => by rw [hR] at h; omega))) ⟨h1.fr hF26, ⟨h16, Hd.nil⟩, ⟨es ++ [(ld, kd, w)], hes.append_right _, hbk6⟩, h4.fr hF26 (fun q a b => nR q (by omega)), ⟨by rw [hff 18 (by decide) (by decide)]; exact h5.1, by rw [hff 19 (by decide) (by decide)]; exact h5.2⟩, h6.fr hF26 (hff 20 (by decide) (by decide)) (fun q a b => nR q (by omega)), h7.fr hF26 (fun q a b => nR q (by omega))⟩
    | succ fu ih =>
      intro j hj μ5 hF5 hold hnew
      have hg5 := (hg3.fr hF4).fr hF5
      have mk5 := hg5.1
      have fm5 : mF μ5 m = mF μ3 m := by rw [(hF5.2.2.2.2.2 m (by omega)).1, (hF4.2.2.2.2.2 m (by omega)).1]
      have e395 : mF μ5 m 39 = nI w.length := by rw [fm5]; exact e39
      have e35 : mF μ5 m 3 = nI es.length := by rw [fm5]; exact e3
      obtain ⟨p45, k45, l45⟩ := hg5.eWord
      obtain ⟨p55, k55, l55⟩ := hg5.folded
      have hjl : j < w.length := by omega
      have v5 : mA μ5 (m + 29) j = nI w[j] := by rw [(hF5.2.2.2.2.2 (m + 29) (by omega)).2.2.1, (hF4.2.2.2.2.2 (m + 29) (by omega)).2.2.1]; exact hH3.at hjl
      refine e_il4 114 rfl dX10_know_112 ?_
      refine e_al0 115 rfl dX10_know_114 ?_
      first | refine e_getIv 118 rfl dX10_know_115 f_X10_173 (by assumption) (by first | assumption | (simp only [mN_sF, mK_sF, mL_sF, mF_sF, mB_sF, mA_sF, mJ_sF, mP_sF, mO_sF, mN_sB, mK_sB, mL_sB, mF_sB, mB_sB, mA_sB, mJ_sB, mP_sB, mO_sB, mN_sA, mK_sA, mL_sA, mF_sA, mB_sA, mA_sA, mJ_sA, mP_sA, mO_sA, mN_sJ, mK_sJ, mL_sJ, mF_sJ, mB_sJ, mA_sJ, mJ_sJ, mP_sJ, mO_sJ, mN_sP, mK_sP, mL_sP, mF_sP, mB_sP, mA_sP, mJ_sP, mP_sP, mO_sP, mN_sO, mK_sO, mL_sO, mF_sO, mB_sO, mA_sO, mJ_sO, mP_sO, mO_sO, up2, if_true, if_false, eq_self, ite_true, ite_false, reduceIte, Nat.add_left_cancel_iff, Nat.add_eq_left, Nat.left_eq_add, Nat.reduceEqDiff]; assumption) | (simp only [mN_sF, mK_sF, mL_sF, mF_sF, mB_sF, mA_sF, mJ_sF, mP_sF, mO_sF, mN_sB, mK_sB, mL_sB, mF_sB, mB_sB, mA_sB, mJ_sB, mP_sB, mO_sB, mN_sA, mK_sA, mL_sA, mF_sA, mB_sA, mA_sA, mJ_sA, mP_sA, mO_sA, mN_sJ, mK_sJ, mL_sJ, mF_sJ, mB_sJ, mA_sJ, mJ_sJ, mP_sJ, mO_sJ, mN_sP, mK_sP, mL_sP, mF_sP, mB_sP, mA_sP, mJ_sP, mP_sP, mO_sP, mN_sO, mK_sO, mL_sO, mF_sO, mB_sO, mA_sO, mJ_sO, mP_sO, mO_sO, up2, if_true, if_false, eq_self, ite_true, ite_false, reduceIte, Nat.add_left_cancel_iff, Nat.add_eq_left, Nat.left_eq_add, Nat.reduceEqDiff]; done)) ?_ | refine e_getI 118 rfl dX10_know_115 f_X10_173 (by assumption) ?_
      first | refine e_cmp_geN 149 121 (by decide) rfl dX10_know_118 rfl rfl (by omega) (by omega) (fun y7 => ?_) (fun y7 => ?_) | refine e_cmp_ge 149 121 (by decide) rfl dX10_know_118 (fun y7 => ?_) (fun y7 => ?_)
      · omega
      refine e_al0 122 rfl dX10_know_121 ?_
      refine e_getR 125 rfl dX10_know_122 f_X10_22 (by assumption) (by assumption) ?_
      refine e_bipush (nI 21) 127 rfl dX10_know_125 bc_21 ?_
      refine e_al0 128 rfl dX10_know_127 ?_
      first | refine e_getIv 131 rfl dX10_know_128 f_X10_176 (by assumption) (by first | assumption | (simp only [mN_sF, mK_sF, mL_sF, mF_sF, mB_sF, mA_sF, mJ_sF, mP_sF, mO_sF, mN_sB, mK_sB, mL_sB, mF_sB, mB_sB, mA_sB, mJ_sB, mP_sB, mO_sB, mN_sA, mK_sA, mL_sA, mF_sA, mB_sA, mA_sA, mJ_sA, mP_sA, mO_sA, mN_sJ, mK_sJ, mL_sJ, mF_sJ, mB_sJ, mA_sJ, mJ_sJ, mP_sJ, mO_sJ, mN_sP, mK_sP, mL_sP, mF_sP, mB_sP, mA_sP, mJ_sP, mP_sP, mO_sP, mN_sO, mK_sO, mL_sO, mF_sO, mB_sO, mA_sO, mJ_sO, mP_sO, mO_sO, up2, if_true, if_false, eq_self, ite_true, ite_false, reduceIte, Nat.add_left_cancel_iff, Nat.add_eq_left, Nat.left_eq_add, Nat.reduceEqDiff]; assumption) | (simp only [mN_sF, mK_sF, mL_sF, mF_sF, mB_sF, mA_sF, mJ_sF, mP_sF, mO_sF, mN_sB, mK_sB, mL_sB, mF_sB, mB_sB, mA_sB, mJ_sB, mP_sB, mO_sB, mN_sA, mK_sA, mL_sA, mF_sA, mB_sA, mA_sA, mJ_sA, mP_sA, mO_sA, mN_sJ, mK_sJ, mL_sJ, mF_sJ, mB_sJ, mA_sJ, mJ_sJ, mP_sJ, mO_sJ, mN_sP, mK_sP, mL_sP, mF_sP, mB_sP, mA_sP, mJ_sP, mP_sP, mO_sP, mN_sO, mK_sO, mL_sO, mF_sO, mB_sO, mA_sO, mJ_sO, mP_sO, mO_sO, up2, if_true, if_false, eq_self, ite_true, ite_false, reduceIte, Nat.add_left_cancel_iff, Nat.add_eq_left, Nat.left_eq_add, Nat.reduceEqDiff]; done)) ?_ | refine e_getI 131 rfl dX10_know_128 f_X10_176 (by assumption) ?_
      first | refine e_imulN 132 rfl dX10_know_131 rfl rfl ?_ | refine e_imul 132 rfl dX10_know_131 ?_
      refine e_il4 134 rfl dX10_know_132 ?_
      first | refine e_iaddN 135 rfl dX10_know_134 rfl rfl ?_ | refine e_iadd 135 rfl dX10_know_134 ?_
      refine e_al0 136 rfl dX10_know_135 ?_
      refine e_getR 139 rfl dX10_know_136 f_X10_99 (by assumption) (by assumption) ?_
      refine e_il4 141 rfl dX10_know_139 ?_
      first | refine e_ialdv 142 rfl dX10_know_141 (by assumption) (by assumption) (by first | rfl | simp only [pk_mul, nI_add]) (by omega) (by omega) (by first | assumption | (simp only [mN_sF, mK_sF, mL_sF, mF_sF, mB_sF, mA_sF, mJ_sF, mP_sF, mO_sF, mN_sB, mK_sB, mL_sB, mF_sB, mB_sB, mA_sB, mJ_sB, mP_sB, mO_sB, mN_sA, mK_sA, mL_sA, mF_sA, mB_sA, mA_sA, mJ_sA, mP_sA, mO_sA, mN_sJ, mK_sJ, mL_sJ, mF_sJ, mB_sJ, mA_sJ, mJ_sJ, mP_sJ, mO_sJ, mN_sP, mK_sP, mL_sP, mF_sP, mB_sP, mA_sP, mJ_sP, mP_sP, mO_sP, mN_sO, mK_sO, mL_sO, mF_sO, mB_sO, mA_sO, mJ_sO, mP_sO, mO_sO, up2, if_true, if_false, eq_self, ite_true, ite_false, reduceIte, Nat.add_left_cancel_iff, Nat.add_eq_left, Nat.left_eq_add, Nat.reduceEqDiff]; assumption) | (simp only [mN_sF, mK_sF, mL_sF, mF_sF, mB_sF, mA_sF, mJ_sF, mP_sF, mO_sF, mN_sB, mK_sB, mL_sB, mF_sB, mB_sB, mA_sB, mJ_sB, mP_sB, mO_sB, mN_sA, mK_sA, mL_sA, mF_sA, mB_sA, mA_sA, mJ_sA, mP_sA, mO_sA, mN_sJ, mK_sJ, mL_sJ, mF_sJ, mB_sJ, mA_sJ, mJ_sJ, mP_sJ, mO_sJ, mN_sP, mK_sP, mL_sP, mF_sP, mB_sP, mA_sP, mJ_sP, mP_sP, mO_sP, mN_sO, mK_sO, mL_sO, mF_sO, mB_sO, mA_sO, mJ_sO, mP_sO, mO_sO, up2, if_true, if_false, eq_self, ite_true, ite_false, reduceIte, Nat.add_left_cancel_iff, Nat.add_eq_left, Nat.left_eq_add, Nat.reduceEqDiff]; done)) ?_ | refine e_iald 142 rfl dX10_know_141 (by assumption) (by assumption) (by first | rfl | simp only [pk_mul, nI_add]) (by omega) (by omega) ?_
      refine e_iast 143 rfl dX10_know_142 (by assumption) (by assumption) (by first | rfl | simp only [pk_mul, nI_add]) (by omega) (by omega) ?_
      refine e_ii4 (nI (_ + 1)) 146 rfl dX10_know_143 (ii1 _) rfl ?_
      refine e_goto 112 (by decide) dX10_know_146 ?_
      refine ih (j + 1) (by omega) _ (hF5.sA rfl _ _) (fun q hq => ?_) ?_
      · show up2 _ (m + 5) _ _ (m + 5) q = _
        rw [up2_k (by omega)]; exact hold q hq
      · rw [List.take_succ_eq_append_getElem hjl]
        refine hnew.push (fun i hi => ?_) ?_
        · show up2 _ (m + 5) _ _ (m + 5) _ = _
          rw [List.length_take] at hi
          rw [up2_k (by omega)]
        · show up2 _ (m + 5) _ _ (m + 5) _ = _
          rw [List.length_take, Nat.min_eq_left (by omega), up2_s]
  exact loop w.length 0 (by omega) μ4 Fr.rf (fun _ _ => rfl) Hd.nil
end MBOOK
