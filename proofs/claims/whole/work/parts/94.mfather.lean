/-! NameDeskModel: father, fallen -/
section MFATHER
variable {E : En} {μ : Mm} {K : Option Value → Mm → Prop}
theorem AR_C {sl : List Slot0} {C : Nat → Nat → Nat} : ∀ f w c m o x, x ∈ AR sl C f w c m o → (∀ j, j < w → C j (dg w m j) < 1000) → ∀ j, j < w + f → C j (dg (w + f) x.2 j) < 1000 := by
  intro f
  induction f with
  | zero =>
    intro w c m o x hx h j hj
    unfold AR at hx
    split at hx
    · simp at hx; subst hx; exact h j hj
    · simp at hx
  | succ f ih =>
    intro w c m o x hx h j hj
    unfold AR at hx
    obtain ⟨k, hk, hx⟩ := List.mem_flatMap.mp hx
    have hk7 : k < 7 := List.mem_range.mp hk
    split at hx
    next hC =>
      have := ih (w + 1) _ _ _ x hx (fun j hj => by
        by_cases e : j = w
        · rw [e, dg_new (by omega)]; exact hC
        · rw [dg_old (by omega) (by omega)]; exact h j (by omega)) j (by omega)
      rw [show w + 1 + f = w + (f + 1) by omega] at this
      exact this
    next => simp at hx
theorem rK_made {S : Ast} {nm : Nm} {p : Nat} (hW : WF S) (hn : nm.2.length ≤ 8) (hr : rB S nm = true) (hp : p < nm.2.length) (h5 : (rK S nm)[p]? = some 5) : madeL (enO (aS S nm.1)) ((fsN nm).getD p []) = true := by
  unfold rK rdK at h5
  rw [List.getElem?_map, List.getElem?_range hp] at h5
  have h5' : dg nm.2.length (fr1m (rdT (aS S nm.1) (aB S) nm)) p = 5 := Option.some.inj h5
  unfold rB rdB at hr
  cases ef : fr1 (rdT (aS S nm.1) (aB S) nm) with
  | none => rw [ef] at hr; cases hr
  | some y =>
    unfold fr1m at h5'
    rw [ef] at h5'
    simp only [] at h5'
    have hy : y ∈ rdT (aS S nm.1) (aB S) nm := SR_mem ef
    have h1 := rdT_AR (nm := nm) hW
    have hm : pr2 y ∈ (rdT (aS S nm.1) (aB S) nm).map pr2 := List.mem_map.mpr ⟨y, hy, rfl⟩
    rw [h1] at hm
    have hc := AR_C _ 0 0 0 _ _ hm (fun j hj => by omega) p (by rw [Nat.zero_add]; exact hp)
    rw [Nat.zero_add] at hc
    have hc2 : costW (aB S) nm.1 (enO (aS S nm.1)) (fsN nm) p 5 < 1000 := by
      have e : dg nm.2.length (pr2 y).2 p = 5 := h5'
      rw [e] at hc
      exact hc
    unfold costW cst at hc2
    rw [if_neg (by omega), if_neg (by omega), if_pos rfl] at hc2
    by_cases c : madeL (enO (aS S nm.1)) ((fsN nm).getD p []) = true
    · exact c
    · rw [if_neg c] at hc2; omega
theorem made_iff {en w g : List Nat} (h : madeL en w = true) : g = w.take (w.length - en.length) ↔ w = g ++ en := by
  unfold madeL at h
  simp only [Bool.and_eq_true, decide_eq_true_eq] at h
  obtain ⟨⟨h1, h2⟩, h3⟩ := h
  constructor
  · intro e
    rw [e]
    conv => lhs; rw [← List.take_append_drop (w.length - en.length) w]
    rw [h3]
  · intro e
    rw [e, List.length_append, show g.length + en.length - en.length = g.length by omega, List.take_left]
theorem plB_kind {bits : Nat} : ∀ (ks : List Nat) (j p : Nat), p ∈ plB bits ks j → j ≤ p ∧ ∃ c, ks[p - j]? = some c ∧ bits.testBit c = true := by
  intro ks
  induction ks with
  | nil => intro j p h; simp [plB] at h
  | cons x r ih =>
    intro j p h
    unfold plB at h
    have key : p ∈ plB bits r (j + 1) → j ≤ p ∧ ∃ c, (x :: r)[p - j]? = some c ∧ bits.testBit c = true := fun h => by
      obtain ⟨h1, c, h2, h3⟩ := ih (j + 1) p h
      refine ⟨by omega, c, ?_, h3⟩
      rw [show p - j = (p - (j + 1)) + 1 by omega, List.getElem?_cons_succ]; exact h2
    split at h
    next hb =>
      rcases List.mem_cons.mp h with e | e
      · subst e
        exact ⟨Nat.le_refl _, x, by simp, hb⟩
      · exact key e
    next => exact key h
theorem m_father {m : Nat} {S : Ast} {x y : Int32} (hW : WF S) (hM : MI m S μ) (k : ∀ μ', MF m μ μ' → MI m S μ' → K (some (.int (q_father S x y))) μ') : Cl E M_X10_father [.ref m, .int x, .int y] μ K := by
  have n30 := hW.2.2.2.1.1
  have mk0 := hM.1.1
  have hM1 := hM.thr (nI 0)
  have f1 : MF m μ (sF μ m 2 (nI 0)) := MF.thr _
  refine Cl.of0 5 pn_X10 (Nat.le_of_ble_eq_true rfl) ⟨rfl, rfl⟩ rfl ?_
  refine e_al0 1 rfl dX10_father_0 ?_
  refine e_iconst (nI 0) 2 rfl dX10_father_1 ic_0 ?_
  refine e_putI 5 rfl dX10_father_2 f_X10_126 (by assumption) ?_
  generalize sF μ m 2 (nI 0) = μ1 at hM1 f1 ⊢
  have mk := hM1.1.1
  unfold q_father at k
  refine e_al0 6 rfl dX10_father_5 ?_
  refine e_il1 7 rfl dX10_father_6 ?_
  refine e_invV0 [_] 10 rfl dX10_father_7 k_X10_210 mo_X10_isName rm_X10_father_X10_isName ⟨rfl, rfl⟩ rfl rfl (by assumption) (Nat.le_of_ble_eq_true rfl) ?_
  refine c_mIsName mk hM1.2.2.2.2.2.1.1 n30 ?_
  cases eN : nmx (aN S) x with
  | none =>
    rw [eN] at k
    first | refine e_if_eqB 41 13 (by decide) rfl dX10_father_10 rfl (fun y1 => ?_) (fun y1 => ?_) | refine e_if_eqN 41 13 (by decide) rfl dX10_father_10 rfl (by omega) (fun y1 => ?_) (fun y1 => ?_) | refine e_if_eq 41 13 (by decide) rfl dX10_father_10 (fun y1 => ?_) (fun y1 => ?_)
    · refine e_iconst (-1) 42 rfl dX10_father_41 ic_m1 ?_
      refine e_iret dX10_father_42 rfl ?_
      exact k μ1 f1 hM1
    · cases y1
  | some a =>
  rw [eN] at k
  first | refine e_if_eqB 41 13 (by decide) rfl dX10_father_10 rfl (fun y1 => ?_) (fun y1 => ?_) | refine e_if_eqN 41 13 (by decide) rfl dX10_father_10 rfl (by omega) (fun y1 => ?_) (fun y1 => ?_) | refine e_if_eq 41 13 (by decide) rfl dX10_father_10 (fun y1 => ?_) (fun y1 => ?_)
  · cases y1
  refine e_al0 14 rfl dX10_father_13 ?_
  refine e_il2 15 rfl dX10_father_14 ?_
  refine e_invV0 [_] 18 rfl dX10_father_15 k_X10_210 mo_X10_isName rm_X10_father_X10_isName ⟨rfl, rfl⟩ rfl rfl (by assumption) (Nat.le_of_ble_eq_true rfl) ?_
  refine c_mIsName mk hM1.2.2.2.2.2.1.1 n30 ?_
  cases eM : nmx (aN S) y with
  | none =>
    rw [eM] at k
    first | refine e_if_eqB 41 21 (by decide) rfl dX10_father_18 rfl (fun y2 => ?_) (fun y2 => ?_) | refine e_if_eqN 41 21 (by decide) rfl dX10_father_18 rfl (by omega) (fun y2 => ?_) (fun y2 => ?_) | refine e_if_eq 41 21 (by decide) rfl dX10_father_18 (fun y2 => ?_) (fun y2 => ?_)
    · refine e_iconst (-1) 42 rfl dX10_father_41 ic_m1 ?_
      refine e_iret dX10_father_42 rfl ?_
      exact k μ1 f1 hM1
    · cases y2
  | some b =>
  rw [eM] at k
  simp only [] at k
  obtain ⟨i, hx, hi⟩ := nmx_some eN
  obtain ⟨j, hy, hj⟩ := nmx_some eM
  have hil := (List.getElem?_eq_some_iff.mp hi).1
  have hjl := (List.getElem?_eq_some_iff.mp hj).1
  have hwa := hW.2.2.2.1.2 a (List.mem_of_getElem? hi)
  have hwb := hW.2.2.2.1.2 b (List.mem_of_getElem? hj)
  subst hx
  subst hy
  obtain ⟨pl1, kl1, ll1⟩ := hM1.1.nLand
  have va := (hM1.2.2.2.2.2.1.2 i a hi).1
  have vb := (hM1.2.2.2.2.2.1.2 j b hj).1
  have la := hwa.1
  have lb := hwb.1
  first | refine e_if_eqB 41 21 (by decide) rfl dX10_father_18 rfl (fun y2 => ?_) (fun y2 => ?_) | refine e_if_eqN 41 21 (by decide) rfl dX10_father_18 rfl (by omega) (fun y2 => ?_) (fun y2 => ?_) | refine e_if_eq 41 21 (by decide) rfl dX10_father_18 (fun y2 => ?_) (fun y2 => ?_)
  · cases y2
  refine e_il1 22 rfl dX10_father_21 ?_
  refine e_il2 23 rfl dX10_father_22 ?_
  first | refine e_cmp_eqN 41 26 (by decide) rfl dX10_father_23 rfl rfl (by omega) (by omega) (fun y3 => ?_) (fun y3 => ?_) | refine e_cmp_eq 41 26 (by decide) rfl dX10_father_23 (fun y3 => ?_) (fun y3 => ?_)
  · rw [if_pos (by rw [y3])] at k
    refine e_iconst (-1) 42 rfl dX10_father_41 ic_m1 ?_
    refine e_iret dX10_father_42 rfl ?_
    exact k μ1 f1 hM1
  rw [if_neg (fun q => y3 ((nI_eq (by omega) (by omega)).mp q))] at k
  unfold faV at k
  refine e_al0 27 rfl dX10_father_26 ?_
  refine e_getR 30 rfl dX10_father_27 f_X10_60 (by assumption) (by assumption) ?_
  refine e_il1 31 rfl dX10_father_30 ?_
  first | refine e_ialdv 32 rfl dX10_father_31 (by assumption) (by assumption) (by first | rfl | simp only [pk_mul, nI_add]) (by omega) (by omega) (by first | assumption | (simp only [mN_sF, mK_sF, mL_sF, mF_sF, mB_sF, mA_sF, mJ_sF, mP_sF, mO_sF, mN_sB, mK_sB, mL_sB, mF_sB, mB_sB, mA_sB, mJ_sB, mP_sB, mO_sB, mN_sA, mK_sA, mL_sA, mF_sA, mB_sA, mA_sA, mJ_sA, mP_sA, mO_sA, mN_sJ, mK_sJ, mL_sJ, mF_sJ, mB_sJ, mA_sJ, mJ_sJ, mP_sJ, mO_sJ, mN_sP, mK_sP, mL_sP, mF_sP, mB_sP, mA_sP, mJ_sP, mP_sP, mO_sP, mN_sO, mK_sO, mL_sO, mF_sO, mB_sO, mA_sO, mJ_sO, mP_sO, mO_sO, up2, if_true, if_false, eq_self, ite_true, ite_false, reduceIte, Nat.add_left_cancel_iff, Nat.add_eq_left, Nat.left_eq_add, Nat.reduceEqDiff]; assumption) | (simp only [mN_sF, mK_sF, mL_sF, mF_sF, mB_sF, mA_sF, mJ_sF, mP_sF, mO_sF, mN_sB, mK_sB, mL_sB, mF_sB, mB_sB, mA_sB, mJ_sB, mP_sB, mO_sB, mN_sA, mK_sA, mL_sA, mF_sA, mB_sA, mA_sA, mJ_sA, mP_sA, mO_sA, mN_sJ, mK_sJ, mL_sJ, mF_sJ, mB_sJ, mA_sJ, mJ_sJ, mP_sJ, mO_sJ, mN_sP, mK_sP, mL_sP, mF_sP, mB_sP, mA_sP, mJ_sP, mP_sP, mO_sP, mN_sO, mK_sO, mL_sO, mF_sO, mB_sO, mA_sO, mJ_sO, mP_sO, mO_sO, up2, if_true, if_false, eq_self, ite_true, ite_false, reduceIte, Nat.add_left_cancel_iff, Nat.add_eq_left, Nat.left_eq_add, Nat.reduceEqDiff]; done)) ?_ | refine e_iald 32 rfl dX10_father_31 (by assumption) (by assumption) (by first | rfl | simp only [pk_mul, nI_add]) (by omega) (by omega) ?_
  refine e_al0 33 rfl dX10_father_32 ?_
  refine e_getR 36 rfl dX10_father_33 f_X10_60 (by assumption) (by assumption) ?_
  refine e_il2 37 rfl dX10_father_36 ?_
  first | refine e_ialdv 38 rfl dX10_father_37 (by assumption) (by assumption) (by first | rfl | simp only [pk_mul, nI_add]) (by omega) (by omega) (by first | assumption | (simp only [mN_sF, mK_sF, mL_sF, mF_sF, mB_sF, mA_sF, mJ_sF, mP_sF, mO_sF, mN_sB, mK_sB, mL_sB, mF_sB, mB_sB, mA_sB, mJ_sB, mP_sB, mO_sB, mN_sA, mK_sA, mL_sA, mF_sA, mB_sA, mA_sA, mJ_sA, mP_sA, mO_sA, mN_sJ, mK_sJ, mL_sJ, mF_sJ, mB_sJ, mA_sJ, mJ_sJ, mP_sJ, mO_sJ, mN_sP, mK_sP, mL_sP, mF_sP, mB_sP, mA_sP, mJ_sP, mP_sP, mO_sP, mN_sO, mK_sO, mL_sO, mF_sO, mB_sO, mA_sO, mJ_sO, mP_sO, mO_sO, up2, if_true, if_false, eq_self, ite_true, ite_false, reduceIte, Nat.add_left_cancel_iff, Nat.add_eq_left, Nat.left_eq_add, Nat.reduceEqDiff]; assumption) | (simp only [mN_sF, mK_sF, mL_sF, mF_sF, mB_sF, mA_sF, mJ_sF, mP_sF, mO_sF, mN_sB, mK_sB, mL_sB, mF_sB, mB_sB, mA_sB, mJ_sB, mP_sB, mO_sB, mN_sA, mK_sA, mL_sA, mF_sA, mB_sA, mA_sA, mJ_sA, mP_sA, mO_sA, mN_sJ, mK_sJ, mL_sJ, mF_sJ, mB_sJ, mA_sJ, mJ_sJ, mP_sJ, mO_sJ, mN_sP, mK_sP, mL_sP, mF_sP, mB_sP, mA_sP, mJ_sP, mP_sP, mO_sP, mN_sO, mK_sO, mL_sO, mF_sO, mB_sO, mA_sO, mJ_sO, mP_sO, mO_sO, up2, if_true, if_false, eq_self, ite_true, ite_false, reduceIte, Nat.add_left_cancel_iff, Nat.add_eq_left, Nat.left_eq_add, Nat.reduceEqDiff]; done)) ?_ | refine e_iald 38 rfl dX10_father_37 (by assumption) (by assumption) (by first | rfl | simp only [pk_mul, nI_add]) (by omega) (by omega) ?_
  first | refine e_cmp_eqN 43 41 (by decide) rfl dX10_father_38 rfl rfl (by omega) (by omega) (fun y4 => ?_) (fun y4 => ?_) | refine e_cmp_eq 43 41 (by decide) rfl dX10_father_38 (fun y4 => ?_) (fun y4 => ?_)
  rotate_left
  · rw [if_neg y4] at k
    refine e_iconst (-1) 42 rfl dX10_father_41 ic_m1 ?_
    refine e_iret dX10_father_42 rfl ?_
    exact k μ1 f1 hM1
  rw [if_pos y4] at k
  refine e_al0 44 rfl dX10_father_43 ?_
  refine e_il1 45 rfl dX10_father_44 ?_
  refine e_invV0 [_] 48 rfl dX10_father_45 k_X10_219 mo_X10_first rm_X10_father_X10_first ⟨rfl, rfl⟩ rfl rfl (by assumption) (Nat.le_of_ble_eq_true rfl) ?_
  refine c_first hW hM1 hi (fun μ2 hF2 hf2 hs2 _ _ => ?_)
  have hM2 : MI m S μ2 := hM1.scr (fsS_mQ hF2) (fun f hf => hf2 f (by omega))
  have mk2 := hM2.1.1
  refine e_al0 49 rfl dX10_father_48 ?_
  refine e_il2 50 rfl dX10_father_49 ?_
  refine e_invV0 [_] 53 rfl dX10_father_50 k_X10_219 mo_X10_first rm_X10_father_X10_first ⟨rfl, rfl⟩ rfl rfl (by assumption) (Nat.le_of_ble_eq_true rfl) ?_
  refine c_first hW hM2 hj (fun μ3 hF3 hf3 hs3 hu3 hv3 => ?_)
  have hM3 : MI m S μ3 := hM2.scr (fsS_mQ hF3) (fun f hf => hf3 f (by omega))
  have mk3 := hM3.1.1
  have kf := k μ3 ((f1.trans (mQ_MF (fsS_mQ hF2))).trans (mQ_MF (fsS_mQ hF3))) hM3
  have hij : i ≠ j := y3
  have hsa : mFs μ3 m i S a := by
    refine ⟨by rw [hu3 i hij]; exact hs2.1, fun h => (hs2.2 h).of (fun w hw => hv3 _ ?_)⟩
    have hw' : w < a.2.length := by unfold rK at hw; rw [rdK_len] at hw; exact hw
    have := hwa.2.2.1
    omega
  have ra := hsa.1
  have rb := hs3.1
  obtain ⟨pr, kr, lr⟩ := hM3.1.isRead
  obtain ⟨pl, kl, ll⟩ := hM3.1.nLand
  obtain ⟨pfz, kfz, lfz⟩ := hM3.1.foldSize
  obtain ⟨pfo, kfo, lfo⟩ := hM3.1.fold
  obtain ⟨pez, kez, lez⟩ := hM3.1.endSize
  obtain ⟨peb, keb, leb⟩ := hM3.1.endBy
  obtain ⟨na1, na2, na3⟩ := hM3.2.2.2.2.2.1.2 i a hi
  obtain ⟨nb1, nb2, nb3⟩ := hM3.2.2.2.2.2.1.2 j b hj
  have a8 := hwa.2.2.1
  have b8 := hwb.2.2.1
  have noA : pls (rB S a) 32 (rK S a) 0 = [] → K (some (.int (-1))) μ3 := fun h => by rw [h] at kf; exact kf
  have noB : pls (rB S b) 2 (rK S b) 0 = [] → K (some (.int (-1))) μ3 := fun h => by
    rw [h] at kf
    cases e : pls (rB S a) 32 (rK S a) 0 with
    | nil => rw [e] at kf; exact kf
    | cons => rw [e] at kf; exact kf
  -- what is known of the second word, from place 74 on
  have second : ∀ (ma : Option Nat), (ma = (pls (rB S a) 32 (rK S a) 0)[0]?) → (∀ p, ma = some p → p < a.2.length) → Ev E M_X10_father 0 0 74 [some (.ref m), some (.int (nI i)), some (.int (nI j)), none, none, none, none, none] [.int (seeI (ma.map (fun p => 8 * i + p)))] μ3 K := by
    intro ma hma hmal
    have last : ∀ (mb : Option Nat), (mb = (pls (rB S b) 2 (rK S b) 0)[0]?) → (∀ p, mb = some p → p < b.2.length) → Ev E M_X10_father 0 0 96 [some (.ref m), some (.int (nI i)), some (.int (nI j)), some (.int (seeI (ma.map (fun p => 8 * i + p)))), none, none, none, none] [.int (seeI (mb.map (fun p => 8 * j + p)))] μ3 K := by
      intro mb hmb hmbl
      cases ma with
      | none =>
        have hA : pls (rB S a) 32 (rK S a) 0 = [] := by
          cases e : pls (rB S a) 32 (rK S a) 0 with
          | nil => rfl
          | cons u v => rw [e] at hma; cases hma
        rw [show seeI ((none : Option Nat).map (fun p => 8 * i + p)) = -1 from rfl]
        refine e_is4 98 rfl dX10_father_96 (by decide) rfl ?_
        refine e_il3 99 rfl dX10_father_98 ?_
        refine e_if_lt 107 102 (by decide) rfl dX10_father_99 (fun z3 => ?_) (fun z3 => ?_)
        rotate_left
        · exact absurd (by decide) z3
        refine e_iconst (-1) 108 rfl dX10_father_107 ic_m1 ?_
        refine e_iret dX10_father_108 rfl ?_
        exact noA hA
      | some p =>
      cases mb with
      | none =>
        have hB : pls (rB S b) 2 (rK S b) 0 = [] := by
          cases e : pls (rB S b) 2 (rK S b) 0 with
          | nil => rfl
          | cons u v => rw [e] at hmb; cases hmb
        have hpl := hmal p rfl
        rw [show seeI ((some p).map (fun p => 8 * i + p)) = nI (8 * i + p) from rfl, show seeI ((none : Option Nat).map (fun p => 8 * j + p)) = -1 from rfl]
        refine e_is4 98 rfl dX10_father_96 (by decide) rfl ?_
        refine e_il3 99 rfl dX10_father_98 ?_
        first | refine e_if_ltN 107 102 (by decide) rfl dX10_father_99 rfl (by omega) ?_ | refine e_if_lt 107 102 (by decide) rfl dX10_father_99 (fun h => ?_) (fun h => ?_)
        refine e_il4 104 rfl dX10_father_102 ?_
        refine e_if_ge 109 107 (by decide) rfl dX10_father_104 (fun z3 => ?_) (fun z3 => ?_)
        · exact absurd z3 (by decide)
        refine e_iconst (-1) 108 rfl dX10_father_107 ic_m1 ?_
        refine e_iret dX10_father_108 rfl ?_
        exact noB hB
      | some q =>
      have hpl := hmal p rfl
      have hql := hmbl q rfl
      obtain ⟨rA, eA⟩ : ∃ r, pls (rB S a) 32 (rK S a) 0 = p :: r := by
        cases e : pls (rB S a) 32 (rK S a) 0 with
        | nil => rw [e] at hma; cases hma
        | cons u v => rw [e] at hma; exact ⟨v, by rw [Option.some.inj hma]⟩
      obtain ⟨rB', eB⟩ : ∃ r, pls (rB S b) 2 (rK S b) 0 = q :: r := by
        cases e : pls (rB S b) 2 (rK S b) 0 with
        | nil => rw [e] at hmb; cases hmb
        | cons u v => rw [e] at hmb; exact ⟨v, by rw [Option.some.inj hmb]⟩
      rw [eA, eB] at kf
      simp only [] at kf
      have hra : rB S a = true := by
        cases c : rB S a with
        | true => rfl
        | false => rw [c] at eA; cases eA
      obtain ⟨xs, hxs⟩ := rB_shape hW hra
      have hxw := hW.2.1 a.1 xs hxs
      have hsh := (hM3.2.2.2.1 a.1 la).2 xs hxs
      have made : madeL (enO (aS S a.1)) ((fsN a).getD p []) = true := by
        refine rK_made hW a8 hra hpl ?_
        have hm : p ∈ plB 32 (rK S a) 0 := by
          have : p ∈ pls (rB S a) 32 (rK S a) 0 := by rw [eA]; exact List.mem_cons_self
          rw [hra] at this
          exact this
        obtain ⟨_, c, h1, h2⟩ := plB_kind _ _ _ hm
        rw [Nat.sub_zero] at h1
        have hc7 := rK_lt hW a8 hra c (List.mem_of_getElem? h1)
        have : c = 5 := by
          have : ∀ c, c < 7 → (32 : Nat).testBit c = true → c = 5 := by decide
          exact this c hc7 h2
        rw [this] at h1
        exact h1
      rw [made, Bool.true_and] at kf
      have hiff := made_iff (g := (fsN b).getD q []) made
      rw [hxs] at kf hiff
      have hen : enO (some xs) = xs.2.2.2 := rfl
      rw [hen, fsN_get hpl, fsN_get hql] at kf hiff
      obtain ⟨ez1, ez2⟩ := hsh.2.2.2.2
      obtain ⟨⟨_, _⟩, wz, wH⟩ := na3 p _ (List.getElem?_eq_getElem hpl)
      obtain ⟨⟨_, _⟩, gz, gH⟩ := nb3 q _ (List.getElem?_eq_getElem hql)
      have xw := wordL (hwa.2.2.2 _ (List.getElem_mem hpl))
      have xg := wordL (hwb.2.2.2 _ (List.getElem_mem hql))
      obtain ⟨w, hw⟩ : ∃ w, w = foldL a.2[p] := ⟨_, rfl⟩
      obtain ⟨g, hg⟩ : ∃ g, g = foldL b.2[q] := ⟨_, rfl⟩
      obtain ⟨en, hene⟩ : ∃ en, en = xs.2.2.2 := ⟨_, rfl⟩
      have hwr : ∀ c ∈ w, 97 ≤ c ∧ c ≤ 122 := by rw [hw]; exact foldL_r
      have hgr : ∀ c ∈ g, 97 ≤ c ∧ c ≤ 122 := by rw [hg]; exact foldL_r
      have her : ∀ c ∈ en, 97 ≤ c ∧ c ≤ 122 := by rw [hene]; exact hxw.2.2.2.2
      have e6 : en.length ≤ 6 := by rw [hene]; exact hxw.2.2.2.1
      have w20 : w.length ≤ 20 := by rw [hw]; exact xw.2.2.2.1
      have g20 : g.length ≤ 20 := by rw [hg]; exact xg.2.2.2.1
      rw [← hw] at kf hiff wz wH
      rw [← hg] at kf hiff gz gH
      rw [← hene] at kf hiff ez1 ez2
      have kf2 : K (some (.int (bI (decide (w = g ++ en))))) μ3 := by
        have : decide (g = w.take (w.length - en.length)) = decide (w = g ++ en) := by
          by_cases c : w = g ++ en
          · rw [decide_eq_true c, decide_eq_true (hiff.mpr c)]
          · rw [decide_eq_false c, decide_eq_false (fun q => c (hiff.mp q))]
        rw [← this]; exact kf
      clear kf
      rw [show seeI ((some p).map (fun p => 8 * i + p)) = nI (8 * i + p) from rfl, show seeI ((some q).map (fun p => 8 * j + p)) = nI (8 * j + q) from rfl]
      refine e_is4 98 rfl dX10_father_96 (by decide) rfl ?_
      refine e_il3 99 rfl dX10_father_98 ?_
      first | refine e_if_ltN 107 102 (by decide) rfl dX10_father_99 rfl (by omega) ?_ | refine e_if_lt 107 102 (by decide) rfl dX10_father_99 (fun h => ?_) (fun h => ?_)
      refine e_il4 104 rfl dX10_father_102 ?_
      first | refine e_if_geN 109 107 (by decide) rfl dX10_father_104 rfl (by omega) ?_ | refine e_if_ge 109 107 (by decide) rfl dX10_father_104 (fun h => ?_) (fun h => ?_)
      refine e_al0 110 rfl dX10_father_109 ?_
      refine e_getR 113 rfl dX10_father_110 f_X10_60 (by assumption) (by assumption) ?_
      refine e_il1 114 rfl dX10_father_113 ?_
      first | refine e_ialdv 115 rfl dX10_father_114 (by assumption) (by assumption) (by first | rfl | simp only [pk_mul, nI_add]) (by omega) (by omega) (by first | assumption | (simp only [mN_sF, mK_sF, mL_sF, mF_sF, mB_sF, mA_sF, mJ_sF, mP_sF, mO_sF, mN_sB, mK_sB, mL_sB, mF_sB, mB_sB, mA_sB, mJ_sB, mP_sB, mO_sB, mN_sA, mK_sA, mL_sA, mF_sA, mB_sA, mA_sA, mJ_sA, mP_sA, mO_sA, mN_sJ, mK_sJ, mL_sJ, mF_sJ, mB_sJ, mA_sJ, mJ_sJ, mP_sJ, mO_sJ, mN_sP, mK_sP, mL_sP, mF_sP, mB_sP, mA_sP, mJ_sP, mP_sP, mO_sP, mN_sO, mK_sO, mL_sO, mF_sO, mB_sO, mA_sO, mJ_sO, mP_sO, mO_sO, up2, if_true, if_false, eq_self, ite_true, ite_false, reduceIte, Nat.add_left_cancel_iff, Nat.add_eq_left, Nat.left_eq_add, Nat.reduceEqDiff]; assumption) | (simp only [mN_sF, mK_sF, mL_sF, mF_sF, mB_sF, mA_sF, mJ_sF, mP_sF, mO_sF, mN_sB, mK_sB, mL_sB, mF_sB, mB_sB, mA_sB, mJ_sB, mP_sB, mO_sB, mN_sA, mK_sA, mL_sA, mF_sA, mB_sA, mA_sA, mJ_sA, mP_sA, mO_sA, mN_sJ, mK_sJ, mL_sJ, mF_sJ, mB_sJ, mA_sJ, mJ_sJ, mP_sJ, mO_sJ, mN_sP, mK_sP, mL_sP, mF_sP, mB_sP, mA_sP, mJ_sP, mP_sP, mO_sP, mN_sO, mK_sO, mL_sO, mF_sO, mB_sO, mA_sO, mJ_sO, mP_sO, mO_sO, up2, if_true, if_false, eq_self, ite_true, ite_false, reduceIte, Nat.add_left_cancel_iff, Nat.add_eq_left, Nat.left_eq_add, Nat.reduceEqDiff]; done)) ?_ | refine e_iald 115 rfl dX10_father_114 (by assumption) (by assumption) (by first | rfl | simp only [pk_mul, nI_add]) (by omega) (by omega) ?_
      refine e_is5 117 rfl dX10_father_115 (by decide) rfl ?_
      refine e_al0 118 rfl dX10_father_117 ?_
      refine e_getR 121 rfl dX10_father_118 f_X10_75 (by assumption) (by assumption) ?_
      refine e_il3 122 rfl dX10_father_121 ?_
      first | refine e_ialdv 123 rfl dX10_father_122 (by assumption) (by assumption) (by first | rfl | simp only [pk_mul, nI_add]) (by omega) (by omega) (by first | assumption | (simp only [mN_sF, mK_sF, mL_sF, mF_sF, mB_sF, mA_sF, mJ_sF, mP_sF, mO_sF, mN_sB, mK_sB, mL_sB, mF_sB, mB_sB, mA_sB, mJ_sB, mP_sB, mO_sB, mN_sA, mK_sA, mL_sA, mF_sA, mB_sA, mA_sA, mJ_sA, mP_sA, mO_sA, mN_sJ, mK_sJ, mL_sJ, mF_sJ, mB_sJ, mA_sJ, mJ_sJ, mP_sJ, mO_sJ, mN_sP, mK_sP, mL_sP, mF_sP, mB_sP, mA_sP, mJ_sP, mP_sP, mO_sP, mN_sO, mK_sO, mL_sO, mF_sO, mB_sO, mA_sO, mJ_sO, mP_sO, mO_sO, up2, if_true, if_false, eq_self, ite_true, ite_false, reduceIte, Nat.add_left_cancel_iff, Nat.add_eq_left, Nat.left_eq_add, Nat.reduceEqDiff]; assumption) | (simp only [mN_sF, mK_sF, mL_sF, mF_sF, mB_sF, mA_sF, mJ_sF, mP_sF, mO_sF, mN_sB, mK_sB, mL_sB, mF_sB, mB_sB, mA_sB, mJ_sB, mP_sB, mO_sB, mN_sA, mK_sA, mL_sA, mF_sA, mB_sA, mA_sA, mJ_sA, mP_sA, mO_sA, mN_sJ, mK_sJ, mL_sJ, mF_sJ, mB_sJ, mA_sJ, mJ_sJ, mP_sJ, mO_sJ, mN_sP, mK_sP, mL_sP, mF_sP, mB_sP, mA_sP, mJ_sP, mP_sP, mO_sP, mN_sO, mK_sO, mL_sO, mF_sO, mB_sO, mA_sO, mJ_sO, mP_sO, mO_sO, up2, if_true, if_false, eq_self, ite_true, ite_false, reduceIte, Nat.add_left_cancel_iff, Nat.add_eq_left, Nat.left_eq_add, Nat.reduceEqDiff]; done)) ?_ | refine e_iald 123 rfl dX10_father_122 (by assumption) (by assumption) (by first | rfl | simp only [pk_mul, nI_add]) (by omega) (by omega) ?_
      refine e_al0 124 rfl dX10_father_123 ?_
      refine e_getR 127 rfl dX10_father_124 f_X10_75 (by assumption) (by assumption) ?_
      refine e_il4 129 rfl dX10_father_127 ?_
      first | refine e_ialdv 130 rfl dX10_father_129 (by assumption) (by assumption) (by first | rfl | simp only [pk_mul, nI_add]) (by omega) (by omega) (by first | assumption | (simp only [mN_sF, mK_sF, mL_sF, mF_sF, mB_sF, mA_sF, mJ_sF, mP_sF, mO_sF, mN_sB, mK_sB, mL_sB, mF_sB, mB_sB, mA_sB, mJ_sB, mP_sB, mO_sB, mN_sA, mK_sA, mL_sA, mF_sA, mB_sA, mA_sA, mJ_sA, mP_sA, mO_sA, mN_sJ, mK_sJ, mL_sJ, mF_sJ, mB_sJ, mA_sJ, mJ_sJ, mP_sJ, mO_sJ, mN_sP, mK_sP, mL_sP, mF_sP, mB_sP, mA_sP, mJ_sP, mP_sP, mO_sP, mN_sO, mK_sO, mL_sO, mF_sO, mB_sO, mA_sO, mJ_sO, mP_sO, mO_sO, up2, if_true, if_false, eq_self, ite_true, ite_false, reduceIte, Nat.add_left_cancel_iff, Nat.add_eq_left, Nat.left_eq_add, Nat.reduceEqDiff]; assumption) | (simp only [mN_sF, mK_sF, mL_sF, mF_sF, mB_sF, mA_sF, mJ_sF, mP_sF, mO_sF, mN_sB, mK_sB, mL_sB, mF_sB, mB_sB, mA_sB, mJ_sB, mP_sB, mO_sB, mN_sA, mK_sA, mL_sA, mF_sA, mB_sA, mA_sA, mJ_sA, mP_sA, mO_sA, mN_sJ, mK_sJ, mL_sJ, mF_sJ, mB_sJ, mA_sJ, mJ_sJ, mP_sJ, mO_sJ, mN_sP, mK_sP, mL_sP, mF_sP, mB_sP, mA_sP, mJ_sP, mP_sP, mO_sP, mN_sO, mK_sO, mL_sO, mF_sO, mB_sO, mA_sO, mJ_sO, mP_sO, mO_sO, up2, if_true, if_false, eq_self, ite_true, ite_false, reduceIte, Nat.add_left_cancel_iff, Nat.add_eq_left, Nat.left_eq_add, Nat.reduceEqDiff]; done)) ?_ | refine e_iald 130 rfl dX10_father_129 (by assumption) (by assumption) (by first | rfl | simp only [pk_mul, nI_add]) (by omega) (by omega) ?_
      refine e_al0 131 rfl dX10_father_130 ?_
      refine e_getR 134 rfl dX10_father_131 f_X10_50 (by assumption) (by assumption) ?_
      refine e_il5 136 rfl dX10_father_134 ?_
      first | refine e_ialdv 137 rfl dX10_father_136 (by assumption) (by assumption) (by first | rfl | simp only [pk_mul, nI_add]) (by omega) (by omega) (by first | assumption | (simp only [mN_sF, mK_sF, mL_sF, mF_sF, mB_sF, mA_sF, mJ_sF, mP_sF, mO_sF, mN_sB, mK_sB, mL_sB, mF_sB, mB_sB, mA_sB, mJ_sB, mP_sB, mO_sB, mN_sA, mK_sA, mL_sA, mF_sA, mB_sA, mA_sA, mJ_sA, mP_sA, mO_sA, mN_sJ, mK_sJ, mL_sJ, mF_sJ, mB_sJ, mA_sJ, mJ_sJ, mP_sJ, mO_sJ, mN_sP, mK_sP, mL_sP, mF_sP, mB_sP, mA_sP, mJ_sP, mP_sP, mO_sP, mN_sO, mK_sO, mL_sO, mF_sO, mB_sO, mA_sO, mJ_sO, mP_sO, mO_sO, up2, if_true, if_false, eq_self, ite_true, ite_false, reduceIte, Nat.add_left_cancel_iff, Nat.add_eq_left, Nat.left_eq_add, Nat.reduceEqDiff]; assumption) | (simp only [mN_sF, mK_sF, mL_sF, mF_sF, mB_sF, mA_sF, mJ_sF, mP_sF, mO_sF, mN_sB, mK_sB, mL_sB, mF_sB, mB_sB, mA_sB, mJ_sB, mP_sB, mO_sB, mN_sA, mK_sA, mL_sA, mF_sA, mB_sA, mA_sA, mJ_sA, mP_sA, mO_sA, mN_sJ, mK_sJ, mL_sJ, mF_sJ, mB_sJ, mA_sJ, mJ_sJ, mP_sJ, mO_sJ, mN_sP, mK_sP, mL_sP, mF_sP, mB_sP, mA_sP, mJ_sP, mP_sP, mO_sP, mN_sO, mK_sO, mL_sO, mF_sO, mB_sO, mA_sO, mJ_sO, mP_sO, mO_sO, up2, if_true, if_false, eq_self, ite_true, ite_false, reduceIte, Nat.add_left_cancel_iff, Nat.add_eq_left, Nat.left_eq_add, Nat.reduceEqDiff]; done)) ?_ | refine e_iald 137 rfl dX10_father_136 (by assumption) (by assumption) (by first | rfl | simp only [pk_mul, nI_add]) (by omega) (by omega) ?_
      first | refine e_iaddN 138 rfl dX10_father_137 rfl rfl ?_ | refine e_iadd 138 rfl dX10_father_137 ?_
      first | refine e_cmp_eqN 143 141 (by decide) rfl dX10_father_138 rfl rfl (by omega) (by omega) (fun z4 => ?_) (fun z4 => ?_) | refine e_cmp_eq 143 141 (by decide) rfl dX10_father_138 (fun z4 => ?_) (fun z4 => ?_)
      rotate_left
      · refine e_iconst (nI 0) 142 rfl dX10_father_141 ic_0 ?_
        refine e_iret dX10_father_142 rfl ?_
        rw [show decide (w = g ++ en) = false from decide_eq_false (fun e => z4 (by rw [e, List.length_append]))] at kf2
        exact kf2
      refine e_iconst (nI 0) 144 rfl dX10_father_143 ic_0 ?_
      refine e_is6 146 rfl dX10_father_144 (by decide) rfl ?_
      have hlen : (g ++ en).length = w.length := by rw [List.length_append]; omega
      have loop : ∀ (fu t : Nat), t + fu = w.length → w.take t = (g ++ en).take t → ∀ q7, Ev E M_X10_father 0 0 146 [some (.ref m), some (.int (nI i)), some (.int (nI j)), some (.int (nI (8 * i + p))), some (.int (nI (8 * j + q))), some (.int (nI a.1)), some (.int (nI t)), q7] [] μ3 K := by
        intro fu
        induction fu with
        | zero =>
          intro t ht htk q7
          rw [List.take_of_length_le (by omega), List.take_of_length_le (by omega)] at htk
          refine e_il6 148 rfl dX10_father_146 ?_
          refine e_al0 149 rfl dX10_father_148 ?_
          refine e_getR 152 rfl dX10_father_149 f_X10_75 (by assumption) (by assumption) ?_
          refine e_il3 153 rfl dX10_father_152 ?_
          first | refine e_ialdv 154 rfl dX10_father_153 (by assumption) (by assumption) (by first | rfl | simp only [pk_mul, nI_add]) (by omega) (by omega) (by first | assumption | (simp only [mN_sF, mK_sF, mL_sF, mF_sF, mB_sF, mA_sF, mJ_sF, mP_sF, mO_sF, mN_sB, mK_sB, mL_sB, mF_sB, mB_sB, mA_sB, mJ_sB, mP_sB, mO_sB, mN_sA, mK_sA, mL_sA, mF_sA, mB_sA, mA_sA, mJ_sA, mP_sA, mO_sA, mN_sJ, mK_sJ, mL_sJ, mF_sJ, mB_sJ, mA_sJ, mJ_sJ, mP_sJ, mO_sJ, mN_sP, mK_sP, mL_sP, mF_sP, mB_sP, mA_sP, mJ_sP, mP_sP, mO_sP, mN_sO, mK_sO, mL_sO, mF_sO, mB_sO, mA_sO, mJ_sO, mP_sO, mO_sO, up2, if_true, if_false, eq_self, ite_true, ite_false, reduceIte, Nat.add_left_cancel_iff, Nat.add_eq_left, Nat.left_eq_add, Nat.reduceEqDiff]; assumption) | (simp only [mN_sF, mK_sF, mL_sF, mF_sF, mB_sF, mA_sF, mJ_sF, mP_sF, mO_sF, mN_sB, mK_sB, mL_sB, mF_sB, mB_sB, mA_sB, mJ_sB, mP_sB, mO_sB, mN_sA, mK_sA, mL_sA, mF_sA, mB_sA, mA_sA, mJ_sA, mP_sA, mO_sA, mN_sJ, mK_sJ, mL_sJ, mF_sJ, mB_sJ, mA_sJ, mJ_sJ, mP_sJ, mO_sJ, mN_sP, mK_sP, mL_sP, mF_sP, mB_sP, mA_sP, mJ_sP, mP_sP, mO_sP, mN_sO, mK_sO, mL_sO, mF_sO, mB_sO, mA_sO, mJ_sO, mP_sO, mO_sO, up2, if_true, if_false, eq_self, ite_true, ite_false, reduceIte, Nat.add_left_cancel_iff, Nat.add_eq_left, Nat.left_eq_add, Nat.reduceEqDiff]; done)) ?_ | refine e_iald 154 rfl dX10_father_153 (by assumption) (by assumption) (by first | rfl | simp only [pk_mul, nI_add]) (by omega) (by omega) ?_
          first | refine e_cmp_geN 233 157 (by decide) rfl dX10_father_154 rfl rfl (by omega) (by omega) (fun z5 => ?_) (fun z5 => ?_) | refine e_cmp_ge 233 157 (by decide) rfl dX10_father_154 (fun z5 => ?_) (fun z5 => ?_)
          rotate_left
          · omega
          refine e_iconst (nI 1) 234 rfl dX10_father_233 ic_1 ?_
          refine e_iret dX10_father_234 rfl ?_
          rw [show decide (w = g ++ en) = true from decide_eq_true htk] at kf2
          exact kf2
        | succ fu ih =>
          intro t ht htk q7
          have h1 : t < w.length := by omega
          have h2 : t < (g ++ en).length := by omega
          have vw : mA μ3 (m + 20) (21 * (8 * i + p) + t) = nI w[t] := wH.at h1
          have cw := hwr _ (List.getElem_mem h1)
          have step : ∀ v, v = nI (g ++ en)[t] → Ev E M_X10_father 0 0 206 [some (.ref m), some (.int (nI i)), some (.int (nI j)), some (.int (nI (8 * i + p))), some (.int (nI (8 * j + q))), some (.int (nI a.1)), some (.int (nI t)), q7] [.int v] μ3 K := by
            intro v hv
            subst hv
            have cc : (g ++ en)[t] ≤ 122 := by
              rcases List.mem_append.mp (List.getElem_mem h2) with c | c
              · exact (hgr _ c).2
              · exact (her _ c).2
            refine e_is7 208 rfl dX10_father_206 (by decide) rfl ?_
            refine e_al0 209 rfl dX10_father_208 ?_
            refine e_getR 212 rfl dX10_father_209 f_X10_72 (by assumption) (by assumption) ?_
            refine e_bipush (nI 21) 214 rfl dX10_father_212 bc_21 ?_
            refine e_il3 215 rfl dX10_father_214 ?_
            first | refine e_imulN 216 rfl dX10_father_215 rfl rfl ?_ | refine e_imul 216 rfl dX10_father_215 ?_
            refine e_il6 218 rfl dX10_father_216 ?_
            first | refine e_iaddN 219 rfl dX10_father_218 rfl rfl ?_ | refine e_iadd 219 rfl dX10_father_218 ?_
            first | refine e_ialdv 220 rfl dX10_father_219 (by assumption) (by assumption) (by first | rfl | simp only [pk_mul, nI_add]) (by omega) (by omega) (by first | assumption | (simp only [mN_sF, mK_sF, mL_sF, mF_sF, mB_sF, mA_sF, mJ_sF, mP_sF, mO_sF, mN_sB, mK_sB, mL_sB, mF_sB, mB_sB, mA_sB, mJ_sB, mP_sB, mO_sB, mN_sA, mK_sA, mL_sA, mF_sA, mB_sA, mA_sA, mJ_sA, mP_sA, mO_sA, mN_sJ, mK_sJ, mL_sJ, mF_sJ, mB_sJ, mA_sJ, mJ_sJ, mP_sJ, mO_sJ, mN_sP, mK_sP, mL_sP, mF_sP, mB_sP, mA_sP, mJ_sP, mP_sP, mO_sP, mN_sO, mK_sO, mL_sO, mF_sO, mB_sO, mA_sO, mJ_sO, mP_sO, mO_sO, up2, if_true, if_false, eq_self, ite_true, ite_false, reduceIte, Nat.add_left_cancel_iff, Nat.add_eq_left, Nat.left_eq_add, Nat.reduceEqDiff]; assumption) | (simp only [mN_sF, mK_sF, mL_sF, mF_sF, mB_sF, mA_sF, mJ_sF, mP_sF, mO_sF, mN_sB, mK_sB, mL_sB, mF_sB, mB_sB, mA_sB, mJ_sB, mP_sB, mO_sB, mN_sA, mK_sA, mL_sA, mF_sA, mB_sA, mA_sA, mJ_sA, mP_sA, mO_sA, mN_sJ, mK_sJ, mL_sJ, mF_sJ, mB_sJ, mA_sJ, mJ_sJ, mP_sJ, mO_sJ, mN_sP, mK_sP, mL_sP, mF_sP, mB_sP, mA_sP, mJ_sP, mP_sP, mO_sP, mN_sO, mK_sO, mL_sO, mF_sO, mB_sO, mA_sO, mJ_sO, mP_sO, mO_sO, up2, if_true, if_false, eq_self, ite_true, ite_false, reduceIte, Nat.add_left_cancel_iff, Nat.add_eq_left, Nat.left_eq_add, Nat.reduceEqDiff]; done)) ?_ | refine e_iald 220 rfl dX10_father_219 (by assumption) (by assumption) (by first | rfl | simp only [pk_mul, nI_add]) (by omega) (by omega) ?_
            refine e_il7 222 rfl dX10_father_220 ?_
            first | refine e_cmp_eqN 227 225 (by decide) rfl dX10_father_222 rfl rfl (by omega) (by omega) (fun z7 => ?_) (fun z7 => ?_) | refine e_cmp_eq 227 225 (by decide) rfl dX10_father_222 (fun z7 => ?_) (fun z7 => ?_)
            · refine e_ii6 (nI (_ + 1)) 230 rfl dX10_father_227 (ii1 _) rfl ?_
              refine e_goto 146 (by decide) dX10_father_230 ?_
              exact ih (t + 1) (by omega) ((take_succ_eq h1 h2 htk).mpr z7) _
            · refine e_iconst (nI 0) 226 rfl dX10_father_225 ic_0 ?_
              refine e_iret dX10_father_226 rfl ?_
              rw [show decide (w = g ++ en) = false from decide_eq_false (fun e => z7 (by simp only [e]))] at kf2
              exact kf2
          refine e_il6 148 rfl dX10_father_146 ?_
          refine e_al0 149 rfl dX10_father_148 ?_
          refine e_getR 152 rfl dX10_father_149 f_X10_75 (by assumption) (by assumption) ?_
          refine e_il3 153 rfl dX10_father_152 ?_
          first | refine e_ialdv 154 rfl dX10_father_153 (by assumption) (by assumption) (by first | rfl | simp only [pk_mul, nI_add]) (by omega) (by omega) (by first | assumption | (simp only [mN_sF, mK_sF, mL_sF, mF_sF, mB_sF, mA_sF, mJ_sF, mP_sF, mO_sF, mN_sB, mK_sB, mL_sB, mF_sB, mB_sB, mA_sB, mJ_sB, mP_sB, mO_sB, mN_sA, mK_sA, mL_sA, mF_sA, mB_sA, mA_sA, mJ_sA, mP_sA, mO_sA, mN_sJ, mK_sJ, mL_sJ, mF_sJ, mB_sJ, mA_sJ, mJ_sJ, mP_sJ, mO_sJ, mN_sP, mK_sP, mL_sP, mF_sP, mB_sP, mA_sP, mJ_sP, mP_sP, mO_sP, mN_sO, mK_sO, mL_sO, mF_sO, mB_sO, mA_sO, mJ_sO, mP_sO, mO_sO, up2, if_true, if_false, eq_self, ite_true, ite_false, reduceIte, Nat.add_left_cancel_iff, Nat.add_eq_left, Nat.left_eq_add, Nat.reduceEqDiff]; assumption) | (simp only [mN_sF, mK_sF, mL_sF, mF_sF, mB_sF, mA_sF, mJ_sF, mP_sF, mO_sF, mN_sB, mK_sB, mL_sB, mF_sB, mB_sB, mA_sB, mJ_sB, mP_sB, mO_sB, mN_sA, mK_sA, mL_sA, mF_sA, mB_sA, mA_sA, mJ_sA, mP_sA, mO_sA, mN_sJ, mK_sJ, mL_sJ, mF_sJ, mB_sJ, mA_sJ, mJ_sJ, mP_sJ, mO_sJ, mN_sP, mK_sP, mL_sP, mF_sP, mB_sP, mA_sP, mJ_sP, mP_sP, mO_sP, mN_sO, mK_sO, mL_sO, mF_sO, mB_sO, mA_sO, mJ_sO, mP_sO, mO_sO, up2, if_true, if_false, eq_self, ite_true, ite_false, reduceIte, Nat.add_left_cancel_iff, Nat.add_eq_left, Nat.left_eq_add, Nat.reduceEqDiff]; done)) ?_ | refine e_iald 154 rfl dX10_father_153 (by assumption) (by assumption) (by first | rfl | simp only [pk_mul, nI_add]) (by omega) (by omega) ?_
          first | refine e_cmp_geN 233 157 (by decide) rfl dX10_father_154 rfl rfl (by omega) (by omega) (fun z5 => ?_) (fun z5 => ?_) | refine e_cmp_ge 233 157 (by decide) rfl dX10_father_154 (fun z5 => ?_) (fun z5 => ?_)
          · omega
          refine e_il6 159 rfl dX10_father_157 ?_
          refine e_al0 160 rfl dX10_father_159 ?_
          refine e_getR 163 rfl dX10_father_160 f_X10_75 (by assumption) (by assumption) ?_
          refine e_il4 165 rfl dX10_father_163 ?_
          first | refine e_ialdv 166 rfl dX10_father_165 (by assumption) (by assumption) (by first | rfl | simp only [pk_mul, nI_add]) (by omega) (by omega) (by first | assumption | (simp only [mN_sF, mK_sF, mL_sF, mF_sF, mB_sF, mA_sF, mJ_sF, mP_sF, mO_sF, mN_sB, mK_sB, mL_sB, mF_sB, mB_sB, mA_sB, mJ_sB, mP_sB, mO_sB, mN_sA, mK_sA, mL_sA, mF_sA, mB_sA, mA_sA, mJ_sA, mP_sA, mO_sA, mN_sJ, mK_sJ, mL_sJ, mF_sJ, mB_sJ, mA_sJ, mJ_sJ, mP_sJ, mO_sJ, mN_sP, mK_sP, mL_sP, mF_sP, mB_sP, mA_sP, mJ_sP, mP_sP, mO_sP, mN_sO, mK_sO, mL_sO, mF_sO, mB_sO, mA_sO, mJ_sO, mP_sO, mO_sO, up2, if_true, if_false, eq_self, ite_true, ite_false, reduceIte, Nat.add_left_cancel_iff, Nat.add_eq_left, Nat.left_eq_add, Nat.reduceEqDiff]; assumption) | (simp only [mN_sF, mK_sF, mL_sF, mF_sF, mB_sF, mA_sF, mJ_sF, mP_sF, mO_sF, mN_sB, mK_sB, mL_sB, mF_sB, mB_sB, mA_sB, mJ_sB, mP_sB, mO_sB, mN_sA, mK_sA, mL_sA, mF_sA, mB_sA, mA_sA, mJ_sA, mP_sA, mO_sA, mN_sJ, mK_sJ, mL_sJ, mF_sJ, mB_sJ, mA_sJ, mJ_sJ, mP_sJ, mO_sJ, mN_sP, mK_sP, mL_sP, mF_sP, mB_sP, mA_sP, mJ_sP, mP_sP, mO_sP, mN_sO, mK_sO, mL_sO, mF_sO, mB_sO, mA_sO, mJ_sO, mP_sO, mO_sO, up2, if_true, if_false, eq_self, ite_true, ite_false, reduceIte, Nat.add_left_cancel_iff, Nat.add_eq_left, Nat.left_eq_add, Nat.reduceEqDiff]; done)) ?_ | refine e_iald 166 rfl dX10_father_165 (by assumption) (by assumption) (by first | rfl | simp only [pk_mul, nI_add]) (by omega) (by omega) ?_
          first | refine e_cmp_geN 185 169 (by decide) rfl dX10_father_166 rfl rfl (by omega) (by omega) (fun z6 => ?_) (fun z6 => ?_) | refine e_cmp_ge 185 169 (by decide) rfl dX10_father_166 (fun z6 => ?_) (fun z6 => ?_)
          · have vv : mA μ3 (m + 15) (6 * a.1 + t - g.length) = nI (g ++ en)[t] := by
              rw [List.getElem_append_right (by omega), show 6 * a.1 + t - g.length = 6 * a.1 + (t - g.length) by omega]
              exact ez2 _ _ (List.getElem?_eq_getElem (by omega))
            refine e_al0 186 rfl dX10_father_185 ?_
            refine e_getR 189 rfl dX10_father_186 f_X10_53 (by assumption) (by assumption) ?_
            refine e_bipush (nI 6) 191 rfl dX10_father_189 bc_6 ?_
            refine e_il5 193 rfl dX10_father_191 ?_
            first | refine e_imulN 194 rfl dX10_father_193 rfl rfl ?_ | refine e_imul 194 rfl dX10_father_193 ?_
            refine e_il6 196 rfl dX10_father_194 ?_
            first | refine e_iaddN 197 rfl dX10_father_196 rfl rfl ?_ | refine e_iadd 197 rfl dX10_father_196 ?_
            refine e_al0 198 rfl dX10_father_197 ?_
            refine e_getR 201 rfl dX10_father_198 f_X10_75 (by assumption) (by assumption) ?_
            refine e_il4 203 rfl dX10_father_201 ?_
            first | refine e_ialdv 204 rfl dX10_father_203 (by assumption) (by assumption) (by first | rfl | simp only [pk_mul, nI_add]) (by omega) (by omega) (by first | assumption | (simp only [mN_sF, mK_sF, mL_sF, mF_sF, mB_sF, mA_sF, mJ_sF, mP_sF, mO_sF, mN_sB, mK_sB, mL_sB, mF_sB, mB_sB, mA_sB, mJ_sB, mP_sB, mO_sB, mN_sA, mK_sA, mL_sA, mF_sA, mB_sA, mA_sA, mJ_sA, mP_sA, mO_sA, mN_sJ, mK_sJ, mL_sJ, mF_sJ, mB_sJ, mA_sJ, mJ_sJ, mP_sJ, mO_sJ, mN_sP, mK_sP, mL_sP, mF_sP, mB_sP, mA_sP, mJ_sP, mP_sP, mO_sP, mN_sO, mK_sO, mL_sO, mF_sO, mB_sO, mA_sO, mJ_sO, mP_sO, mO_sO, up2, if_true, if_false, eq_self, ite_true, ite_false, reduceIte, Nat.add_left_cancel_iff, Nat.add_eq_left, Nat.left_eq_add, Nat.reduceEqDiff]; assumption) | (simp only [mN_sF, mK_sF, mL_sF, mF_sF, mB_sF, mA_sF, mJ_sF, mP_sF, mO_sF, mN_sB, mK_sB, mL_sB, mF_sB, mB_sB, mA_sB, mJ_sB, mP_sB, mO_sB, mN_sA, mK_sA, mL_sA, mF_sA, mB_sA, mA_sA, mJ_sA, mP_sA, mO_sA, mN_sJ, mK_sJ, mL_sJ, mF_sJ, mB_sJ, mA_sJ, mJ_sJ, mP_sJ, mO_sJ, mN_sP, mK_sP, mL_sP, mF_sP, mB_sP, mA_sP, mJ_sP, mP_sP, mO_sP, mN_sO, mK_sO, mL_sO, mF_sO, mB_sO, mA_sO, mJ_sO, mP_sO, mO_sO, up2, if_true, if_false, eq_self, ite_true, ite_false, reduceIte, Nat.add_left_cancel_iff, Nat.add_eq_left, Nat.left_eq_add, Nat.reduceEqDiff]; done)) ?_ | refine e_iald 204 rfl dX10_father_203 (by assumption) (by assumption) (by first | rfl | simp only [pk_mul, nI_add]) (by omega) (by omega) ?_
            first | refine e_isubN 205 rfl dX10_father_204 rfl rfl (by omega) ?_ | refine e_isub 205 rfl dX10_father_204 ?_
            first | refine e_ialdv 206 rfl dX10_father_205 (by assumption) (by assumption) (by first | rfl | simp only [pk_mul, nI_add]) (by omega) (by omega) (by first | assumption | (simp only [mN_sF, mK_sF, mL_sF, mF_sF, mB_sF, mA_sF, mJ_sF, mP_sF, mO_sF, mN_sB, mK_sB, mL_sB, mF_sB, mB_sB, mA_sB, mJ_sB, mP_sB, mO_sB, mN_sA, mK_sA, mL_sA, mF_sA, mB_sA, mA_sA, mJ_sA, mP_sA, mO_sA, mN_sJ, mK_sJ, mL_sJ, mF_sJ, mB_sJ, mA_sJ, mJ_sJ, mP_sJ, mO_sJ, mN_sP, mK_sP, mL_sP, mF_sP, mB_sP, mA_sP, mJ_sP, mP_sP, mO_sP, mN_sO, mK_sO, mL_sO, mF_sO, mB_sO, mA_sO, mJ_sO, mP_sO, mO_sO, up2, if_true, if_false, eq_self, ite_true, ite_false, reduceIte, Nat.add_left_cancel_iff, Nat.add_eq_left, Nat.left_eq_add, Nat.reduceEqDiff]; assumption) | (simp only [mN_sF, mK_sF, mL_sF, mF_sF, mB_sF, mA_sF, mJ_sF, mP_sF, mO_sF, mN_sB, mK_sB, mL_sB, mF_sB, mB_sB, mA_sB, mJ_sB, mP_sB, mO_sB, mN_sA, mK_sA, mL_sA, mF_sA, mB_sA, mA_sA, mJ_sA, mP_sA, mO_sA, mN_sJ, mK_sJ, mL_sJ, mF_sJ, mB_sJ, mA_sJ, mJ_sJ, mP_sJ, mO_sJ, mN_sP, mK_sP, mL_sP, mF_sP, mB_sP, mA_sP, mJ_sP, mP_sP, mO_sP, mN_sO, mK_sO, mL_sO, mF_sO, mB_sO, mA_sO, mJ_sO, mP_sO, mO_sO, up2, if_true, if_false, eq_self, ite_true, ite_false, reduceIte, Nat.add_left_cancel_iff, Nat.add_eq_left, Nat.left_eq_add, Nat.reduceEqDiff]; done)) ?_ | refine e_iald 206 rfl dX10_father_205 (by assumption) (by assumption) (by first | rfl | simp only [pk_mul, nI_add]) (by omega) (by omega) ?_
            exact step _ rfl
          · have vv : mA μ3 (m + 20) (21 * (8 * j + q) + t) = nI (g ++ en)[t] := by
              rw [List.getElem_append_left (by omega)]
              exact gH.at (by omega)
            refine e_al0 170 rfl dX10_father_169 ?_
            refine e_getR 173 rfl dX10_father_170 f_X10_72 (by assumption) (by assumption) ?_
            refine e_bipush (nI 21) 175 rfl dX10_father_173 bc_21 ?_
            refine e_il4 177 rfl dX10_father_175 ?_
            first | refine e_imulN 178 rfl dX10_father_177 rfl rfl ?_ | refine e_imul 178 rfl dX10_father_177 ?_
            refine e_il6 180 rfl dX10_father_178 ?_
            first | refine e_iaddN 181 rfl dX10_father_180 rfl rfl ?_ | refine e_iadd 181 rfl dX10_father_180 ?_
            first | refine e_ialdv 182 rfl dX10_father_181 (by assumption) (by assumption) (by first | rfl | simp only [pk_mul, nI_add]) (by omega) (by omega) (by first | assumption | (simp only [mN_sF, mK_sF, mL_sF, mF_sF, mB_sF, mA_sF, mJ_sF, mP_sF, mO_sF, mN_sB, mK_sB, mL_sB, mF_sB, mB_sB, mA_sB, mJ_sB, mP_sB, mO_sB, mN_sA, mK_sA, mL_sA, mF_sA, mB_sA, mA_sA, mJ_sA, mP_sA, mO_sA, mN_sJ, mK_sJ, mL_sJ, mF_sJ, mB_sJ, mA_sJ, mJ_sJ, mP_sJ, mO_sJ, mN_sP, mK_sP, mL_sP, mF_sP, mB_sP, mA_sP, mJ_sP, mP_sP, mO_sP, mN_sO, mK_sO, mL_sO, mF_sO, mB_sO, mA_sO, mJ_sO, mP_sO, mO_sO, up2, if_true, if_false, eq_self, ite_true, ite_false, reduceIte, Nat.add_left_cancel_iff, Nat.add_eq_left, Nat.left_eq_add, Nat.reduceEqDiff]; assumption) | (simp only [mN_sF, mK_sF, mL_sF, mF_sF, mB_sF, mA_sF, mJ_sF, mP_sF, mO_sF, mN_sB, mK_sB, mL_sB, mF_sB, mB_sB, mA_sB, mJ_sB, mP_sB, mO_sB, mN_sA, mK_sA, mL_sA, mF_sA, mB_sA, mA_sA, mJ_sA, mP_sA, mO_sA, mN_sJ, mK_sJ, mL_sJ, mF_sJ, mB_sJ, mA_sJ, mJ_sJ, mP_sJ, mO_sJ, mN_sP, mK_sP, mL_sP, mF_sP, mB_sP, mA_sP, mJ_sP, mP_sP, mO_sP, mN_sO, mK_sO, mL_sO, mF_sO, mB_sO, mA_sO, mJ_sO, mP_sO, mO_sO, up2, if_true, if_false, eq_self, ite_true, ite_false, reduceIte, Nat.add_left_cancel_iff, Nat.add_eq_left, Nat.left_eq_add, Nat.reduceEqDiff]; done)) ?_ | refine e_iald 182 rfl dX10_father_181 (by assumption) (by assumption) (by first | rfl | simp only [pk_mul, nI_add]) (by omega) (by omega) ?_
            refine e_goto 206 (by decide) dX10_father_182 ?_
            exact step _ rfl
      exact loop w.length 0 (by omega) rfl _
    refine e_is3 75 rfl dX10_father_74 (by decide) rfl ?_
    refine e_al0 76 rfl dX10_father_75 ?_
    refine e_getR 79 rfl dX10_father_76 f_X10_117 (by assumption) (by assumption) ?_
    refine e_il2 80 rfl dX10_father_79 ?_
    first | refine e_baldv 81 rfl dX10_father_80 (by assumption) (by assumption) (by first | rfl | simp only [pk_mul, nI_add]) (by omega) (by omega) (by first | assumption | (simp only [mN_sF, mK_sF, mL_sF, mF_sF, mB_sF, mA_sF, mJ_sF, mP_sF, mO_sF, mN_sB, mK_sB, mL_sB, mF_sB, mB_sB, mA_sB, mJ_sB, mP_sB, mO_sB, mN_sA, mK_sA, mL_sA, mF_sA, mB_sA, mA_sA, mJ_sA, mP_sA, mO_sA, mN_sJ, mK_sJ, mL_sJ, mF_sJ, mB_sJ, mA_sJ, mJ_sJ, mP_sJ, mO_sJ, mN_sP, mK_sP, mL_sP, mF_sP, mB_sP, mA_sP, mJ_sP, mP_sP, mO_sP, mN_sO, mK_sO, mL_sO, mF_sO, mB_sO, mA_sO, mJ_sO, mP_sO, mO_sO, up2, if_true, if_false, eq_self, ite_true, ite_false, reduceIte, Nat.add_left_cancel_iff, Nat.add_eq_left, Nat.left_eq_add, Nat.reduceEqDiff]; assumption) | (simp only [mN_sF, mK_sF, mL_sF, mF_sF, mB_sF, mA_sF, mJ_sF, mP_sF, mO_sF, mN_sB, mK_sB, mL_sB, mF_sB, mB_sB, mA_sB, mJ_sB, mP_sB, mO_sB, mN_sA, mK_sA, mL_sA, mF_sA, mB_sA, mA_sA, mJ_sA, mP_sA, mO_sA, mN_sJ, mK_sJ, mL_sJ, mF_sJ, mB_sJ, mA_sJ, mJ_sJ, mP_sJ, mO_sJ, mN_sP, mK_sP, mL_sP, mF_sP, mB_sP, mA_sP, mJ_sP, mP_sP, mO_sP, mN_sO, mK_sO, mL_sO, mF_sO, mB_sO, mA_sO, mJ_sO, mP_sO, mO_sO, up2, if_true, if_false, eq_self, ite_true, ite_false, reduceIte, Nat.add_left_cancel_iff, Nat.add_eq_left, Nat.left_eq_add, Nat.reduceEqDiff]; done)) ?_ | refine e_zaldv 81 rfl dX10_father_80 (by assumption) (by assumption) (by first | rfl | simp only [pk_mul, nI_add]) (by omega) (by omega) (by first | assumption | (simp only [mN_sF, mK_sF, mL_sF, mF_sF, mB_sF, mA_sF, mJ_sF, mP_sF, mO_sF, mN_sB, mK_sB, mL_sB, mF_sB, mB_sB, mA_sB, mJ_sB, mP_sB, mO_sB, mN_sA, mK_sA, mL_sA, mF_sA, mB_sA, mA_sA, mJ_sA, mP_sA, mO_sA, mN_sJ, mK_sJ, mL_sJ, mF_sJ, mB_sJ, mA_sJ, mJ_sJ, mP_sJ, mO_sJ, mN_sP, mK_sP, mL_sP, mF_sP, mB_sP, mA_sP, mJ_sP, mP_sP, mO_sP, mN_sO, mK_sO, mL_sO, mF_sO, mB_sO, mA_sO, mJ_sO, mP_sO, mO_sO, up2, if_true, if_false, eq_self, ite_true, ite_false, reduceIte, Nat.add_left_cancel_iff, Nat.add_eq_left, Nat.left_eq_add, Nat.reduceEqDiff]; assumption) | (simp only [mN_sF, mK_sF, mL_sF, mF_sF, mB_sF, mA_sF, mJ_sF, mP_sF, mO_sF, mN_sB, mK_sB, mL_sB, mF_sB, mB_sB, mA_sB, mJ_sB, mP_sB, mO_sB, mN_sA, mK_sA, mL_sA, mF_sA, mB_sA, mA_sA, mJ_sA, mP_sA, mO_sA, mN_sJ, mK_sJ, mL_sJ, mF_sJ, mB_sJ, mA_sJ, mJ_sJ, mP_sJ, mO_sJ, mN_sP, mK_sP, mL_sP, mF_sP, mB_sP, mA_sP, mJ_sP, mP_sP, mO_sP, mN_sO, mK_sO, mL_sO, mF_sO, mB_sO, mA_sO, mJ_sO, mP_sO, mO_sO, up2, if_true, if_false, eq_self, ite_true, ite_false, reduceIte, Nat.add_left_cancel_iff, Nat.add_eq_left, Nat.left_eq_add, Nat.reduceEqDiff]; done)) ?_ | refine e_bald 81 rfl dX10_father_80 (by assumption) (by assumption) (by first | rfl | simp only [pk_mul, nI_add]) (by omega) (by omega) ?_ | refine e_zald 81 rfl dX10_father_80 (by assumption) (by assumption) (by first | rfl | simp only [pk_mul, nI_add]) (by omega) (by omega) ?_
    first | refine e_if_eqB 95 84 (by decide) rfl dX10_father_81 rfl (fun z1' => ?_) (fun z1' => ?_) | refine e_if_eqN 95 84 (by decide) rfl dX10_father_81 rfl (by omega) (fun z1' => ?_) (fun z1' => ?_) | refine e_if_eq 95 84 (by decide) rfl dX10_father_81 (fun z1' => ?_) (fun z1' => ?_)
    · have := last none (by rw [z1']; rfl) (fun p h => by cases h)
      refine e_iconst (-1) 96 rfl dX10_father_95 ic_m1 ?_
      exact this
    · refine e_al0 85 rfl dX10_father_84 ?_
      refine e_il2 86 rfl dX10_father_85 ?_
      refine e_iconst (nI 1) 87 rfl dX10_father_86 ic_1 ?_
      refine e_iconst (nI 1) 88 rfl dX10_father_87 ic_1 ?_
      refine e_iconst (nI 0) 89 rfl dX10_father_88 ic_0 ?_
      refine e_invV0 [_, _, _, _] 92 rfl dX10_father_89 k_X10_250 mo_X10_wordOf rm_X10_father_X10_wordOf ⟨rfl, rfl⟩ rfl rfl (by assumption) (Nat.le_of_ble_eq_true rfl) ?_
      refine c_wordOf (bits := 2) hW hM3 hj hs3 z1' (by decide) (by decide) (by decide) (by decide) (fun hno => ?_) (fun p hp hpn => ?_)
      · have := last none (by rw [z1', hno]) (fun p h => by cases h)
        refine e_goto 96 (by decide) dX10_father_92 ?_
        exact this
      · have := last (some p) (by rw [z1', hp]) (fun q h => by cases h; exact hpn)
        refine e_goto 96 (by decide) dX10_father_92 ?_
        exact this
  refine e_al0 54 rfl dX10_father_53 ?_
  refine e_getR 57 rfl dX10_father_54 f_X10_117 (by assumption) (by assumption) ?_
  refine e_il1 58 rfl dX10_father_57 ?_
  first | refine e_baldv 59 rfl dX10_father_58 (by assumption) (by assumption) (by first | rfl | simp only [pk_mul, nI_add]) (by omega) (by omega) (by first | assumption | (simp only [mN_sF, mK_sF, mL_sF, mF_sF, mB_sF, mA_sF, mJ_sF, mP_sF, mO_sF, mN_sB, mK_sB, mL_sB, mF_sB, mB_sB, mA_sB, mJ_sB, mP_sB, mO_sB, mN_sA, mK_sA, mL_sA, mF_sA, mB_sA, mA_sA, mJ_sA, mP_sA, mO_sA, mN_sJ, mK_sJ, mL_sJ, mF_sJ, mB_sJ, mA_sJ, mJ_sJ, mP_sJ, mO_sJ, mN_sP, mK_sP, mL_sP, mF_sP, mB_sP, mA_sP, mJ_sP, mP_sP, mO_sP, mN_sO, mK_sO, mL_sO, mF_sO, mB_sO, mA_sO, mJ_sO, mP_sO, mO_sO, up2, if_true, if_false, eq_self, ite_true, ite_false, reduceIte, Nat.add_left_cancel_iff, Nat.add_eq_left, Nat.left_eq_add, Nat.reduceEqDiff]; assumption) | (simp only [mN_sF, mK_sF, mL_sF, mF_sF, mB_sF, mA_sF, mJ_sF, mP_sF, mO_sF, mN_sB, mK_sB, mL_sB, mF_sB, mB_sB, mA_sB, mJ_sB, mP_sB, mO_sB, mN_sA, mK_sA, mL_sA, mF_sA, mB_sA, mA_sA, mJ_sA, mP_sA, mO_sA, mN_sJ, mK_sJ, mL_sJ, mF_sJ, mB_sJ, mA_sJ, mJ_sJ, mP_sJ, mO_sJ, mN_sP, mK_sP, mL_sP, mF_sP, mB_sP, mA_sP, mJ_sP, mP_sP, mO_sP, mN_sO, mK_sO, mL_sO, mF_sO, mB_sO, mA_sO, mJ_sO, mP_sO, mO_sO, up2, if_true, if_false, eq_self, ite_true, ite_false, reduceIte, Nat.add_left_cancel_iff, Nat.add_eq_left, Nat.left_eq_add, Nat.reduceEqDiff]; done)) ?_ | refine e_zaldv 59 rfl dX10_father_58 (by assumption) (by assumption) (by first | rfl | simp only [pk_mul, nI_add]) (by omega) (by omega) (by first | assumption | (simp only [mN_sF, mK_sF, mL_sF, mF_sF, mB_sF, mA_sF, mJ_sF, mP_sF, mO_sF, mN_sB, mK_sB, mL_sB, mF_sB, mB_sB, mA_sB, mJ_sB, mP_sB, mO_sB, mN_sA, mK_sA, mL_sA, mF_sA, mB_sA, mA_sA, mJ_sA, mP_sA, mO_sA, mN_sJ, mK_sJ, mL_sJ, mF_sJ, mB_sJ, mA_sJ, mJ_sJ, mP_sJ, mO_sJ, mN_sP, mK_sP, mL_sP, mF_sP, mB_sP, mA_sP, mJ_sP, mP_sP, mO_sP, mN_sO, mK_sO, mL_sO, mF_sO, mB_sO, mA_sO, mJ_sO, mP_sO, mO_sO, up2, if_true, if_false, eq_self, ite_true, ite_false, reduceIte, Nat.add_left_cancel_iff, Nat.add_eq_left, Nat.left_eq_add, Nat.reduceEqDiff]; assumption) | (simp only [mN_sF, mK_sF, mL_sF, mF_sF, mB_sF, mA_sF, mJ_sF, mP_sF, mO_sF, mN_sB, mK_sB, mL_sB, mF_sB, mB_sB, mA_sB, mJ_sB, mP_sB, mO_sB, mN_sA, mK_sA, mL_sA, mF_sA, mB_sA, mA_sA, mJ_sA, mP_sA, mO_sA, mN_sJ, mK_sJ, mL_sJ, mF_sJ, mB_sJ, mA_sJ, mJ_sJ, mP_sJ, mO_sJ, mN_sP, mK_sP, mL_sP, mF_sP, mB_sP, mA_sP, mJ_sP, mP_sP, mO_sP, mN_sO, mK_sO, mL_sO, mF_sO, mB_sO, mA_sO, mJ_sO, mP_sO, mO_sO, up2, if_true, if_false, eq_self, ite_true, ite_false, reduceIte, Nat.add_left_cancel_iff, Nat.add_eq_left, Nat.left_eq_add, Nat.reduceEqDiff]; done)) ?_ | refine e_bald 59 rfl dX10_father_58 (by assumption) (by assumption) (by first | rfl | simp only [pk_mul, nI_add]) (by omega) (by omega) ?_ | refine e_zald 59 rfl dX10_father_58 (by assumption) (by assumption) (by first | rfl | simp only [pk_mul, nI_add]) (by omega) (by omega) ?_
  first | refine e_if_eqB 73 62 (by decide) rfl dX10_father_59 rfl (fun z0' => ?_) (fun z0' => ?_) | refine e_if_eqN 73 62 (by decide) rfl dX10_father_59 rfl (by omega) (fun z0' => ?_) (fun z0' => ?_) | refine e_if_eq 73 62 (by decide) rfl dX10_father_59 (fun z0' => ?_) (fun z0' => ?_)
  · have := second none (by rw [z0']; rfl) (fun p h => by cases h)
    refine e_iconst (-1) 74 rfl dX10_father_73 ic_m1 ?_
    exact this
  · refine e_al0 63 rfl dX10_father_62 ?_
    refine e_il1 64 rfl dX10_father_63 ?_
    refine e_iconst (nI 5) 65 rfl dX10_father_64 ic_5 ?_
    refine e_iconst (nI 5) 66 rfl dX10_father_65 ic_5 ?_
    refine e_iconst (nI 0) 67 rfl dX10_father_66 ic_0 ?_
    refine e_invV0 [_, _, _, _] 70 rfl dX10_father_67 k_X10_250 mo_X10_wordOf rm_X10_father_X10_wordOf ⟨rfl, rfl⟩ rfl rfl (by assumption) (Nat.le_of_ble_eq_true rfl) ?_
    refine c_wordOf (bits := 32) hW hM3 hi hsa z0' (by decide) (by decide) (by decide) (by decide) (fun hno => ?_) (fun p hp hpn => ?_)
    · have := second none (by rw [z0', hno]) (fun p h => by cases h)
      refine e_goto 74 (by decide) dX10_father_70 ?_
      exact this
    · have := second (some p) (by rw [z0', hp]) (fun q h => by cases h; exact hpn)
      refine e_goto 74 (by decide) dX10_father_70 ?_
      exact this
theorem c_mAlike {m i j : Nat} {S : Ast} {a b : Nm} (hW : WF S) (hM : MI m S μ) (hi : (aN S)[i]? = some a) (hj : (aN S)[j]? = some b) (k : K (some (.int (bI (decide (fsN a = fsN b))))) μ) : Cl E M_X10_alike [.ref m, .int (nI i), .int (nI j)] μ K := by
  have n30 := hW.2.2.2.1.1
  have mk := hM.1.1
  have hil := (List.getElem?_eq_some_iff.mp hi).1
  have hjl := (List.getElem?_eq_some_iff.mp hj).1
  have hwa := hW.2.2.2.1.2 a (List.mem_of_getElem? hi)
  have hwb := hW.2.2.2.1.2 b (List.mem_of_getElem? hj)
  have a8 := hwa.2.2.1
  have b8 := hwb.2.2.1
  obtain ⟨pw, kw, lw⟩ := hM.1.nWords
  obtain ⟨na1, na2, na3⟩ := hM.2.2.2.2.2.1.2 i a hi
  obtain ⟨nb1, nb2, nb3⟩ := hM.2.2.2.2.2.1.2 j b hj
  have no : fsN a ≠ fsN b → K (some (.int (nI 0))) μ := fun h => by rw [show decide (fsN a = fsN b) = false from decide_eq_false h] at k; exact k
  have loop : a.2.length = b.2.length → ∀ (fu w : Nat), w + fu = a.2.length → (fsN a).take w = (fsN b).take w → Ev E M_X10_alike 0 0 19 [some (.ref m), some (.int (nI i)), some (.int (nI j)), some (.int (nI w))] [] μ K := by
    intro hl fu
    induction fu with
    | zero =>
      intro w hw htk
      rw [List.take_of_length_le (by rw [fsN_len]; omega), List.take_of_length_le (by rw [fsN_len]; omega)] at htk
      refine e_il3 20 rfl dX10_alike_19 ?_
      refine e_al0 21 rfl dX10_alike_20 ?_
      refine e_getR 24 rfl dX10_alike_21 f_X10_63 (by assumption) (by assumption) ?_
      refine e_il1 25 rfl dX10_alike_24 ?_
      first | refine e_ialdv 26 rfl dX10_alike_25 (by assumption) (by assumption) (by first | rfl | simp only [pk_mul, nI_add]) (by omega) (by omega) (by first | assumption | (simp only [mN_sF, mK_sF, mL_sF, mF_sF, mB_sF, mA_sF, mJ_sF, mP_sF, mO_sF, mN_sB, mK_sB, mL_sB, mF_sB, mB_sB, mA_sB, mJ_sB, mP_sB, mO_sB, mN_sA, mK_sA, mL_sA, mF_sA, mB_sA, mA_sA, mJ_sA, mP_sA, mO_sA, mN_sJ, mK_sJ, mL_sJ, mF_sJ, mB_sJ, mA_sJ, mJ_sJ, mP_sJ, mO_sJ, mN_sP, mK_sP, mL_sP, mF_sP, mB_sP, mA_sP, mJ_sP, mP_sP, mO_sP, mN_sO, mK_sO, mL_sO, mF_sO, mB_sO, mA_sO, mJ_sO, mP_sO, mO_sO, up2, if_true, if_false, eq_self, ite_true, ite_false, reduceIte, Nat.add_left_cancel_iff, Nat.add_eq_left, Nat.left_eq_add, Nat.reduceEqDiff]; assumption) | (simp only [mN_sF, mK_sF, mL_sF, mF_sF, mB_sF, mA_sF, mJ_sF, mP_sF, mO_sF, mN_sB, mK_sB, mL_sB, mF_sB, mB_sB, mA_sB, mJ_sB, mP_sB, mO_sB, mN_sA, mK_sA, mL_sA, mF_sA, mB_sA, mA_sA, mJ_sA, mP_sA, mO_sA, mN_sJ, mK_sJ, mL_sJ, mF_sJ, mB_sJ, mA_sJ, mJ_sJ, mP_sJ, mO_sJ, mN_sP, mK_sP, mL_sP, mF_sP, mB_sP, mA_sP, mJ_sP, mP_sP, mO_sP, mN_sO, mK_sO, mL_sO, mF_sO, mB_sO, mA_sO, mJ_sO, mP_sO, mO_sO, up2, if_true, if_false, eq_self, ite_true, ite_false, reduceIte, Nat.add_left_cancel_iff, Nat.add_eq_left, Nat.left_eq_add, Nat.reduceEqDiff]; done)) ?_ | refine e_iald 26 rfl dX10_alike_25 (by assumption) (by assumption) (by first | rfl | simp only [pk_mul, nI_add]) (by omega) (by omega) ?_
      first | refine e_cmp_geN 56 29 (by decide) rfl dX10_alike_26 rfl rfl (by omega) (by omega) (fun y2 => ?_) (fun y2 => ?_) | refine e_cmp_ge 56 29 (by decide) rfl dX10_alike_26 (fun y2 => ?_) (fun y2 => ?_)
      rotate_left
      · omega
      refine e_iconst (nI 1) 57 rfl dX10_alike_56 ic_1 ?_
      refine e_zret dX10_alike_57 rfl (by first | exact z0 | exact z1 | exact bI01 _ | assumption) ?_
      rw [show decide (fsN a = fsN b) = true from decide_eq_true htk] at k
      exact k
    | succ fu ih =>
      intro w hw htk
      have h1 : w < a.2.length := by omega
      have h2 : w < b.2.length := by omega
      have d1 := na3 w _ (List.getElem?_eq_getElem h1)
      have d2 := nb3 w _ (List.getElem?_eq_getElem h2)
      have x1 := wordL (hwa.2.2.2 _ (List.getElem_mem h1))
      have x2 := wordL (hwb.2.2.2 _ (List.getElem_mem h2))
      have g1 : (fsN a)[w]'(by rw [fsN_len]; exact h1) = foldL a.2[w] := by unfold fsN; rw [List.getElem_map]
      have g2 : (fsN b)[w]'(by rw [fsN_len]; exact h2) = foldL b.2[w] := by unfold fsN; rw [List.getElem_map]
      have hbd := cmpL_bd (foldL a.2[w]) (foldL b.2[w]) x1.2.2.2.1 x2.2.2.2.1 (fun c hc => by have := foldL_r c hc; omega) (fun c hc => by have := foldL_r c hc; omega)
      have hsg := ofInt_sg hbd.1 hbd.2
      refine e_il3 20 rfl dX10_alike_19 ?_
      refine e_al0 21 rfl dX10_alike_20 ?_
      refine e_getR 24 rfl dX10_alike_21 f_X10_63 (by assumption) (by assumption) ?_
      refine e_il1 25 rfl dX10_alike_24 ?_
      first | refine e_ialdv 26 rfl dX10_alike_25 (by assumption) (by assumption) (by first | rfl | simp only [pk_mul, nI_add]) (by omega) (by omega) (by first | assumption | (simp only [mN_sF, mK_sF, mL_sF, mF_sF, mB_sF, mA_sF, mJ_sF, mP_sF, mO_sF, mN_sB, mK_sB, mL_sB, mF_sB, mB_sB, mA_sB, mJ_sB, mP_sB, mO_sB, mN_sA, mK_sA, mL_sA, mF_sA, mB_sA, mA_sA, mJ_sA, mP_sA, mO_sA, mN_sJ, mK_sJ, mL_sJ, mF_sJ, mB_sJ, mA_sJ, mJ_sJ, mP_sJ, mO_sJ, mN_sP, mK_sP, mL_sP, mF_sP, mB_sP, mA_sP, mJ_sP, mP_sP, mO_sP, mN_sO, mK_sO, mL_sO, mF_sO, mB_sO, mA_sO, mJ_sO, mP_sO, mO_sO, up2, if_true, if_false, eq_self, ite_true, ite_false, reduceIte, Nat.add_left_cancel_iff, Nat.add_eq_left, Nat.left_eq_add, Nat.reduceEqDiff]; assumption) | (simp only [mN_sF, mK_sF, mL_sF, mF_sF, mB_sF, mA_sF, mJ_sF, mP_sF, mO_sF, mN_sB, mK_sB, mL_sB, mF_sB, mB_sB, mA_sB, mJ_sB, mP_sB, mO_sB, mN_sA, mK_sA, mL_sA, mF_sA, mB_sA, mA_sA, mJ_sA, mP_sA, mO_sA, mN_sJ, mK_sJ, mL_sJ, mF_sJ, mB_sJ, mA_sJ, mJ_sJ, mP_sJ, mO_sJ, mN_sP, mK_sP, mL_sP, mF_sP, mB_sP, mA_sP, mJ_sP, mP_sP, mO_sP, mN_sO, mK_sO, mL_sO, mF_sO, mB_sO, mA_sO, mJ_sO, mP_sO, mO_sO, up2, if_true, if_false, eq_self, ite_true, ite_false, reduceIte, Nat.add_left_cancel_iff, Nat.add_eq_left, Nat.left_eq_add, Nat.reduceEqDiff]; done)) ?_ | refine e_iald 26 rfl dX10_alike_25 (by assumption) (by assumption) (by first | rfl | simp only [pk_mul, nI_add]) (by omega) (by omega) ?_
      first | refine e_cmp_geN 56 29 (by decide) rfl dX10_alike_26 rfl rfl (by omega) (by omega) (fun y2 => ?_) (fun y2 => ?_) | refine e_cmp_ge 56 29 (by decide) rfl dX10_alike_26 (fun y2 => ?_) (fun y2 => ?_)
      · omega
      refine e_al0 30 rfl dX10_alike_29 ?_
      refine e_bipush (nI 8) 32 rfl dX10_alike_30 bc_8 ?_
      refine e_il1 33 rfl dX10_alike_32 ?_
      first | refine e_imulN 34 rfl dX10_alike_33 rfl rfl ?_ | refine e_imul 34 rfl dX10_alike_33 ?_
      refine e_il3 35 rfl dX10_alike_34 ?_
      first | refine e_iaddN 36 rfl dX10_alike_35 rfl rfl ?_ | refine e_iadd 36 rfl dX10_alike_35 ?_
      refine e_bipush (nI 8) 38 rfl dX10_alike_36 bc_8 ?_
      refine e_il2 39 rfl dX10_alike_38 ?_
      first | refine e_imulN 40 rfl dX10_alike_39 rfl rfl ?_ | refine e_imul 40 rfl dX10_alike_39 ?_
      refine e_il3 41 rfl dX10_alike_40 ?_
      first | refine e_iaddN 42 rfl dX10_alike_41 rfl rfl ?_ | refine e_iadd 42 rfl dX10_alike_41 ?_
      refine e_invV0 [_, _] 45 rfl dX10_alike_42 k_X10_222 mo_X10_compare rm_X10_alike_X10_compare ⟨rfl, rfl⟩ rfl rfl (by assumption) (Nat.le_of_ble_eq_true rfl) ?_
      refine c_mCompare hM.1 (by omega) (by omega) d1 d2 x1.2.2.2.1 x2.2.2.2.1 ?_
      refine e_if_eq 50 48 (by decide) rfl dX10_alike_45 (fun y3 => ?_) (fun y3 => ?_)
      · have e := (cmpL_zero _ _).mp (hsg.1.mp y3)
        refine e_ii3 (nI (_ + 1)) 53 rfl dX10_alike_50 (ii1 _) rfl ?_
        refine e_goto 19 (by decide) dX10_alike_53 ?_
        refine ih (w + 1) (by omega) ?_
        rw [List.take_succ_eq_append_getElem (by rw [fsN_len]; exact h1), List.take_succ_eq_append_getElem (by rw [fsN_len]; exact h2), htk, g1, g2, e]
      · refine e_iconst (nI 0) 49 rfl dX10_alike_48 ic_0 ?_
        refine e_zret dX10_alike_49 rfl (by first | exact z0 | exact z1 | exact bI01 _ | assumption) ?_
        refine no (fun q => y3 (hsg.1.mpr ((cmpL_zero _ _).mpr ?_)))
        rw [← g1, ← g2]
        simp only [q]
  refine Cl.of0 1 pn_X10 (Nat.le_of_ble_eq_true rfl) ⟨rfl, rfl⟩ rfl ?_
  refine e_al0 1 rfl dX10_alike_0 ?_
  refine e_getR 4 rfl dX10_alike_1 f_X10_63 (by assumption) (by assumption) ?_
  refine e_il1 5 rfl dX10_alike_4 ?_
  first | refine e_ialdv 6 rfl dX10_alike_5 (by assumption) (by assumption) (by first | rfl | simp only [pk_mul, nI_add]) (by omega) (by omega) (by first | assumption | (simp only [mN_sF, mK_sF, mL_sF, mF_sF, mB_sF, mA_sF, mJ_sF, mP_sF, mO_sF, mN_sB, mK_sB, mL_sB, mF_sB, mB_sB, mA_sB, mJ_sB, mP_sB, mO_sB, mN_sA, mK_sA, mL_sA, mF_sA, mB_sA, mA_sA, mJ_sA, mP_sA, mO_sA, mN_sJ, mK_sJ, mL_sJ, mF_sJ, mB_sJ, mA_sJ, mJ_sJ, mP_sJ, mO_sJ, mN_sP, mK_sP, mL_sP, mF_sP, mB_sP, mA_sP, mJ_sP, mP_sP, mO_sP, mN_sO, mK_sO, mL_sO, mF_sO, mB_sO, mA_sO, mJ_sO, mP_sO, mO_sO, up2, if_true, if_false, eq_self, ite_true, ite_false, reduceIte, Nat.add_left_cancel_iff, Nat.add_eq_left, Nat.left_eq_add, Nat.reduceEqDiff]; assumption) | (simp only [mN_sF, mK_sF, mL_sF, mF_sF, mB_sF, mA_sF, mJ_sF, mP_sF, mO_sF, mN_sB, mK_sB, mL_sB, mF_sB, mB_sB, mA_sB, mJ_sB, mP_sB, mO_sB, mN_sA, mK_sA, mL_sA, mF_sA, mB_sA, mA_sA, mJ_sA, mP_sA, mO_sA, mN_sJ, mK_sJ, mL_sJ, mF_sJ, mB_sJ, mA_sJ, mJ_sJ, mP_sJ, mO_sJ, mN_sP, mK_sP, mL_sP, mF_sP, mB_sP, mA_sP, mJ_sP, mP_sP, mO_sP, mN_sO, mK_sO, mL_sO, mF_sO, mB_sO, mA_sO, mJ_sO, mP_sO, mO_sO, up2, if_true, if_false, eq_self, ite_true, ite_false, reduceIte, Nat.add_left_cancel_iff, Nat.add_eq_left, Nat.left_eq_add, Nat.reduceEqDiff]; done)) ?_ | refine e_iald 6 rfl dX10_alike_5 (by assumption) (by assumption) (by first | rfl | simp only [pk_mul, nI_add]) (by omega) (by omega) ?_
  refine e_al0 7 rfl dX10_alike_6 ?_
  refine e_getR 10 rfl dX10_alike_7 f_X10_63 (by assumption) (by assumption) ?_
  refine e_il2 11 rfl dX10_alike_10 ?_
  first | refine e_ialdv 12 rfl dX10_alike_11 (by assumption) (by assumption) (by first | rfl | simp only [pk_mul, nI_add]) (by omega) (by omega) (by first | assumption | (simp only [mN_sF, mK_sF, mL_sF, mF_sF, mB_sF, mA_sF, mJ_sF, mP_sF, mO_sF, mN_sB, mK_sB, mL_sB, mF_sB, mB_sB, mA_sB, mJ_sB, mP_sB, mO_sB, mN_sA, mK_sA, mL_sA, mF_sA, mB_sA, mA_sA, mJ_sA, mP_sA, mO_sA, mN_sJ, mK_sJ, mL_sJ, mF_sJ, mB_sJ, mA_sJ, mJ_sJ, mP_sJ, mO_sJ, mN_sP, mK_sP, mL_sP, mF_sP, mB_sP, mA_sP, mJ_sP, mP_sP, mO_sP, mN_sO, mK_sO, mL_sO, mF_sO, mB_sO, mA_sO, mJ_sO, mP_sO, mO_sO, up2, if_true, if_false, eq_self, ite_true, ite_false, reduceIte, Nat.add_left_cancel_iff, Nat.add_eq_left, Nat.left_eq_add, Nat.reduceEqDiff]; assumption) | (simp only [mN_sF, mK_sF, mL_sF, mF_sF, mB_sF, mA_sF, mJ_sF, mP_sF, mO_sF, mN_sB, mK_sB, mL_sB, mF_sB, mB_sB, mA_sB, mJ_sB, mP_sB, mO_sB, mN_sA, mK_sA, mL_sA, mF_sA, mB_sA, mA_sA, mJ_sA, mP_sA, mO_sA, mN_sJ, mK_sJ, mL_sJ, mF_sJ, mB_sJ, mA_sJ, mJ_sJ, mP_sJ, mO_sJ, mN_sP, mK_sP, mL_sP, mF_sP, mB_sP, mA_sP, mJ_sP, mP_sP, mO_sP, mN_sO, mK_sO, mL_sO, mF_sO, mB_sO, mA_sO, mJ_sO, mP_sO, mO_sO, up2, if_true, if_false, eq_self, ite_true, ite_false, reduceIte, Nat.add_left_cancel_iff, Nat.add_eq_left, Nat.left_eq_add, Nat.reduceEqDiff]; done)) ?_ | refine e_iald 12 rfl dX10_alike_11 (by assumption) (by assumption) (by first | rfl | simp only [pk_mul, nI_add]) (by omega) (by omega) ?_
  first | refine e_cmp_eqN 17 15 (by decide) rfl dX10_alike_12 rfl rfl (by omega) (by omega) (fun y1 => ?_) (fun y1 => ?_) | refine e_cmp_eq 17 15 (by decide) rfl dX10_alike_12 (fun y1 => ?_) (fun y1 => ?_)
  rotate_left
  · refine e_iconst (nI 0) 16 rfl dX10_alike_15 ic_0 ?_
    refine e_zret dX10_alike_16 rfl (by first | exact z0 | exact z1 | exact bI01 _ | assumption) ?_
    exact no (fun q => y1 (by rw [← fsN_len a, ← fsN_len b, q]))
  refine e_iconst (nI 0) 18 rfl dX10_alike_17 ic_0 ?_
  refine e_is3 19 rfl dX10_alike_18 (by decide) rfl ?_
  exact loop y1 a.2.length 0 (by omega) rfl
theorem pln_ok {S : Ast} {nm : Nm} (hW : WF S) (hw : wfN nm) : (pln (aL S) nm).length ≤ 488 ∧ ∀ c ∈ pln (aL S) nm, c < 128 := by
  have hok := fsN_ok hw
  have hpl : ∀ w ∈ (fsN nm).map (putL (aL S)), w.length ≤ 60 ∧ ∀ c ∈ w, c < 128 := fun w hw => by
    obtain ⟨v, hv, e⟩ := List.mem_map.mp hw
    have h1 := hok v hv
    have := putL_len (tb := aL S) (w := v) (fun c hc => (hW.2.2.2.2 (c - 97) (by have := h1.2 c hc; omega)).1)
    rw [← e]
    refine ⟨by omega, fun c hc => ?_⟩
    obtain ⟨d, hd, hcd⟩ := List.mem_flatMap.mp hc
    have := (hW.2.2.2.2 (d - 97) (by have := h1.2 d hd; omega)).2 c hcd
    omega
  have h8 := hw.2.2.1
  refine ⟨Nat.le_trans (jn_len (fun w hw => (hpl w hw).1) nm.2.length) (by omega), ?_⟩
  unfold pln
  generalize (fsN nm).map (putL (aL S)) = ws at hpl
  have : ∀ n, ∀ c ∈ jn ws n, c < 128 := by
    intro n
    induction n with
    | zero => intro c hc; simp [jn] at hc
    | succ n ih =>
      intro c hc
      rw [jn] at hc
      rcases List.mem_append.mp hc with q | q
      · rcases List.mem_append.mp q with q | q
        · exact ih c q
        · unfold bl at q
          split at q
          · simp at q
          · simp at q; omega
      · rw [List.getD_eq_getElem?_getD] at q
        cases e : ws[n]? with
        | none => rw [e] at q; simp at q
        | some w => rw [e] at q; exact (hpl w (List.mem_of_getElem? e)).2 c q
  exact this _
theorem c_overAlike {m i j : Nat} {S : Ast} {a b : Nm} (hW : WF S) (hM : MI m S μ) (hi : (aN S)[i]? = some a) (hj : (aN S)[j]? = some b) (k : K (some (.int (bI (decide (pln (aL S) a = pln (aL S) b))))) μ) : Cl E M_X10_overAlike [.ref m, .int (nI i), .int (nI j)] μ K := by
  have mk := hM.1.1
  have hwa := hW.2.2.2.1.2 a (List.mem_of_getElem? hi)
  have hwb := hW.2.2.2.1.2 b (List.mem_of_getElem? hj)
  obtain ⟨la, ca⟩ := pln_ok hW hwa
  obtain ⟨lb, cb⟩ := pln_ok hW hwb
  have no : pln (aL S) a ≠ pln (aL S) b → K (some (.int (nI 0))) μ := fun h => by rw [show decide (pln (aL S) a = pln (aL S) b) = false from decide_eq_false h] at k; exact k
  refine Cl.of0 2 pn_X10 (Nat.le_of_ble_eq_true rfl) ⟨rfl, rfl⟩ rfl ?_
  refine e_al0 1 rfl dX10_overAlike_0 ?_
  refine e_il1 2 rfl dX10_overAlike_1 ?_
  refine e_iconst (nI 1) 3 rfl dX10_overAlike_2 ic_1 ?_
  refine e_invV0 [_, _] 6 rfl dX10_overAlike_3 k_X10_244 mo_X10_signs rm_X10_overAlike_X10_signs ⟨rfl, rfl⟩ rfl rfl (by assumption) (Nat.le_of_ble_eq_true rfl) ?_
  refine c_signs1 hW hM hi ?_
  refine e_is3 7 rfl dX10_overAlike_6 (by decide) rfl ?_
  refine e_al0 8 rfl dX10_overAlike_7 ?_
  refine e_il2 9 rfl dX10_overAlike_8 ?_
  refine e_iconst (nI 1) 10 rfl dX10_overAlike_9 ic_1 ?_
  refine e_invV0 [_, _] 13 rfl dX10_overAlike_10 k_X10_244 mo_X10_signs rm_X10_overAlike_X10_signs ⟨rfl, rfl⟩ rfl rfl (by assumption) (Nat.le_of_ble_eq_true rfl) ?_
  refine c_signs1 hW hM hj ?_
  refine e_il3 14 rfl dX10_overAlike_13 ?_
  first | refine e_cmp_eqN 19 17 (by decide) rfl dX10_overAlike_14 rfl rfl (by omega) (by omega) (fun y1 => ?_) (fun y1 => ?_) | refine e_cmp_eq 19 17 (by decide) rfl dX10_overAlike_14 (fun y1 => ?_) (fun y1 => ?_)
  rotate_left
  · refine e_iconst (nI 0) 18 rfl dX10_overAlike_17 ic_0 ?_
    refine e_zret dX10_overAlike_18 rfl (by first | exact z0 | exact z1 | exact bI01 _ | assumption) ?_
    exact no (fun q => y1 (by rw [q]))
  refine e_iconst (nI 0) 20 rfl dX10_overAlike_19 ic_0 ?_
  refine e_is4 22 rfl dX10_overAlike_20 (by decide) rfl ?_
  have loop : ∀ (fu t : Nat), t + fu = (pln (aL S) a).length → (pln (aL S) a).take t = (pln (aL S) b).take t → Ev E M_X10_overAlike 0 0 22 [some (.ref m), some (.int (nI i)), some (.int (nI j)), some (.int (nI (pln (aL S) a).length)), some (.int (nI t))] [] μ K := by
    intro fu
    induction fu with
    | zero =>
      intro t ht htk
      rw [List.take_of_length_le (by omega), List.take_of_length_le (by omega)] at htk
      refine e_il4 24 rfl dX10_overAlike_22 ?_
      refine e_il3 25 rfl dX10_overAlike_24 ?_
      first | refine e_cmp_geN 53 28 (by decide) rfl dX10_overAlike_25 rfl rfl (by omega) (by omega) (fun y2 => ?_) (fun y2 => ?_) | refine e_cmp_ge 53 28 (by decide) rfl dX10_overAlike_25 (fun y2 => ?_) (fun y2 => ?_)
      rotate_left
      · omega
      refine e_iconst (nI 1) 54 rfl dX10_overAlike_53 ic_1 ?_
      refine e_zret dX10_overAlike_54 rfl (by first | exact z0 | exact z1 | exact bI01 _ | assumption) ?_
      rw [show decide (pln (aL S) a = pln (aL S) b) = true from decide_eq_true htk] at k
      exact k
    | succ fu ih =>
      intro t ht htk
      have h1 : t < (pln (aL S) a).length := by omega
      have h2 : t < (pln (aL S) b).length := by omega
      have c1 := ca _ (List.getElem_mem h1)
      have c2 := cb _ (List.getElem_mem h2)
      have s1 : seeI (pln (aL S) a)[t]? = nI (pln (aL S) a)[t] := by rw [List.getElem?_eq_getElem h1]; rfl
      have s2 : seeI (pln (aL S) b)[t]? = nI (pln (aL S) b)[t] := by rw [List.getElem?_eq_getElem h2]; rfl
      refine e_il4 24 rfl dX10_overAlike_22 ?_
      refine e_il3 25 rfl dX10_overAlike_24 ?_
      first | refine e_cmp_geN 53 28 (by decide) rfl dX10_overAlike_25 rfl rfl (by omega) (by omega) (fun y2 => ?_) (fun y2 => ?_) | refine e_cmp_ge 53 28 (by decide) rfl dX10_overAlike_25 (fun y2 => ?_) (fun y2 => ?_)
      · omega
      refine e_al0 29 rfl dX10_overAlike_28 ?_
      refine e_il1 30 rfl dX10_overAlike_29 ?_
      refine e_il4 32 rfl dX10_overAlike_30 ?_
      refine e_invV0 [_, _] 35 rfl dX10_overAlike_32 k_X10_247 mo_X10_over rm_X10_overAlike_X10_over ⟨rfl, rfl⟩ rfl rfl (by assumption) (Nat.le_of_ble_eq_true rfl) ?_
      refine c_over hW hM hi (by omega) ?_
      rw [s1]
      refine e_al0 36 rfl dX10_overAlike_35 ?_
      refine e_il2 37 rfl dX10_overAlike_36 ?_
      refine e_il4 39 rfl dX10_overAlike_37 ?_
      refine e_invV0 [_, _] 42 rfl dX10_overAlike_39 k_X10_247 mo_X10_over rm_X10_overAlike_X10_over ⟨rfl, rfl⟩ rfl rfl (by assumption) (Nat.le_of_ble_eq_true rfl) ?_
      refine c_over hW hM hj (by omega) ?_
      rw [s2]
      first | refine e_cmp_eqN 47 45 (by decide) rfl dX10_overAlike_42 rfl rfl (by omega) (by omega) (fun y3 => ?_) (fun y3 => ?_) | refine e_cmp_eq 47 45 (by decide) rfl dX10_overAlike_42 (fun y3 => ?_) (fun y3 => ?_)
      · refine e_ii4 (nI (_ + 1)) 50 rfl dX10_overAlike_47 (ii1 _) rfl ?_
        refine e_goto 22 (by decide) dX10_overAlike_50 ?_
        exact ih (t + 1) (by omega) ((take_succ_eq h1 h2 htk).mpr y3)
      · refine e_iconst (nI 0) 46 rfl dX10_overAlike_45 ic_0 ?_
        refine e_zret dX10_overAlike_46 rfl (by first | exact z0 | exact z1 | exact bI01 _ | assumption) ?_
        exact no (fun q => y3 (by simp only [q]))
  exact loop (pln (aL S) a).length 0 (by omega) rfl
/-- pairs with a, from the second on -/
def upN (S : Ast) (n a : Nat) : Nat := ((List.range n).filter (fun b => decide (a < b) && flP S b a)).length
theorem upN_s {S : Ast} {n a : Nat} : upN S (n + 1) a = upN S n a + if (decide (a < n) && flP S n a) = true then 1 else 0 := by
  unfold upN
  rw [List.range_succ, List.filter_append, List.length_append, List.filter_cons]
  split <;> rfl
theorem upN_0 {S : Ast} {n a : Nat} (h : n ≤ a + 1) : upN S n a = 0 := by
  unfold upN
  rw [List.length_eq_zero_iff, List.filter_eq_nil_iff]
  intro b hb
  have := List.mem_range.mp hb
  simp
  intro h2
  omega
theorem sumF_flt (p : Nat → Bool) : ∀ n, sumF (fun a => if p a = true then 1 else 0) n = ((List.range n).filter p).length := by
  intro n
  induction n with
  | zero => rfl
  | succ n ih =>
    rw [sumF_s, ih, List.range_succ, List.filter_append, List.length_append, List.filter_cons]
    split <;> rfl
theorem sumF_congr {g h : Nat → Nat} : ∀ n, (∀ i, i < n → g i = h i) → sumF g n = sumF h n := by
  intro n
  induction n with
  | zero => intro _; rfl
  | succ n ih => intro e; rw [sumF_s, sumF_s, ih (fun i hi => e i (by omega)), e n (by omega)]
theorem fall_up {S : Ast} : ∀ n, sumF (upN S n) n = fallN S n := by
  intro n
  induction n with
  | zero => rfl
  | succ n ih =>
    have h1 : sumF (upN S (n + 1)) (n + 1) = sumF (fun a => upN S n a + if (decide (a < n) && flP S n a) = true then 1 else 0) (n + 1) := sumF_congr _ (fun i _ => upN_s)
    rw [h1, sumF_add, sumF_s, ih, upN_0 (by omega), sumF_s]
    have h2 : sumF (fun a => if (decide (a < n) && flP S n a) = true then 1 else 0) n = ((List.range n).filter (flP S n)).length := by
      rw [← sumF_flt]
      exact sumF_congr _ (fun i hi => by simp [hi])
    rw [h2, if_neg (by simp)]
    show _ = fallN S n + ((List.range n).filter (flP S n)).length
    omega
theorem m_fallen {m : Nat} {S : Ast} (hW : WF S) (hM : MI m S μ) (k : ∀ μ', MF m μ μ' → MI m S μ' → K (some (.int (nI (fallN S (aN S).length)))) μ') : Cl E M_X10_fallen [.ref m] μ K := by
  have n30 := hW.2.2.2.1.1
  have mk0 := hM.1.1
  have hM1 := hM.thr (nI 0)
  have f1 : MF m μ (sF μ m 2 (nI 0)) := MF.thr _
  refine Cl.of0 3 pn_X10 (Nat.le_of_ble_eq_true rfl) ⟨rfl, rfl⟩ rfl ?_
  refine e_al0 1 rfl dX10_fallen_0 ?_
  refine e_iconst (nI 0) 2 rfl dX10_fallen_1 ic_0 ?_
  refine e_putI 5 rfl dX10_fallen_2 f_X10_126 (by assumption) ?_
  generalize sF μ m 2 (nI 0) = μ1 at hM1 f1 ⊢
  have mk := hM1.1.1
  have h20 := hM1.2.2.2.2.2.1.1
  have k1 := k μ1 f1 hM1
  rw [← fall_up] at k1
  obtain ⟨N, hN⟩ : ∃ N, N = (aN S).length := ⟨_, rfl⟩
  rw [← hN] at k1 h20 n30
  refine e_iconst (nI 0) 6 rfl dX10_fallen_5 ic_0 ?_
  refine e_is1 7 rfl dX10_fallen_6 (by decide) rfl ?_
  refine e_iconst (nI 0) 8 rfl dX10_fallen_7 ic_0 ?_
  refine e_is2 9 rfl dX10_fallen_8 (by decide) rfl ?_
  have outer : ∀ (fu a : Nat), a + fu = N → ∀ q3, nl q3 = true → Ev E M_X10_fallen 0 0 9 [some (.ref m), some (.int (nI (sumF (upN S N) a))), some (.int (nI a)), q3] [] μ1 K := by
    intro fu
    induction fu with
    | zero =>
      intro a ha q3 hq3
      refine e_il2 10 rfl dX10_fallen_9 ?_
      refine e_al0 11 rfl dX10_fallen_10 ?_
      first | refine e_getIv 14 rfl dX10_fallen_11 f_X10_189 (by assumption) (by first | assumption | (simp only [mN_sF, mK_sF, mL_sF, mF_sF, mB_sF, mA_sF, mJ_sF, mP_sF, mO_sF, mN_sB, mK_sB, mL_sB, mF_sB, mB_sB, mA_sB, mJ_sB, mP_sB, mO_sB, mN_sA, mK_sA, mL_sA, mF_sA, mB_sA, mA_sA, mJ_sA, mP_sA, mO_sA, mN_sJ, mK_sJ, mL_sJ, mF_sJ, mB_sJ, mA_sJ, mJ_sJ, mP_sJ, mO_sJ, mN_sP, mK_sP, mL_sP, mF_sP, mB_sP, mA_sP, mJ_sP, mP_sP, mO_sP, mN_sO, mK_sO, mL_sO, mF_sO, mB_sO, mA_sO, mJ_sO, mP_sO, mO_sO, up2, if_true, if_false, eq_self, ite_true, ite_false, reduceIte, Nat.add_left_cancel_iff, Nat.add_eq_left, Nat.left_eq_add, Nat.reduceEqDiff]; assumption) | (simp only [mN_sF, mK_sF, mL_sF, mF_sF, mB_sF, mA_sF, mJ_sF, mP_sF, mO_sF, mN_sB, mK_sB, mL_sB, mF_sB, mB_sB, mA_sB, mJ_sB, mP_sB, mO_sB, mN_sA, mK_sA, mL_sA, mF_sA, mB_sA, mA_sA, mJ_sA, mP_sA, mO_sA, mN_sJ, mK_sJ, mL_sJ, mF_sJ, mB_sJ, mA_sJ, mJ_sJ, mP_sJ, mO_sJ, mN_sP, mK_sP, mL_sP, mF_sP, mB_sP, mA_sP, mJ_sP, mP_sP, mO_sP, mN_sO, mK_sO, mL_sO, mF_sO, mB_sO, mA_sO, mJ_sO, mP_sO, mO_sO, up2, if_true, if_false, eq_self, ite_true, ite_false, reduceIte, Nat.add_left_cancel_iff, Nat.add_eq_left, Nat.left_eq_add, Nat.reduceEqDiff]; done)) ?_ | refine e_getI 14 rfl dX10_fallen_11 f_X10_189 (by assumption) ?_
      first | refine e_cmp_geN 67 17 (by decide) rfl dX10_fallen_14 rfl rfl (by omega) (by omega) (fun y1 => ?_) (fun y1 => ?_) | refine e_cmp_ge 67 17 (by decide) rfl dX10_fallen_14 (fun y1 => ?_) (fun y1 => ?_)
      rotate_left
      · omega
      refine e_il1 68 rfl dX10_fallen_67 ?_
      refine e_iret dX10_fallen_68 rfl ?_
      rw [show a = N by omega]
      exact k1
    | succ fu ih =>
      intro a ha q3 hq3
      obtain ⟨x, hx⟩ : ∃ x, (aN S)[a]? = some x := ⟨_, List.getElem?_eq_getElem (by omega)⟩
      refine e_il2 10 rfl dX10_fallen_9 ?_
      refine e_al0 11 rfl dX10_fallen_10 ?_
      first | refine e_getIv 14 rfl dX10_fallen_11 f_X10_189 (by assumption) (by first | assumption | (simp only [mN_sF, mK_sF, mL_sF, mF_sF, mB_sF, mA_sF, mJ_sF, mP_sF, mO_sF, mN_sB, mK_sB, mL_sB, mF_sB, mB_sB, mA_sB, mJ_sB, mP_sB, mO_sB, mN_sA, mK_sA, mL_sA, mF_sA, mB_sA, mA_sA, mJ_sA, mP_sA, mO_sA, mN_sJ, mK_sJ, mL_sJ, mF_sJ, mB_sJ, mA_sJ, mJ_sJ, mP_sJ, mO_sJ, mN_sP, mK_sP, mL_sP, mF_sP, mB_sP, mA_sP, mJ_sP, mP_sP, mO_sP, mN_sO, mK_sO, mL_sO, mF_sO, mB_sO, mA_sO, mJ_sO, mP_sO, mO_sO, up2, if_true, if_false, eq_self, ite_true, ite_false, reduceIte, Nat.add_left_cancel_iff, Nat.add_eq_left, Nat.left_eq_add, Nat.reduceEqDiff]; assumption) | (simp only [mN_sF, mK_sF, mL_sF, mF_sF, mB_sF, mA_sF, mJ_sF, mP_sF, mO_sF, mN_sB, mK_sB, mL_sB, mF_sB, mB_sB, mA_sB, mJ_sB, mP_sB, mO_sB, mN_sA, mK_sA, mL_sA, mF_sA, mB_sA, mA_sA, mJ_sA, mP_sA, mO_sA, mN_sJ, mK_sJ, mL_sJ, mF_sJ, mB_sJ, mA_sJ, mJ_sJ, mP_sJ, mO_sJ, mN_sP, mK_sP, mL_sP, mF_sP, mB_sP, mA_sP, mJ_sP, mP_sP, mO_sP, mN_sO, mK_sO, mL_sO, mF_sO, mB_sO, mA_sO, mJ_sO, mP_sO, mO_sO, up2, if_true, if_false, eq_self, ite_true, ite_false, reduceIte, Nat.add_left_cancel_iff, Nat.add_eq_left, Nat.left_eq_add, Nat.reduceEqDiff]; done)) ?_ | refine e_getI 14 rfl dX10_fallen_11 f_X10_189 (by assumption) ?_
      first | refine e_cmp_geN 67 17 (by decide) rfl dX10_fallen_14 rfl rfl (by omega) (by omega) (fun y1 => ?_) (fun y1 => ?_) | refine e_cmp_ge 67 17 (by decide) rfl dX10_fallen_14 (fun y1 => ?_) (fun y1 => ?_)
      · omega
      refine e_il2 18 rfl dX10_fallen_17 ?_
      refine e_iconst (nI 1) 19 rfl dX10_fallen_18 ic_1 ?_
      first | refine e_iaddN 20 rfl dX10_fallen_19 rfl rfl ?_ | refine e_iadd 20 rfl dX10_fallen_19 ?_
      refine e_is3 21 rfl dX10_fallen_20 (by decide) rfl ?_
      have inner : ∀ (gu b : Nat), b + gu = N → a < b → Ev E M_X10_fallen 0 0 21 [some (.ref m), some (.int (nI (sumF (upN S N) a + upN S b a))), some (.int (nI a)), some (.int (nI b))] [] μ1 K := by
        intro gu
        induction gu with
        | zero =>
          intro b hb hab
          refine e_il3 22 rfl dX10_fallen_21 ?_
          refine e_al0 23 rfl dX10_fallen_22 ?_
          first | refine e_getIv 26 rfl dX10_fallen_23 f_X10_189 (by assumption) (by first | assumption | (simp only [mN_sF, mK_sF, mL_sF, mF_sF, mB_sF, mA_sF, mJ_sF, mP_sF, mO_sF, mN_sB, mK_sB, mL_sB, mF_sB, mB_sB, mA_sB, mJ_sB, mP_sB, mO_sB, mN_sA, mK_sA, mL_sA, mF_sA, mB_sA, mA_sA, mJ_sA, mP_sA, mO_sA, mN_sJ, mK_sJ, mL_sJ, mF_sJ, mB_sJ, mA_sJ, mJ_sJ, mP_sJ, mO_sJ, mN_sP, mK_sP, mL_sP, mF_sP, mB_sP, mA_sP, mJ_sP, mP_sP, mO_sP, mN_sO, mK_sO, mL_sO, mF_sO, mB_sO, mA_sO, mJ_sO, mP_sO, mO_sO, up2, if_true, if_false, eq_self, ite_true, ite_false, reduceIte, Nat.add_left_cancel_iff, Nat.add_eq_left, Nat.left_eq_add, Nat.reduceEqDiff]; assumption) | (simp only [mN_sF, mK_sF, mL_sF, mF_sF, mB_sF, mA_sF, mJ_sF, mP_sF, mO_sF, mN_sB, mK_sB, mL_sB, mF_sB, mB_sB, mA_sB, mJ_sB, mP_sB, mO_sB, mN_sA, mK_sA, mL_sA, mF_sA, mB_sA, mA_sA, mJ_sA, mP_sA, mO_sA, mN_sJ, mK_sJ, mL_sJ, mF_sJ, mB_sJ, mA_sJ, mJ_sJ, mP_sJ, mO_sJ, mN_sP, mK_sP, mL_sP, mF_sP, mB_sP, mA_sP, mJ_sP, mP_sP, mO_sP, mN_sO, mK_sO, mL_sO, mF_sO, mB_sO, mA_sO, mJ_sO, mP_sO, mO_sO, up2, if_true, if_false, eq_self, ite_true, ite_false, reduceIte, Nat.add_left_cancel_iff, Nat.add_eq_left, Nat.left_eq_add, Nat.reduceEqDiff]; done)) ?_ | refine e_getI 26 rfl dX10_fallen_23 f_X10_189 (by assumption) ?_
          first | refine e_cmp_geN 61 29 (by decide) rfl dX10_fallen_26 rfl rfl (by omega) (by omega) (fun y2 => ?_) (fun y2 => ?_) | refine e_cmp_ge 61 29 (by decide) rfl dX10_fallen_26 (fun y2 => ?_) (fun y2 => ?_)
          rotate_left
          · omega
          refine e_ii2 (nI (_ + 1)) 64 rfl dX10_fallen_61 (ii1 _) rfl ?_
          refine e_goto 9 (by decide) dX10_fallen_64 ?_
          have := ih (a + 1) (by omega) (some (.int (nI b))) rfl
          rw [sumF_s] at this
          rw [show b = N by omega] at this ⊢
          exact this
        | succ gu ihb =>
          intro b hb hab
          obtain ⟨y, hy⟩ : ∃ y, (aN S)[b]? = some y := ⟨_, List.getElem?_eq_getElem (by omega)⟩
          have ef : flP S b a = (decide (pln (aL S) y = pln (aL S) x) && !decide (fsN y = fsN x)) := by unfold flP; rw [hy, hx]
          have c1 : decide (pln (aL S) y = pln (aL S) x) = decide (pln (aL S) x = pln (aL S) y) := by
            by_cases c : pln (aL S) x = pln (aL S) y
            · rw [decide_eq_true c, decide_eq_true c.symm]
            · rw [decide_eq_false c, decide_eq_false (fun q => c q.symm)]
          have c2 : decide (fsN y = fsN x) = decide (fsN x = fsN y) := by
            by_cases c : fsN x = fsN y
            · rw [decide_eq_true c, decide_eq_true c.symm]
            · rw [decide_eq_false c, decide_eq_false (fun q => c q.symm)]
          rw [c1, c2] at ef
          have hn := ihb (b + 1) (by omega) (by omega)
          rw [upN_s, show decide (a < b) = true from decide_eq_true hab, Bool.true_and, ef, ← Nat.add_assoc] at hn
          refine e_il3 22 rfl dX10_fallen_21 ?_
          refine e_al0 23 rfl dX10_fallen_22 ?_
          first | refine e_getIv 26 rfl dX10_fallen_23 f_X10_189 (by assumption) (by first | assumption | (simp only [mN_sF, mK_sF, mL_sF, mF_sF, mB_sF, mA_sF, mJ_sF, mP_sF, mO_sF, mN_sB, mK_sB, mL_sB, mF_sB, mB_sB, mA_sB, mJ_sB, mP_sB, mO_sB, mN_sA, mK_sA, mL_sA, mF_sA, mB_sA, mA_sA, mJ_sA, mP_sA, mO_sA, mN_sJ, mK_sJ, mL_sJ, mF_sJ, mB_sJ, mA_sJ, mJ_sJ, mP_sJ, mO_sJ, mN_sP, mK_sP, mL_sP, mF_sP, mB_sP, mA_sP, mJ_sP, mP_sP, mO_sP, mN_sO, mK_sO, mL_sO, mF_sO, mB_sO, mA_sO, mJ_sO, mP_sO, mO_sO, up2, if_true, if_false, eq_self, ite_true, ite_false, reduceIte, Nat.add_left_cancel_iff, Nat.add_eq_left, Nat.left_eq_add, Nat.reduceEqDiff]; assumption) | (simp only [mN_sF, mK_sF, mL_sF, mF_sF, mB_sF, mA_sF, mJ_sF, mP_sF, mO_sF, mN_sB, mK_sB, mL_sB, mF_sB, mB_sB, mA_sB, mJ_sB, mP_sB, mO_sB, mN_sA, mK_sA, mL_sA, mF_sA, mB_sA, mA_sA, mJ_sA, mP_sA, mO_sA, mN_sJ, mK_sJ, mL_sJ, mF_sJ, mB_sJ, mA_sJ, mJ_sJ, mP_sJ, mO_sJ, mN_sP, mK_sP, mL_sP, mF_sP, mB_sP, mA_sP, mJ_sP, mP_sP, mO_sP, mN_sO, mK_sO, mL_sO, mF_sO, mB_sO, mA_sO, mJ_sO, mP_sO, mO_sO, up2, if_true, if_false, eq_self, ite_true, ite_false, reduceIte, Nat.add_left_cancel_iff, Nat.add_eq_left, Nat.left_eq_add, Nat.reduceEqDiff]; done)) ?_ | refine e_getI 26 rfl dX10_fallen_23 f_X10_189 (by assumption) ?_
          first | refine e_cmp_geN 61 29 (by decide) rfl dX10_fallen_26 rfl rfl (by omega) (by omega) (fun y2 => ?_) (fun y2 => ?_) | refine e_cmp_ge 61 29 (by decide) rfl dX10_fallen_26 (fun y2 => ?_) (fun y2 => ?_)
          · omega
          refine e_il1 30 rfl dX10_fallen_29 ?_
          refine e_al0 31 rfl dX10_fallen_30 ?_
          refine e_il2 32 rfl dX10_fallen_31 ?_
          refine e_il3 33 rfl dX10_fallen_32 ?_
          refine e_invV0 [_, _] 36 rfl dX10_fallen_33 k_X10_254 mo_X10_alike rm_X10_fallen_X10_alike ⟨rfl, rfl⟩ rfl rfl (by assumption) (Nat.le_of_ble_eq_true rfl) ?_
          refine c_mAlike hW hM1 hx hy ?_
          first | refine e_if_neB 52 39 (by decide) rfl dX10_fallen_36 rfl (fun y3 => ?_) (fun y3 => ?_) | refine e_if_neN 52 39 (by decide) rfl dX10_fallen_36 rfl (by omega) (fun y3 => ?_) (fun y3 => ?_) | refine e_if_ne 52 39 (by decide) rfl dX10_fallen_36 (fun y3 => ?_) (fun y3 => ?_)
          · rw [if_neg (by rw [y3]; simp)] at hn
            refine e_iconst (nI 0) 53 rfl dX10_fallen_52 ic_0 ?_
            first | refine e_iaddN 54 rfl dX10_fallen_53 rfl rfl ?_ | refine e_iadd 54 rfl dX10_fallen_53 ?_
            refine e_is1 55 rfl dX10_fallen_54 (by decide) rfl ?_
            refine e_ii3 (nI (_ + 1)) 58 rfl dX10_fallen_55 (ii1 _) rfl ?_
            refine e_goto 21 (by decide) dX10_fallen_58 ?_
            exact hn
          refine e_al0 40 rfl dX10_fallen_39 ?_
          refine e_il2 41 rfl dX10_fallen_40 ?_
          refine e_il3 42 rfl dX10_fallen_41 ?_
          refine e_invV0 [_, _] 45 rfl dX10_fallen_42 k_X10_257 mo_X10_overAlike rm_X10_fallen_X10_overAlike ⟨rfl, rfl⟩ rfl rfl (by assumption) (Nat.le_of_ble_eq_true rfl) ?_
          refine c_overAlike hW hM1 hx hy ?_
          first | refine e_if_eqB 52 48 (by decide) rfl dX10_fallen_45 rfl (fun y4 => ?_) (fun y4 => ?_) | refine e_if_eqN 52 48 (by decide) rfl dX10_fallen_45 rfl (by omega) (fun y4 => ?_) (fun y4 => ?_) | refine e_if_eq 52 48 (by decide) rfl dX10_fallen_45 (fun y4 => ?_) (fun y4 => ?_)
          · rw [if_neg (by rw [y4]; simp)] at hn
            refine e_iconst (nI 0) 53 rfl dX10_fallen_52 ic_0 ?_
            first | refine e_iaddN 54 rfl dX10_fallen_53 rfl rfl ?_ | refine e_iadd 54 rfl dX10_fallen_53 ?_
            refine e_is1 55 rfl dX10_fallen_54 (by decide) rfl ?_
            refine e_ii3 (nI (_ + 1)) 58 rfl dX10_fallen_55 (ii1 _) rfl ?_
            refine e_goto 21 (by decide) dX10_fallen_58 ?_
            exact hn
          · rw [if_pos (by rw [y3, y4]; rfl)] at hn
            refine e_iconst (nI 1) 49 rfl dX10_fallen_48 ic_1 ?_
            refine e_goto 53 (by decide) dX10_fallen_49 ?_
            first | refine e_iaddN 54 rfl dX10_fallen_53 rfl rfl ?_ | refine e_iadd 54 rfl dX10_fallen_53 ?_
            refine e_is1 55 rfl dX10_fallen_54 (by decide) rfl ?_
            refine e_ii3 (nI (_ + 1)) 58 rfl dX10_fallen_55 (ii1 _) rfl ?_
            refine e_goto 21 (by decide) dX10_fallen_58 ?_
            exact hn
      have := inner (N - (a + 1)) (a + 1) (by omega) (by omega)
      rw [upN_0 (S := S) (Nat.le_refl (a + 1))] at this
      exact this
  exact outer N 0 (by omega) _ rfl
end MFATHER
