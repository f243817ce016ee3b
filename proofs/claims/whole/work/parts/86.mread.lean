/-! NameDeskModel: readings -/
section MREAD
variable {E : En} {μ : Mm} {K : Option Value → Mm → Prop}
def flS (m : Nat) : Nat → Prop := fun q => q = m ∨ (m + 30 ≤ q ∧ q ≤ m + 33)
def pr2 (x : Rw) : Nat × Nat := (x.1, x.2.1)
theorem rdT_AR {S : Ast} {nm : Nm} (hW : WF S) : (rdT (aS S nm.1) (aB S) nm).map pr2 = AR (slO (aS S nm.1)) (costW (aB S) nm.1 (enO (aS S nm.1)) (fsN nm)) nm.2.length 0 0 0 (fmO (aS S nm.1)) := by
  unfold rdT pr2
  refine PR_end ?_ (costW_le _ _ _ _) ?_
  · cases e : aS S nm.1 with
    | none => exact Nat.zero_le _
    | some x => exact (hW.2.1 _ x e).1.2.1
  · cases e : aS S nm.1 with
    | none => exact ⟨by decide, fun q h => by have h' : (0 : Nat).testBit q = true := h; rw [Nat.zero_testBit] at h'; cases h'⟩
    | some x =>
      refine ⟨msk_lt _, fun q hq => ?_⟩
      have hq' : (msk (Opn x.1 0)).testBit q = true := hq
      rw [msk_bit] at hq'
      rcases Opn_lt hq'.2 with g | g
      · exact Or.inl g.2
      · exact Or.inr g
theorem rdT_ok {S : Ast} {nm : Nm} (hW : WF S) (hn : nm.2.length ≤ 8) : (∀ x ∈ rdT (aS S nm.1) (aB S) nm, eOK x) ∧ (rdT (aS S nm.1) (aB S) nm).length ≤ 6435 := by
  have h8 : (slO (aS S nm.1)).length ≤ 8 := by
    cases e : aS S nm.1 with
    | none => exact Nat.zero_le _
    | some x => exact (hW.2.1 _ x e).1.2.1
  have ho : Om (slO (aS S nm.1)) (fmO (aS S nm.1)) := by
    cases e : aS S nm.1 with
    | none => exact ⟨by decide, fun q h => by have h' : (0 : Nat).testBit q = true := h; rw [Nat.zero_testBit] at h'; cases h'⟩
    | some x =>
      refine ⟨msk_lt _, fun q hq => ?_⟩
      have hq' : (msk (Opn x.1 0)).testBit q = true := hq
      rw [msk_bit] at hq'
      rcases Opn_lt hq'.2 with g | g
      · exact Or.inl g.2
      · exact Or.inr g
  exact ⟨eOK_PR h8 (costW_le _ _ _ _) ho (Nat.le_refl _) hn, PR_len h8 (costW_le _ _ _ _) ho (Nat.le_refl _) hn⟩
theorem fsN_get {nm : Nm} {w : Nat} (h : w < nm.2.length) : (fsN nm).getD w [] = foldL nm.2[w] := by
  unfold fsN
  rw [List.getD_eq_getElem?_getD, List.getElem?_map, List.getElem?_eq_getElem h]; rfl
theorem c_fill {m i : Nat} {S : Ast} {nm : Nm} (hW : WF S) (hM : MI m S μ) (hi : (aN S)[i]? = some nm)
    (k : ∀ μ', Fr (flS m) μ μ' → (∀ g, g ≠ 44 → mF μ' m g = mF μ m g) → mRw μ' m ((rdT (aS S nm.1) (aB S) nm).map pr2) → K none μ') : Cl E M_X10_fill [.ref m, .int (nI i)] μ K := by
  have Sm : flS m m := Or.inl rfl
  have hil := (List.getElem?_eq_some_iff.mp hi).1
  have n30 := hW.2.2.2.1.1
  have hwf := hW.2.2.2.1.2 nm (List.mem_of_getElem? hi)
  obtain ⟨hg, hT, ⟨es, hes, hBk⟩, hSh, hFt, hNm, hTb⟩ := id hM
  obtain ⟨es80, esN, esW⟩ := hW.es hes
  have mk := hg.1
  obtain ⟨n1, n2, n3⟩ := hNm.2 i nm hi
  have hl6 := hwf.1
  have hn1 := hwf.2.1
  have hn8 := hwf.2.2.1
  rw [rdT_AR hW] at k
  obtain ⟨hs1, hs2⟩ := hSh nm.1 hl6
  have mk1 : mK (sF μ m 44 (nI 0)) m = 11 := mk
  refine Cl.of0 7 pn_X10 (Nat.le_of_ble_eq_true rfl) ⟨rfl, rfl⟩ rfl ?_
  refine e_al0 1 rfl dX10_fill_0 ?_
  refine e_iconst (nI 0) 2 rfl dX10_fill_1 ic_0 ?_
  refine e_putI 5 rfl dX10_fill_2 f_X10_192 (by assumption) ?_
  have hF1 : Fr (fun q => q = m) μ (sF μ m 44 (nI 0)) := (Fr.rf (S := fun q => q = m)).sF rfl 44 (nI 0)
  have hf1 : ∀ g, g ≠ 44 → mF (sF μ m 44 (nI 0)) m g = mF μ m g := fun g hg => by show up2 _ m 44 _ m g = _; rw [up2_k hg]
  have h44 : mF (sF μ m 44 (nI 0)) m 44 = nI 0 := by simp only [mN_sF, mK_sF, mL_sF, mF_sF, mB_sF, mA_sF, mJ_sF, mP_sF, mO_sF, mN_sB, mK_sB, mL_sB, mF_sB, mB_sB, mA_sB, mJ_sB, mP_sB, mO_sB, mN_sA, mK_sA, mL_sA, mF_sA, mB_sA, mA_sA, mJ_sA, mP_sA, mO_sA, mN_sJ, mK_sJ, mL_sJ, mF_sJ, mB_sJ, mA_sJ, mJ_sJ, mP_sJ, mO_sJ, mN_sP, mK_sP, mL_sP, mF_sP, mB_sP, mA_sP, mJ_sP, mP_sP, mO_sP, mN_sO, mK_sO, mL_sO, mF_sO, mB_sO, mA_sO, mJ_sO, mP_sO, mO_sO, up2, if_true, if_false, eq_self, ite_true, ite_false, reduceIte, Nat.add_left_cancel_iff, Nat.add_eq_left, Nat.left_eq_add, Nat.reduceEqDiff]
  clear mk1
  generalize sF μ m 44 (nI 0) = μ1 at hF1 hf1 h44 ⊢
  have hg1 := hg.fr hF1
  have mk1 := hg1.1
  obtain ⟨pl, kl, ll⟩ := hg1.nLand
  obtain ⟨pw, kw, lw⟩ := hg1.nWords
  obtain ⟨ph, kh, lh⟩ := hg1.has
  have v1 : mA μ1 (m + 16) i = nI nm.1 := by rw [(hF1.2.2.2.2.2 (m + 16) (by omega)).2.2.1]; exact n1
  have v2 : mA μ1 (m + 17) i = nI nm.2.length := by rw [(hF1.2.2.2.2.2 (m + 17) (by omega)).2.2.1]; exact n2
  have v3 : mB μ1 (m + 6) nm.1 = bI (aS S nm.1).isSome := by rw [(hF1.2.2.2.2.2 (m + 6) (by omega)).2.1]; exact hs1
  cases eo : aS S nm.1 with
  | none =>
    rw [eo] at v3 k
    refine e_al0 6 rfl dX10_fill_5 ?_
    refine e_getR 9 rfl dX10_fill_6 f_X10_60 (by assumption) (by assumption) ?_
    refine e_il1 10 rfl dX10_fill_9 ?_
    first | refine e_ialdv 11 rfl dX10_fill_10 (by assumption) (by assumption) (by first | rfl | simp only [pk_mul, nI_add]) (by omega) (by omega) (by first | assumption | (simp only [mN_sF, mK_sF, mL_sF, mF_sF, mB_sF, mA_sF, mJ_sF, mP_sF, mO_sF, mN_sB, mK_sB, mL_sB, mF_sB, mB_sB, mA_sB, mJ_sB, mP_sB, mO_sB, mN_sA, mK_sA, mL_sA, mF_sA, mB_sA, mA_sA, mJ_sA, mP_sA, mO_sA, mN_sJ, mK_sJ, mL_sJ, mF_sJ, mB_sJ, mA_sJ, mJ_sJ, mP_sJ, mO_sJ, mN_sP, mK_sP, mL_sP, mF_sP, mB_sP, mA_sP, mJ_sP, mP_sP, mO_sP, mN_sO, mK_sO, mL_sO, mF_sO, mB_sO, mA_sO, mJ_sO, mP_sO, mO_sO, up2, if_true, if_false, eq_self, ite_true, ite_false, reduceIte, Nat.add_left_cancel_iff, Nat.add_eq_left, Nat.left_eq_add, Nat.reduceEqDiff]; assumption) | (simp only [mN_sF, mK_sF, mL_sF, mF_sF, mB_sF, mA_sF, mJ_sF, mP_sF, mO_sF, mN_sB, mK_sB, mL_sB, mF_sB, mB_sB, mA_sB, mJ_sB, mP_sB, mO_sB, mN_sA, mK_sA, mL_sA, mF_sA, mB_sA, mA_sA, mJ_sA, mP_sA, mO_sA, mN_sJ, mK_sJ, mL_sJ, mF_sJ, mB_sJ, mA_sJ, mJ_sJ, mP_sJ, mO_sJ, mN_sP, mK_sP, mL_sP, mF_sP, mB_sP, mA_sP, mJ_sP, mP_sP, mO_sP, mN_sO, mK_sO, mL_sO, mF_sO, mB_sO, mA_sO, mJ_sO, mP_sO, mO_sO, up2, if_true, if_false, eq_self, ite_true, ite_false, reduceIte, Nat.add_left_cancel_iff, Nat.add_eq_left, Nat.left_eq_add, Nat.reduceEqDiff]; done)) ?_ | refine e_iald 11 rfl dX10_fill_10 (by assumption) (by assumption) (by first | rfl | simp only [pk_mul, nI_add]) (by omega) (by omega) ?_
    refine e_is2 12 rfl dX10_fill_11 (by decide) rfl ?_
    refine e_al0 13 rfl dX10_fill_12 ?_
    refine e_getR 16 rfl dX10_fill_13 f_X10_63 (by assumption) (by assumption) ?_
    refine e_il1 17 rfl dX10_fill_16 ?_
    first | refine e_ialdv 18 rfl dX10_fill_17 (by assumption) (by assumption) (by first | rfl | simp only [pk_mul, nI_add]) (by omega) (by omega) (by first | assumption | (simp only [mN_sF, mK_sF, mL_sF, mF_sF, mB_sF, mA_sF, mJ_sF, mP_sF, mO_sF, mN_sB, mK_sB, mL_sB, mF_sB, mB_sB, mA_sB, mJ_sB, mP_sB, mO_sB, mN_sA, mK_sA, mL_sA, mF_sA, mB_sA, mA_sA, mJ_sA, mP_sA, mO_sA, mN_sJ, mK_sJ, mL_sJ, mF_sJ, mB_sJ, mA_sJ, mJ_sJ, mP_sJ, mO_sJ, mN_sP, mK_sP, mL_sP, mF_sP, mB_sP, mA_sP, mJ_sP, mP_sP, mO_sP, mN_sO, mK_sO, mL_sO, mF_sO, mB_sO, mA_sO, mJ_sO, mP_sO, mO_sO, up2, if_true, if_false, eq_self, ite_true, ite_false, reduceIte, Nat.add_left_cancel_iff, Nat.add_eq_left, Nat.left_eq_add, Nat.reduceEqDiff]; assumption) | (simp only [mN_sF, mK_sF, mL_sF, mF_sF, mB_sF, mA_sF, mJ_sF, mP_sF, mO_sF, mN_sB, mK_sB, mL_sB, mF_sB, mB_sB, mA_sB, mJ_sB, mP_sB, mO_sB, mN_sA, mK_sA, mL_sA, mF_sA, mB_sA, mA_sA, mJ_sA, mP_sA, mO_sA, mN_sJ, mK_sJ, mL_sJ, mF_sJ, mB_sJ, mA_sJ, mJ_sJ, mP_sJ, mO_sJ, mN_sP, mK_sP, mL_sP, mF_sP, mB_sP, mA_sP, mJ_sP, mP_sP, mO_sP, mN_sO, mK_sO, mL_sO, mF_sO, mB_sO, mA_sO, mJ_sO, mP_sO, mO_sO, up2, if_true, if_false, eq_self, ite_true, ite_false, reduceIte, Nat.add_left_cancel_iff, Nat.add_eq_left, Nat.left_eq_add, Nat.reduceEqDiff]; done)) ?_ | refine e_iald 18 rfl dX10_fill_17 (by assumption) (by assumption) (by first | rfl | simp only [pk_mul, nI_add]) (by omega) (by omega) ?_
    refine e_is3 19 rfl dX10_fill_18 (by decide) rfl ?_
    refine e_al0 20 rfl dX10_fill_19 ?_
    refine e_getR 23 rfl dX10_fill_20 f_X10_25 (by assumption) (by assumption) ?_
    refine e_il2 24 rfl dX10_fill_23 ?_
    first | refine e_baldv 25 rfl dX10_fill_24 (by assumption) (by assumption) (by first | rfl | simp only [pk_mul, nI_add]) (by omega) (by omega) (by first | assumption | (simp only [mN_sF, mK_sF, mL_sF, mF_sF, mB_sF, mA_sF, mJ_sF, mP_sF, mO_sF, mN_sB, mK_sB, mL_sB, mF_sB, mB_sB, mA_sB, mJ_sB, mP_sB, mO_sB, mN_sA, mK_sA, mL_sA, mF_sA, mB_sA, mA_sA, mJ_sA, mP_sA, mO_sA, mN_sJ, mK_sJ, mL_sJ, mF_sJ, mB_sJ, mA_sJ, mJ_sJ, mP_sJ, mO_sJ, mN_sP, mK_sP, mL_sP, mF_sP, mB_sP, mA_sP, mJ_sP, mP_sP, mO_sP, mN_sO, mK_sO, mL_sO, mF_sO, mB_sO, mA_sO, mJ_sO, mP_sO, mO_sO, up2, if_true, if_false, eq_self, ite_true, ite_false, reduceIte, Nat.add_left_cancel_iff, Nat.add_eq_left, Nat.left_eq_add, Nat.reduceEqDiff]; assumption) | (simp only [mN_sF, mK_sF, mL_sF, mF_sF, mB_sF, mA_sF, mJ_sF, mP_sF, mO_sF, mN_sB, mK_sB, mL_sB, mF_sB, mB_sB, mA_sB, mJ_sB, mP_sB, mO_sB, mN_sA, mK_sA, mL_sA, mF_sA, mB_sA, mA_sA, mJ_sA, mP_sA, mO_sA, mN_sJ, mK_sJ, mL_sJ, mF_sJ, mB_sJ, mA_sJ, mJ_sJ, mP_sJ, mO_sJ, mN_sP, mK_sP, mL_sP, mF_sP, mB_sP, mA_sP, mJ_sP, mP_sP, mO_sP, mN_sO, mK_sO, mL_sO, mF_sO, mB_sO, mA_sO, mJ_sO, mP_sO, mO_sO, up2, if_true, if_false, eq_self, ite_true, ite_false, reduceIte, Nat.add_left_cancel_iff, Nat.add_eq_left, Nat.left_eq_add, Nat.reduceEqDiff]; done)) ?_ | refine e_zaldv 25 rfl dX10_fill_24 (by assumption) (by assumption) (by first | rfl | simp only [pk_mul, nI_add]) (by omega) (by omega) (by first | assumption | (simp only [mN_sF, mK_sF, mL_sF, mF_sF, mB_sF, mA_sF, mJ_sF, mP_sF, mO_sF, mN_sB, mK_sB, mL_sB, mF_sB, mB_sB, mA_sB, mJ_sB, mP_sB, mO_sB, mN_sA, mK_sA, mL_sA, mF_sA, mB_sA, mA_sA, mJ_sA, mP_sA, mO_sA, mN_sJ, mK_sJ, mL_sJ, mF_sJ, mB_sJ, mA_sJ, mJ_sJ, mP_sJ, mO_sJ, mN_sP, mK_sP, mL_sP, mF_sP, mB_sP, mA_sP, mJ_sP, mP_sP, mO_sP, mN_sO, mK_sO, mL_sO, mF_sO, mB_sO, mA_sO, mJ_sO, mP_sO, mO_sO, up2, if_true, if_false, eq_self, ite_true, ite_false, reduceIte, Nat.add_left_cancel_iff, Nat.add_eq_left, Nat.left_eq_add, Nat.reduceEqDiff]; assumption) | (simp only [mN_sF, mK_sF, mL_sF, mF_sF, mB_sF, mA_sF, mJ_sF, mP_sF, mO_sF, mN_sB, mK_sB, mL_sB, mF_sB, mB_sB, mA_sB, mJ_sB, mP_sB, mO_sB, mN_sA, mK_sA, mL_sA, mF_sA, mB_sA, mA_sA, mJ_sA, mP_sA, mO_sA, mN_sJ, mK_sJ, mL_sJ, mF_sJ, mB_sJ, mA_sJ, mJ_sJ, mP_sJ, mO_sJ, mN_sP, mK_sP, mL_sP, mF_sP, mB_sP, mA_sP, mJ_sP, mP_sP, mO_sP, mN_sO, mK_sO, mL_sO, mF_sO, mB_sO, mA_sO, mJ_sO, mP_sO, mO_sO, up2, if_true, if_false, eq_self, ite_true, ite_false, reduceIte, Nat.add_left_cancel_iff, Nat.add_eq_left, Nat.left_eq_add, Nat.reduceEqDiff]; done)) ?_ | refine e_bald 25 rfl dX10_fill_24 (by assumption) (by assumption) (by first | rfl | simp only [pk_mul, nI_add]) (by omega) (by omega) ?_ | refine e_zald 25 rfl dX10_fill_24 (by assumption) (by assumption) (by first | rfl | simp only [pk_mul, nI_add]) (by omega) (by omega) ?_
    first | refine e_if_neB 29 28 (by decide) rfl dX10_fill_25 rfl (fun y1 => ?_) (fun y1 => ?_) | refine e_if_neN 29 28 (by decide) rfl dX10_fill_25 rfl (by omega) (fun y1 => ?_) (fun y1 => ?_) | refine e_if_ne 29 28 (by decide) rfl dX10_fill_25 (fun y1 => ?_) (fun y1 => ?_)
    · cases y1
    refine e_ret dX10_fill_28 rfl ?_
    refine k μ1 (hF1.mono (fun q h => by unfold flS; omega)) hf1 ?_
    have e : AR (slO none) (costW (aB S) nm.1 (enO none) (fsN nm)) nm.2.length 0 0 0 (fmO none) = [] := AR_nil (fun d hd => Rn_ne (Nat.zero_le _) hd rfl)
    rw [e]
    exact ⟨h44, fun j x hj => by simp at hj⟩
  | some x =>
  rw [eo] at v3 k
  have hxw := hW.2.1 nm.1 x eo
  have hx := hs2 x eo
  obtain ⟨C, hCe⟩ : ∃ C, C = costW (aB S) nm.1 x.2.2.2 (fsN nm) := ⟨_, rfl⟩
  have hCb : ∀ w k, C w k ≤ 5 ∨ C w k = 1000 := by rw [hCe]; exact costW_b _ _ _ _
  have k' : ∀ μ', Fr (flS m) μ μ' → (∀ g, g ≠ 44 → mF μ' m g = mF μ m g) → mRw μ' m (AR x.1 C nm.2.length 0 0 0 (msk (Opn x.1 0))) → K none μ' := by rw [hCe]; exact k
  clear k
  refine e_al0 6 rfl dX10_fill_5 ?_
  refine e_getR 9 rfl dX10_fill_6 f_X10_60 (by assumption) (by assumption) ?_
  refine e_il1 10 rfl dX10_fill_9 ?_
  first | refine e_ialdv 11 rfl dX10_fill_10 (by assumption) (by assumption) (by first | rfl | simp only [pk_mul, nI_add]) (by omega) (by omega) (by first | assumption | (simp only [mN_sF, mK_sF, mL_sF, mF_sF, mB_sF, mA_sF, mJ_sF, mP_sF, mO_sF, mN_sB, mK_sB, mL_sB, mF_sB, mB_sB, mA_sB, mJ_sB, mP_sB, mO_sB, mN_sA, mK_sA, mL_sA, mF_sA, mB_sA, mA_sA, mJ_sA, mP_sA, mO_sA, mN_sJ, mK_sJ, mL_sJ, mF_sJ, mB_sJ, mA_sJ, mJ_sJ, mP_sJ, mO_sJ, mN_sP, mK_sP, mL_sP, mF_sP, mB_sP, mA_sP, mJ_sP, mP_sP, mO_sP, mN_sO, mK_sO, mL_sO, mF_sO, mB_sO, mA_sO, mJ_sO, mP_sO, mO_sO, up2, if_true, if_false, eq_self, ite_true, ite_false, reduceIte, Nat.add_left_cancel_iff, Nat.add_eq_left, Nat.left_eq_add, Nat.reduceEqDiff]; assumption) | (simp only [mN_sF, mK_sF, mL_sF, mF_sF, mB_sF, mA_sF, mJ_sF, mP_sF, mO_sF, mN_sB, mK_sB, mL_sB, mF_sB, mB_sB, mA_sB, mJ_sB, mP_sB, mO_sB, mN_sA, mK_sA, mL_sA, mF_sA, mB_sA, mA_sA, mJ_sA, mP_sA, mO_sA, mN_sJ, mK_sJ, mL_sJ, mF_sJ, mB_sJ, mA_sJ, mJ_sJ, mP_sJ, mO_sJ, mN_sP, mK_sP, mL_sP, mF_sP, mB_sP, mA_sP, mJ_sP, mP_sP, mO_sP, mN_sO, mK_sO, mL_sO, mF_sO, mB_sO, mA_sO, mJ_sO, mP_sO, mO_sO, up2, if_true, if_false, eq_self, ite_true, ite_false, reduceIte, Nat.add_left_cancel_iff, Nat.add_eq_left, Nat.left_eq_add, Nat.reduceEqDiff]; done)) ?_ | refine e_iald 11 rfl dX10_fill_10 (by assumption) (by assumption) (by first | rfl | simp only [pk_mul, nI_add]) (by omega) (by omega) ?_
  refine e_is2 12 rfl dX10_fill_11 (by decide) rfl ?_
  refine e_al0 13 rfl dX10_fill_12 ?_
  refine e_getR 16 rfl dX10_fill_13 f_X10_63 (by assumption) (by assumption) ?_
  refine e_il1 17 rfl dX10_fill_16 ?_
  first | refine e_ialdv 18 rfl dX10_fill_17 (by assumption) (by assumption) (by first | rfl | simp only [pk_mul, nI_add]) (by omega) (by omega) (by first | assumption | (simp only [mN_sF, mK_sF, mL_sF, mF_sF, mB_sF, mA_sF, mJ_sF, mP_sF, mO_sF, mN_sB, mK_sB, mL_sB, mF_sB, mB_sB, mA_sB, mJ_sB, mP_sB, mO_sB, mN_sA, mK_sA, mL_sA, mF_sA, mB_sA, mA_sA, mJ_sA, mP_sA, mO_sA, mN_sJ, mK_sJ, mL_sJ, mF_sJ, mB_sJ, mA_sJ, mJ_sJ, mP_sJ, mO_sJ, mN_sP, mK_sP, mL_sP, mF_sP, mB_sP, mA_sP, mJ_sP, mP_sP, mO_sP, mN_sO, mK_sO, mL_sO, mF_sO, mB_sO, mA_sO, mJ_sO, mP_sO, mO_sO, up2, if_true, if_false, eq_self, ite_true, ite_false, reduceIte, Nat.add_left_cancel_iff, Nat.add_eq_left, Nat.left_eq_add, Nat.reduceEqDiff]; assumption) | (simp only [mN_sF, mK_sF, mL_sF, mF_sF, mB_sF, mA_sF, mJ_sF, mP_sF, mO_sF, mN_sB, mK_sB, mL_sB, mF_sB, mB_sB, mA_sB, mJ_sB, mP_sB, mO_sB, mN_sA, mK_sA, mL_sA, mF_sA, mB_sA, mA_sA, mJ_sA, mP_sA, mO_sA, mN_sJ, mK_sJ, mL_sJ, mF_sJ, mB_sJ, mA_sJ, mJ_sJ, mP_sJ, mO_sJ, mN_sP, mK_sP, mL_sP, mF_sP, mB_sP, mA_sP, mJ_sP, mP_sP, mO_sP, mN_sO, mK_sO, mL_sO, mF_sO, mB_sO, mA_sO, mJ_sO, mP_sO, mO_sO, up2, if_true, if_false, eq_self, ite_true, ite_false, reduceIte, Nat.add_left_cancel_iff, Nat.add_eq_left, Nat.left_eq_add, Nat.reduceEqDiff]; done)) ?_ | refine e_iald 18 rfl dX10_fill_17 (by assumption) (by assumption) (by first | rfl | simp only [pk_mul, nI_add]) (by omega) (by omega) ?_
  refine e_is3 19 rfl dX10_fill_18 (by decide) rfl ?_
  refine e_al0 20 rfl dX10_fill_19 ?_
  refine e_getR 23 rfl dX10_fill_20 f_X10_25 (by assumption) (by assumption) ?_
  refine e_il2 24 rfl dX10_fill_23 ?_
  first | refine e_baldv 25 rfl dX10_fill_24 (by assumption) (by assumption) (by first | rfl | simp only [pk_mul, nI_add]) (by omega) (by omega) (by first | assumption | (simp only [mN_sF, mK_sF, mL_sF, mF_sF, mB_sF, mA_sF, mJ_sF, mP_sF, mO_sF, mN_sB, mK_sB, mL_sB, mF_sB, mB_sB, mA_sB, mJ_sB, mP_sB, mO_sB, mN_sA, mK_sA, mL_sA, mF_sA, mB_sA, mA_sA, mJ_sA, mP_sA, mO_sA, mN_sJ, mK_sJ, mL_sJ, mF_sJ, mB_sJ, mA_sJ, mJ_sJ, mP_sJ, mO_sJ, mN_sP, mK_sP, mL_sP, mF_sP, mB_sP, mA_sP, mJ_sP, mP_sP, mO_sP, mN_sO, mK_sO, mL_sO, mF_sO, mB_sO, mA_sO, mJ_sO, mP_sO, mO_sO, up2, if_true, if_false, eq_self, ite_true, ite_false, reduceIte, Nat.add_left_cancel_iff, Nat.add_eq_left, Nat.left_eq_add, Nat.reduceEqDiff]; assumption) | (simp only [mN_sF, mK_sF, mL_sF, mF_sF, mB_sF, mA_sF, mJ_sF, mP_sF, mO_sF, mN_sB, mK_sB, mL_sB, mF_sB, mB_sB, mA_sB, mJ_sB, mP_sB, mO_sB, mN_sA, mK_sA, mL_sA, mF_sA, mB_sA, mA_sA, mJ_sA, mP_sA, mO_sA, mN_sJ, mK_sJ, mL_sJ, mF_sJ, mB_sJ, mA_sJ, mJ_sJ, mP_sJ, mO_sJ, mN_sP, mK_sP, mL_sP, mF_sP, mB_sP, mA_sP, mJ_sP, mP_sP, mO_sP, mN_sO, mK_sO, mL_sO, mF_sO, mB_sO, mA_sO, mJ_sO, mP_sO, mO_sO, up2, if_true, if_false, eq_self, ite_true, ite_false, reduceIte, Nat.add_left_cancel_iff, Nat.add_eq_left, Nat.left_eq_add, Nat.reduceEqDiff]; done)) ?_ | refine e_zaldv 25 rfl dX10_fill_24 (by assumption) (by assumption) (by first | rfl | simp only [pk_mul, nI_add]) (by omega) (by omega) (by first | assumption | (simp only [mN_sF, mK_sF, mL_sF, mF_sF, mB_sF, mA_sF, mJ_sF, mP_sF, mO_sF, mN_sB, mK_sB, mL_sB, mF_sB, mB_sB, mA_sB, mJ_sB, mP_sB, mO_sB, mN_sA, mK_sA, mL_sA, mF_sA, mB_sA, mA_sA, mJ_sA, mP_sA, mO_sA, mN_sJ, mK_sJ, mL_sJ, mF_sJ, mB_sJ, mA_sJ, mJ_sJ, mP_sJ, mO_sJ, mN_sP, mK_sP, mL_sP, mF_sP, mB_sP, mA_sP, mJ_sP, mP_sP, mO_sP, mN_sO, mK_sO, mL_sO, mF_sO, mB_sO, mA_sO, mJ_sO, mP_sO, mO_sO, up2, if_true, if_false, eq_self, ite_true, ite_false, reduceIte, Nat.add_left_cancel_iff, Nat.add_eq_left, Nat.left_eq_add, Nat.reduceEqDiff]; assumption) | (simp only [mN_sF, mK_sF, mL_sF, mF_sF, mB_sF, mA_sF, mJ_sF, mP_sF, mO_sF, mN_sB, mK_sB, mL_sB, mF_sB, mB_sB, mA_sB, mJ_sB, mP_sB, mO_sB, mN_sA, mK_sA, mL_sA, mF_sA, mB_sA, mA_sA, mJ_sA, mP_sA, mO_sA, mN_sJ, mK_sJ, mL_sJ, mF_sJ, mB_sJ, mA_sJ, mJ_sJ, mP_sJ, mO_sJ, mN_sP, mK_sP, mL_sP, mF_sP, mB_sP, mA_sP, mJ_sP, mP_sP, mO_sP, mN_sO, mK_sO, mL_sO, mF_sO, mB_sO, mA_sO, mJ_sO, mP_sO, mO_sO, up2, if_true, if_false, eq_self, ite_true, ite_false, reduceIte, Nat.add_left_cancel_iff, Nat.add_eq_left, Nat.left_eq_add, Nat.reduceEqDiff]; done)) ?_ | refine e_bald 25 rfl dX10_fill_24 (by assumption) (by assumption) (by first | rfl | simp only [pk_mul, nI_add]) (by omega) (by omega) ?_ | refine e_zald 25 rfl dX10_fill_24 (by assumption) (by assumption) (by first | rfl | simp only [pk_mul, nI_add]) (by omega) (by omega) ?_
  first | refine e_if_neB 29 28 (by decide) rfl dX10_fill_25 rfl (fun y1 => ?_) (fun y1 => ?_) | refine e_if_neN 29 28 (by decide) rfl dX10_fill_25 rfl (by omega) (fun y1 => ?_) (fun y1 => ?_) | refine e_if_ne 29 28 (by decide) rfl dX10_fill_25 (fun y1 => ?_) (fun y1 => ?_)
  rotate_left
  · cases y1
  refine e_iconst (nI 0) 30 rfl dX10_fill_29 ic_0 ?_
  refine e_is4 32 rfl dX10_fill_30 (by decide) rfl ?_
  -- the costs have been laid
  have rest : ∀ μ2, Fr (fun q => q = m + 30) μ1 μ2 → (∀ w, w < nm.2.length → ∀ k, k < 7 → mA μ2 (m + 30) (7 * w + k) = cI (C w k)) → ∀ q4 q5, Ev E M_X10_fill 0 0 87 [some (.ref m), some (.int (nI i)), some (.int (nI nm.1)), some (.int (nI nm.2.length)), q4, q5, none, none, none] [] μ2 K := by
    intro μ2 hF2 hC q4 q5
    have hF02 : Fr (flS m) μ μ2 := (hF1.mono (S' := flS m) (fun q h => Or.inl h)).trans (hF2.mono (fun q h => Or.inr ⟨by omega, by omega⟩))
    have hg2 := hg.fr hF02
    have mk2 := hg2.1
    have nfl : ∀ q, m + 1 ≤ q → q ≤ m + 29 → ¬ flS m q := fun q a b => by unfold flS; omega
    have hs2' : mSl μ2 m nm.1 x.1 := by
      unfold mSl
      rw [(hF02.2.2.2.2.2 (m + 7) (nfl _ (by omega) (by omega))).2.2.1, (hF02.2.2.2.2.2 (m + 8) (nfl _ (by omega) (by omega))).2.2.1, (hF02.2.2.2.2.2 (m + 9) (nfl _ (by omega) (by omega))).2.2.1]
      exact ⟨hx.1, hx.2.1⟩
    obtain ⟨pp, kp, lp⟩ := hg2.places
    have h8 := hxw.1.2.1
    have hw7 := hxw.1.2.2
    refine e_iconst (nI 0) 88 rfl dX10_fill_87 ic_0 ?_
    refine e_is4 90 rfl dX10_fill_88 (by decide) rfl ?_
    refine e_iconst (nI 0) 91 rfl dX10_fill_90 ic_0 ?_
    refine e_is5 93 rfl dX10_fill_91 (by decide) rfl ?_
    refine e_iconst (nI 0) 94 rfl dX10_fill_93 ic_0 ?_
    refine e_is6 96 rfl dX10_fill_94 (by decide) rfl ?_
    refine e_al0 97 rfl dX10_fill_96 ?_
    refine e_getR 100 rfl dX10_fill_97 f_X10_105 (by assumption) (by assumption) ?_
    refine e_iconst (nI 0) 101 rfl dX10_fill_100 ic_0 ?_
    refine e_al0 102 rfl dX10_fill_101 ?_
    refine e_il2 103 rfl dX10_fill_102 ?_
    refine e_iconst (nI 1) 104 rfl dX10_fill_103 ic_1 ?_
    refine e_invV0 [_, _] 107 rfl dX10_fill_104 k_X10_199 mo_X10_slips rm_X10_fill_X10_slips ⟨rfl, rfl⟩ rfl rfl (by assumption) (Nat.le_of_ble_eq_true rfl) ?_
    refine c_slips (b := 1) hg2 hl6 hs2' h8 hw7 (by decide) (fun b hb18 hbb => ?_)
    have hPO := PO_first h8 hbb hb18
    refine e_iast 108 rfl dX10_fill_107 (by assumption) (by assumption) (by first | rfl | simp only [pk_mul, nI_add]) (by omega) (by omega) ?_
    refine e_iconst (nI 0) 109 rfl dX10_fill_108 ic_0 ?_
    refine e_is7 111 rfl dX10_fill_109 (by decide) rfl ?_
    have hF3 : Fr (dfS m) μ2 (sA μ2 (m + 31) 0 (nI b)) := (Fr.rf (S := dfS m)).sA (Or.inr ⟨by omega, by omega⟩) 0 (nI b)
    have fm2 : ∀ g, mF μ2 m g = mF μ1 m g := fun g => by rw [(hF2.2.2.2.2.2 m (by omega)).1]
    have eAR : AR x.1 C nm.2.length 0 0 0 (msk (Opn x.1 0)) = tlK x.1 C nm.2.length 0 0 0 0 (msk (Opn x.1 0)) := by
      have := tlK_0 (sl := x.1) (C := C) (n := nm.2.length) (w := 0) (c := 0) (r := 0) (o := msk (Opn x.1 0)) (f := nm.2.length - 1) (by omega)
      rw [show nm.2.length - 1 + 1 = nm.2.length by omega] at this
      exact this
    have hlen : (tlK x.1 C nm.2.length 0 0 0 0 (msk (Opn x.1 0))).length ≤ 6435 := by
      rw [← eAR]
      have h1 := rdT_AR (nm := nm) hW
      rw [eo] at h1
      have h2 := (rdT_ok (nm := nm) hW hn8).2
      rw [eo] at h2
      have h3 : AR x.1 C nm.2.length 0 0 0 (msk (Opn x.1 0)) = (rdT (some x) (aB S) nm).map pr2 := by rw [h1, hCe]; rfl
      rw [h3, List.length_map]
      exact h2
    refine c_dfs (μ := μ2) (sl := x.1) (C := C) hg2 hl6 hs2' h8 hw7 hn8 hCb hC (nm.2.length - 1) 0 (by omega) 7 0 (by omega) 0 0 (msk (Opn x.1 0)) b [] _ _ rfl (by omega) (by decide) hPO hF3 (fun g _ => rfl) (by rw [sA_s]; rfl) ⟨?_, fun j y hj => by simp at hj⟩ (by rw [List.nil_append]; exact hlen) (fun μ4 q8 hq8 hF4 hf4 hpl4 hR4 => ?_)
    · show mF μ2 m 44 = _
      rw [fm2]; exact h44
    rw [List.nil_append, ← eAR] at hR4
    refine e_il4 113 rfl dX10_fill_111 ?_
    first | refine e_if_ltN 345 116 (by decide) rfl dX10_fill_113 rfl (by omega) ?_ | refine e_if_lt 345 116 (by decide) rfl dX10_fill_113 (fun h => ?_) (fun h => ?_)
    refine e_il7 118 rfl dX10_fill_116 ?_
    refine e_bipush (nI 7) 120 rfl dX10_fill_118 bc_7 ?_
    first | refine e_cmp_neN 168 123 (by decide) rfl dX10_fill_120 rfl rfl (by omega) (by omega) (fun y6 => ?_) (fun y6 => ?_) | refine e_cmp_ne 168 123 (by decide) rfl dX10_fill_120 (fun y6 => ?_) (fun y6 => ?_)
    · exact absurd rfl y6
    refine e_ii4 (-1) 126 rfl dX10_fill_123 (by decide) rfl ?_
    refine e_il4 128 rfl dX10_fill_126 ?_
    refine e_if_lt 111 131 (by decide) rfl dX10_fill_128 (fun y7 => ?_) (fun y7 => ?_)
    rotate_left
    · exact absurd (by decide) y7
    refine e_il4 113 rfl dX10_fill_111 ?_
    refine e_if_lt 345 116 (by decide) rfl dX10_fill_113 (fun y8 => ?_) (fun y8 => ?_)
    rotate_left
    · exact absurd (by decide) y8
    refine e_ret dX10_fill_345 rfl ?_
    exact k' μ4 (hF02.trans (hF4.mono (fun q h => by unfold dfS at h; unfold flS; omega))) (fun g hg => by rw [hf4 g hg, fm2]; exact hf1 g hg) hR4
  have outer : ∀ (fu w : Nat), w + fu = nm.2.length → ∀ μ2 q5, nl q5 = true → Fr (fun q => q = m + 30) μ1 μ2 → (∀ w', w' < w → ∀ k, k < 7 → mA μ2 (m + 30) (7 * w' + k) = cI (C w' k)) → Ev E M_X10_fill 0 0 32 [some (.ref m), some (.int (nI i)), some (.int (nI nm.1)), some (.int (nI nm.2.length)), some (.int (nI w)), q5, none, none, none] [] μ2 K := by
    intro fu
    induction fu with
    | zero =>
      intro w hw μ2 q5 hq5 hF2 hC
      refine e_il4 34 rfl dX10_fill_32 ?_
      refine e_il3 35 rfl dX10_fill_34 ?_
      first | refine e_cmp_geN 87 38 (by decide) rfl dX10_fill_35 rfl rfl (by omega) (by omega) (fun y2 => ?_) (fun y2 => ?_) | refine e_cmp_ge 87 38 (by decide) rfl dX10_fill_35 (fun y2 => ?_) (fun y2 => ?_)
      rotate_left
      · omega
      exact rest μ2 hF2 (by rw [show nm.2.length = w by omega]; exact hC) _ _
    | succ fu ih =>
      intro w hw μ2 q5 hq5 hF2 hC
      refine e_il4 34 rfl dX10_fill_32 ?_
      refine e_il3 35 rfl dX10_fill_34 ?_
      first | refine e_cmp_geN 87 38 (by decide) rfl dX10_fill_35 rfl rfl (by omega) (by omega) (fun y2 => ?_) (fun y2 => ?_) | refine e_cmp_ge 87 38 (by decide) rfl dX10_fill_35 (fun y2 => ?_) (fun y2 => ?_)
      · omega
      refine e_iconst (nI 0) 39 rfl dX10_fill_38 ic_0 ?_
      refine e_is5 41 rfl dX10_fill_39 (by decide) rfl ?_
      have inner : ∀ (gu k : Nat), k + gu = 7 → ∀ μ3, Fr (fun q => q = m + 30) μ1 μ3 → (∀ w', w' < w → ∀ k, k < 7 → mA μ3 (m + 30) (7 * w' + k) = cI (C w' k)) → (∀ k', k' < k → mA μ3 (m + 30) (7 * w + k') = cI (C w k')) → Ev E M_X10_fill 0 0 41 [some (.ref m), some (.int (nI i)), some (.int (nI nm.1)), some (.int (nI nm.2.length)), some (.int (nI w)), some (.int (nI k)), none, none, none] [] μ3 K := by
        intro gu
        induction gu with
        | zero =>
          intro k hk μ3 hF3 h1 h2
          refine e_il5 43 rfl dX10_fill_41 ?_
          refine e_bipush (nI 7) 45 rfl dX10_fill_43 bc_7 ?_
          first | refine e_cmp_geN 81 48 (by decide) rfl dX10_fill_45 rfl rfl (by omega) (by omega) (fun y3 => ?_) (fun y3 => ?_) | refine e_cmp_ge 81 48 (by decide) rfl dX10_fill_45 (fun y3 => ?_) (fun y3 => ?_)
          rotate_left
          · omega
          refine e_ii4 (nI (_ + 1)) 84 rfl dX10_fill_81 (ii1 _) rfl ?_
          refine e_goto 32 (by decide) dX10_fill_84 ?_
          refine ih (w + 1) (by omega) μ3 _ rfl hF3 (fun w' hw' k' hk' => ?_)
          by_cases c : w' = w
          · rw [c]; exact h2 k' (by omega)
          · exact h1 w' (by omega) k' hk'
        | succ gu ihk =>
          intro k hk μ3 hF3 h1 h2
          have hF03 : Fr (fun q => q = m ∨ q = m + 30) μ μ3 := (hF1.mono (S' := fun q => q = m ∨ q = m + 30) (fun q h => Or.inl h)).trans (hF3.mono (fun q h => Or.inr h))
          have hg3 := hg.fr hF03
          have mk3 := hg3.1
          obtain ⟨pc, kc, lc⟩ := hg3.costs
          have hwl : w < nm.2.length := by omega
          have hv : nm.2[w]? = some nm.2[w] := List.getElem?_eq_getElem hwl
          have hwd3 : mWd μ3 m (8 * i + w) nm.2[w] := (n3 w _ hv).fr hF03 (fun q a b => by omega)
          have hbk3 : mBk μ3 m es := hBk.fr hF03 (by rw [show mF μ3 m 3 = mF μ1 m 3 by rw [(hF3.2.2.2.2.2 m (by omega)).1], hf1 3 (by decide)]) (fun q a b => by omega)
          have hx3 : mShp μ3 m nm.1 x := hx.fr hF03 (fun q a b => by omega)
          have hCv : C w k = cst es nm.1 x.2.2.2 (foldL nm.2[w]) k := by
            rw [hCe]
            unfold costW
            rw [fsN_get hwl]
            exact cst_mem (fun e => (hes.mem_iff).symm) _ _ _ _
          refine e_il5 43 rfl dX10_fill_41 ?_
          refine e_bipush (nI 7) 45 rfl dX10_fill_43 bc_7 ?_
          first | refine e_cmp_geN 81 48 (by decide) rfl dX10_fill_45 rfl rfl (by omega) (by omega) (fun y3 => ?_) (fun y3 => ?_) | refine e_cmp_ge 81 48 (by decide) rfl dX10_fill_45 (fun y3 => ?_) (fun y3 => ?_)
          · omega
          refine e_al0 49 rfl dX10_fill_48 ?_
          refine e_getR 52 rfl dX10_fill_49 f_X10_102 (by assumption) (by assumption) ?_
          refine e_bipush (nI 7) 54 rfl dX10_fill_52 bc_7 ?_
          refine e_il4 56 rfl dX10_fill_54 ?_
          first | refine e_imulN 57 rfl dX10_fill_56 rfl rfl ?_ | refine e_imul 57 rfl dX10_fill_56 ?_
          refine e_il5 59 rfl dX10_fill_57 ?_
          first | refine e_iaddN 60 rfl dX10_fill_59 rfl rfl ?_ | refine e_iadd 60 rfl dX10_fill_59 ?_
          refine e_al0 61 rfl dX10_fill_60 ?_
          refine e_il2 62 rfl dX10_fill_61 ?_
          refine e_bipush (nI 8) 64 rfl dX10_fill_62 bc_8 ?_
          refine e_il1 65 rfl dX10_fill_64 ?_
          first | refine e_imulN 66 rfl dX10_fill_65 rfl rfl ?_ | refine e_imul 66 rfl dX10_fill_65 ?_
          refine e_il4 68 rfl dX10_fill_66 ?_
          first | refine e_iaddN 69 rfl dX10_fill_68 rfl rfl ?_ | refine e_iadd 69 rfl dX10_fill_68 ?_
          refine e_il5 71 rfl dX10_fill_69 ?_
          refine e_invV0 [_, _, _] 74 rfl dX10_fill_71 k_X10_195 mo_X10_costOf rm_X10_fill_X10_costOf ⟨rfl, rfl⟩ rfl rfl (by assumption) (Nat.le_of_ble_eq_true rfl) ?_
          refine c_costOf hg3 hbk3 ⟨es80, esW⟩ hl6 hx3 hxw (by omega) hwd3 (hwf.2.2.2 _ (List.getElem_mem hwl)) (by omega) ?_
          rw [← hCv]
          refine e_iast 75 rfl dX10_fill_74 (by assumption) (by assumption) (by first | rfl | simp only [pk_mul, nI_add]) (by omega) (by omega) ?_
          refine e_ii5 (nI (_ + 1)) 78 rfl dX10_fill_75 (ii1 _) rfl ?_
          refine e_goto 41 (by decide) dX10_fill_78 ?_
          refine ihk (k + 1) (by omega) _ (hF3.sA rfl _ _) (fun w' hw' k' hk' => ?_) (fun k' hk' => ?_)
          · rw [sA_s]
            show (if _ then _ else _) = _
            rw [if_neg (by omega)]
            exact h1 w' hw' k' hk'
          · rw [sA_s]
            show (if _ then _ else _) = _
            by_cases c : k' = k
            · rw [c, if_pos rfl]
            · rw [if_neg (by omega)]
              exact h2 k' (by omega)
      exact inner 7 0 (by omega) μ2 hF2 hC (fun k' hk' => by omega)
  exact outer nm.2.length 0 (by omega) μ1 _ rfl Fr.rf (fun w' hw' => by omega)
theorem SRr_at {T : List Rw} {j : Nat} {x : Rw} (h : T[j]? = some x) : ∀ n, x.1 < n → (SRr T n)[cL T x.1 + cE (T.take j) x.1]? = some x := by
  intro n
  induction n with
  | zero => intro h; omega
  | succ n ih =>
    intro hx
    rw [SRr_s]
    by_cases c : x.1 < n
    · have := ih c
      rw [List.getElem?_append_left (List.getElem?_eq_some_iff.mp this).1]; exact this
    · have e : x.1 = n := by omega
      rw [List.getElem?_append_right (by rw [SRr_len, e]; omega), SRr_len, e, show cL T n + cE (T.take j) n - cL T n = cE (T.take j) n by omega]
      obtain ⟨h1, h2⟩ := List.getElem?_eq_some_iff.mp h
      have hT : T = T.take j ++ x :: T.drop (j + 1) := by
        conv => lhs; rw [← List.take_append_drop j T, List.drop_eq_getElem_cons h1, h2]
      conv => lhs; arg 1; rw [hT]
      rw [List.filter_append, List.filter_cons, if_pos (by simp [e])]
      unfold cE
      rw [List.getElem?_append_right (Nat.le_refl _), Nat.sub_self]
      rfl
end MREAD
