/-! NameDesk$Word -/
section WORD
/-- the word at a: its rows -/
def Wd (μ : Mm) (a : Nat) : Prop := mK μ a = 9 ∧ mP μ a 0 = some (a + 1) ∧ mP μ a 2 = some (a + 2) ∧ mK μ (a + 1) = 12 ∧ mL μ (a + 1) = 21 ∧ mK μ (a + 2) = 12 ∧ mL μ (a + 2) = 20
def wS (a : Nat) : Nat → Prop := fun b => a ≤ b ∧ b < a + 3
/-- the signs p have been taken -/
def WI (μ : Mm) (a : Nat) (p : List Nat) : Prop := mF μ a 1 = nI p.length ∧ mF μ a 3 = nI (foldL p).length ∧ Hd (mB μ (a + 1)) p ∧ Hd (mB μ (a + 2)) (foldL p)
variable {E : En} {μ : Mm} {K : Option Value → Mm → Prop}
theorem Wd.fr {S : Nat → Prop} {μ μ' : Mm} {a : Nat} (h : Wd μ a) (f : Fr S μ μ') : Wd μ' a := by
  unfold Wd
  rw [f.2.1, f.2.2.1, f.2.2.2.1]
  exact h
theorem big_fold : ∀ c, c < 256 → isBg c = true → (sb_b c - nI 65 + nI 97).toInt8.toInt32.toInt8.toInt32 = nI (fld c) := by decide +kernel
theorem sm_fold : ∀ c, c < 256 → isSm c = true → (sb_b c).toInt8.toInt32 = nI (fld c) ∧ (sb_b c).toInt8.toInt32 = nI c := by decide +kernel
theorem bg_c : ∀ c, c < 256 → isBg c = true → (sb_b c).toInt8.toInt32 = nI c := by decide +kernel
theorem foldL_1 {c : Nat} (h : isLt c = true) : foldL [c] = [fld c] := by simp [foldL, h]
theorem foldL_0 {c : Nat} (h : isLt c = false) : foldL [c] = [] := by simp [foldL, h]
/-- the last three writes: told, signs -/
theorem WI.end {μ : Mm} {a c : Nat} {p : List Nat} (h1 : mF μ a 1 = nI p.length) (h3 : mF μ a 3 = nI (foldL (p ++ [c])).length) (ht : Hd (mB μ (a + 1)) p) (hf : Hd (mB μ (a + 2)) (foldL (p ++ [c]))) {v : Int32} (hv : v = nI c) : WI (sF (sB μ (a + 1) p.length v) a 1 (nI (p.length + 1))) a (p ++ [c]) := by
  refine ⟨?_, ?_, ?_, ?_⟩
  · show up2 _ a 1 _ a 1 = _
    rw [up2_s, List.length_append]; rfl
  · show up2 _ a 1 _ a 3 = _
    rw [up2_k (by decide)]; exact h3
  · refine ht.push (fun i hi => ?_) ?_
    · show up2 _ (a + 1) _ _ (a + 1) i = _
      rw [up2_k (by omega)]
    · show up2 _ (a + 1) _ _ (a + 1) _ = _
      rw [up2_s, hv]
  · show Hd (up2 _ (a + 1) _ _ (a + 2)) _
    rw [up2_a (by omega)]; exact hf
theorem WI.letter {μ : Mm} {a c : Nat} {p : List Nat} (hi : WI μ a p) (hl : isLt c = true) {v w : Int32} (hv : v = nI (fld c)) (hw : w = nI c) : WI (sF (sB (sF (sB μ (a + 2) (foldL p).length v) a 3 (nI ((foldL p).length + 1))) (a + 1) p.length w) a 1 (nI (p.length + 1))) a (p ++ [c]) := by
  obtain ⟨i1, i3, it, if_⟩ := hi
  refine WI.end ?_ ?_ ?_ ?_ hw
  · simp only [mN_sF, mK_sF, mL_sF, mF_sF, mB_sF, mA_sF, mJ_sF, mP_sF, mO_sF, mN_sB, mK_sB, mL_sB, mF_sB, mB_sB, mA_sB, mJ_sB, mP_sB, mO_sB, mN_sA, mK_sA, mL_sA, mF_sA, mB_sA, mA_sA, mJ_sA, mP_sA, mO_sA, mN_sJ, mK_sJ, mL_sJ, mF_sJ, mB_sJ, mA_sJ, mJ_sJ, mP_sJ, mO_sJ, mN_sP, mK_sP, mL_sP, mF_sP, mB_sP, mA_sP, mJ_sP, mP_sP, mO_sP, mN_sO, mK_sO, mL_sO, mF_sO, mB_sO, mA_sO, mJ_sO, mP_sO, mO_sO, up2, if_true, if_false, eq_self, ite_true, ite_false, reduceIte, Nat.add_left_cancel_iff, Nat.add_eq_left, Nat.left_eq_add, Nat.reduceEqDiff]; exact i1
  · simp only [mN_sF, mK_sF, mL_sF, mF_sF, mB_sF, mA_sF, mJ_sF, mP_sF, mO_sF, mN_sB, mK_sB, mL_sB, mF_sB, mB_sB, mA_sB, mJ_sB, mP_sB, mO_sB, mN_sA, mK_sA, mL_sA, mF_sA, mB_sA, mA_sA, mJ_sA, mP_sA, mO_sA, mN_sJ, mK_sJ, mL_sJ, mF_sJ, mB_sJ, mA_sJ, mJ_sJ, mP_sJ, mO_sJ, mN_sP, mK_sP, mL_sP, mF_sP, mB_sP, mA_sP, mJ_sP, mP_sP, mO_sP, mN_sO, mK_sO, mL_sO, mF_sO, mB_sO, mA_sO, mJ_sO, mP_sO, mO_sO, up2, if_true, if_false, eq_self, ite_true, ite_false, reduceIte, Nat.add_left_cancel_iff, Nat.add_eq_left, Nat.left_eq_add, Nat.reduceEqDiff]; rw [foldL_app, foldL_1 hl]; simp
  · show Hd (up2 _ (a + 2) _ _ (a + 1)) _
    rw [up2_a (by omega)]; exact it
  · rw [foldL_app, foldL_1 hl]
    refine if_.push (fun i hi => ?_) ?_
    · show up2 _ (a + 2) _ _ (a + 2) i = _
      rw [up2_k (by omega)]
    · show up2 _ (a + 2) _ _ (a + 2) _ = _
      rw [up2_s, hv]
theorem WI.other {μ : Mm} {a c : Nat} {p : List Nat} (hi : WI μ a p) (hl : isLt c = false) {w : Int32} (hw : w = nI c) : WI (sF (sB μ (a + 1) p.length w) a 1 (nI (p.length + 1))) a (p ++ [c]) := by
  obtain ⟨i1, i3, it, if_⟩ := hi
  refine WI.end i1 ?_ it ?_ hw
  · rw [foldL_app, foldL_0 hl, List.append_nil]; exact i3
  · rw [foldL_app, foldL_0 hl, List.append_nil]; exact if_
theorem okS_of {c : Nat} (h : isLt c = false) (h1 : c ≠ 39) (h2 : c ≠ 45) : okS c = false := by simp [okS, h, h1, h2]
theorem c_takeSign {a c : Nat} {p : List Nat} (hw : Wd μ a) (hi : WI μ a p) (hp : p.length < 20) (hc : c < 256) (b : Bool) (hb : b = (if foldL p = [] then isLt c else okS c))
    (kt : b = true → ∀ μ', Fr (wS a) μ μ' → WI μ' a (p ++ [c]) → K (some (.int (nI 1))) μ') (kf : b = false → K (some (.int (nI 0))) μ) : Cl E M_X8_takeSign [.ref a, .int (sb_b c)] μ K := by
  obtain ⟨hk, h0, h2, hk1, hl1, hk2, hl2⟩ := hw
  obtain ⟨i1, i3, it, if_⟩ := hi
  have hfl : (foldL p).length ≤ p.length := foldL_len p
  have Sa : wS a a := ⟨by omega, by omega⟩
  have Sa1 : wS a (a + 1) := ⟨by omega, by omega⟩
  have Sa2 : wS a (a + 2) := ⟨by omega, by omega⟩
  refine Cl.of0 0 pn_X8 (Nat.le_of_ble_eq_true rfl) ⟨rfl, rfl⟩ rfl ?_
  refine e_al0 1 rfl dX8_takeSign_0 ?_
  first | refine e_getIv 4 rfl dX8_takeSign_1 f_X8_15 (by assumption) (by first | assumption | (simp only [mN_sF, mK_sF, mL_sF, mF_sF, mB_sF, mA_sF, mJ_sF, mP_sF, mO_sF, mN_sB, mK_sB, mL_sB, mF_sB, mB_sB, mA_sB, mJ_sB, mP_sB, mO_sB, mN_sA, mK_sA, mL_sA, mF_sA, mB_sA, mA_sA, mJ_sA, mP_sA, mO_sA, mN_sJ, mK_sJ, mL_sJ, mF_sJ, mB_sJ, mA_sJ, mJ_sJ, mP_sJ, mO_sJ, mN_sP, mK_sP, mL_sP, mF_sP, mB_sP, mA_sP, mJ_sP, mP_sP, mO_sP, mN_sO, mK_sO, mL_sO, mF_sO, mB_sO, mA_sO, mJ_sO, mP_sO, mO_sO, up2, if_true, if_false, eq_self, ite_true, ite_false, reduceIte, Nat.add_left_cancel_iff, Nat.add_eq_left, Nat.left_eq_add, Nat.reduceEqDiff]; assumption) | (simp only [mN_sF, mK_sF, mL_sF, mF_sF, mB_sF, mA_sF, mJ_sF, mP_sF, mO_sF, mN_sB, mK_sB, mL_sB, mF_sB, mB_sB, mA_sB, mJ_sB, mP_sB, mO_sB, mN_sA, mK_sA, mL_sA, mF_sA, mB_sA, mA_sA, mJ_sA, mP_sA, mO_sA, mN_sJ, mK_sJ, mL_sJ, mF_sJ, mB_sJ, mA_sJ, mJ_sJ, mP_sJ, mO_sJ, mN_sP, mK_sP, mL_sP, mF_sP, mB_sP, mA_sP, mJ_sP, mP_sP, mO_sP, mN_sO, mK_sO, mL_sO, mF_sO, mB_sO, mA_sO, mJ_sO, mP_sO, mO_sO, up2, if_true, if_false, eq_self, ite_true, ite_false, reduceIte, Nat.add_left_cancel_iff, Nat.add_eq_left, Nat.left_eq_add, Nat.reduceEqDiff]; done)) ?_ | refine e_getI 4 rfl dX8_takeSign_1 f_X8_15 (by assumption) ?_
  refine e_bipush (nI 20) 6 rfl dX8_takeSign_4 bc_20 ?_
  first | refine e_cmp_geN 18 9 (by decide) rfl dX8_takeSign_6 rfl rfl (by omega) (by omega) (fun h => ?_) (fun h => ?_) | refine e_cmp_ge 18 9 (by decide) rfl dX8_takeSign_6 (fun h => ?_) (fun h => ?_)
  · omega
  refine e_al0 10 rfl dX8_takeSign_9 ?_
  first | refine e_getIv 13 rfl dX8_takeSign_10 f_X8_22 (by assumption) (by first | assumption | (simp only [mN_sF, mK_sF, mL_sF, mF_sF, mB_sF, mA_sF, mJ_sF, mP_sF, mO_sF, mN_sB, mK_sB, mL_sB, mF_sB, mB_sB, mA_sB, mJ_sB, mP_sB, mO_sB, mN_sA, mK_sA, mL_sA, mF_sA, mB_sA, mA_sA, mJ_sA, mP_sA, mO_sA, mN_sJ, mK_sJ, mL_sJ, mF_sJ, mB_sJ, mA_sJ, mJ_sJ, mP_sJ, mO_sJ, mN_sP, mK_sP, mL_sP, mF_sP, mB_sP, mA_sP, mJ_sP, mP_sP, mO_sP, mN_sO, mK_sO, mL_sO, mF_sO, mB_sO, mA_sO, mJ_sO, mP_sO, mO_sO, up2, if_true, if_false, eq_self, ite_true, ite_false, reduceIte, Nat.add_left_cancel_iff, Nat.add_eq_left, Nat.left_eq_add, Nat.reduceEqDiff]; assumption) | (simp only [mN_sF, mK_sF, mL_sF, mF_sF, mB_sF, mA_sF, mJ_sF, mP_sF, mO_sF, mN_sB, mK_sB, mL_sB, mF_sB, mB_sB, mA_sB, mJ_sB, mP_sB, mO_sB, mN_sA, mK_sA, mL_sA, mF_sA, mB_sA, mA_sA, mJ_sA, mP_sA, mO_sA, mN_sJ, mK_sJ, mL_sJ, mF_sJ, mB_sJ, mA_sJ, mJ_sJ, mP_sJ, mO_sJ, mN_sP, mK_sP, mL_sP, mF_sP, mB_sP, mA_sP, mJ_sP, mP_sP, mO_sP, mN_sO, mK_sO, mL_sO, mF_sO, mB_sO, mA_sO, mJ_sO, mP_sO, mO_sO, up2, if_true, if_false, eq_self, ite_true, ite_false, reduceIte, Nat.add_left_cancel_iff, Nat.add_eq_left, Nat.left_eq_add, Nat.reduceEqDiff]; done)) ?_ | refine e_getI 13 rfl dX8_takeSign_10 f_X8_22 (by assumption) ?_
  refine e_bipush (nI 20) 15 rfl dX8_takeSign_13 bc_20 ?_
  first | refine e_cmp_ltN 20 18 (by decide) rfl dX8_takeSign_15 rfl rfl (by omega) (by omega) (fun h => ?_) (fun h => ?_) | refine e_cmp_lt 20 18 (by decide) rfl dX8_takeSign_15 (fun h => ?_) (fun h => ?_)
  rotate_left
  · omega
  refine e_il1 21 rfl dX8_takeSign_20 ?_
  refine e_invSN0 [_] 24 rfl dX8_takeSign_21 k_X8_29 mo_X9_isSmall rm_X8_takeSign_X9_isSmall ⟨rfl, rfl⟩ rfl rfl (Nat.le_of_ble_eq_true rfl) ?_
  refine c_isSmall (isSm c) (sb_sm c hc).symm ?_
  first | refine e_if_eqB 50 27 (by decide) rfl dX8_takeSign_24 rfl (fun hs => ?_) (fun hs => ?_) | refine e_if_eqN 50 27 (by decide) rfl dX8_takeSign_24 rfl (by omega) (fun hs => ?_) (fun hs => ?_) | refine e_if_eq 50 27 (by decide) rfl dX8_takeSign_24 (fun hs => ?_) (fun hs => ?_)
  rotate_left
  · -- a small letter
    have hl : isLt c = true := by simp [isLt, hs]
    have hbt : b = true := by rw [hb]; split; exact hl; simp [okS, hl]
    refine e_al0 28 rfl dX8_takeSign_27 ?_
    refine e_getR 31 rfl dX8_takeSign_28 f_X8_19 (by assumption) (by assumption) ?_
    refine e_al0 32 rfl dX8_takeSign_31 ?_
    first | refine e_getIv 35 rfl dX8_takeSign_32 f_X8_22 (by assumption) (by first | assumption | (simp only [mN_sF, mK_sF, mL_sF, mF_sF, mB_sF, mA_sF, mJ_sF, mP_sF, mO_sF, mN_sB, mK_sB, mL_sB, mF_sB, mB_sB, mA_sB, mJ_sB, mP_sB, mO_sB, mN_sA, mK_sA, mL_sA, mF_sA, mB_sA, mA_sA, mJ_sA, mP_sA, mO_sA, mN_sJ, mK_sJ, mL_sJ, mF_sJ, mB_sJ, mA_sJ, mJ_sJ, mP_sJ, mO_sJ, mN_sP, mK_sP, mL_sP, mF_sP, mB_sP, mA_sP, mJ_sP, mP_sP, mO_sP, mN_sO, mK_sO, mL_sO, mF_sO, mB_sO, mA_sO, mJ_sO, mP_sO, mO_sO, up2, if_true, if_false, eq_self, ite_true, ite_false, reduceIte, Nat.add_left_cancel_iff, Nat.add_eq_left, Nat.left_eq_add, Nat.reduceEqDiff]; assumption) | (simp only [mN_sF, mK_sF, mL_sF, mF_sF, mB_sF, mA_sF, mJ_sF, mP_sF, mO_sF, mN_sB, mK_sB, mL_sB, mF_sB, mB_sB, mA_sB, mJ_sB, mP_sB, mO_sB, mN_sA, mK_sA, mL_sA, mF_sA, mB_sA, mA_sA, mJ_sA, mP_sA, mO_sA, mN_sJ, mK_sJ, mL_sJ, mF_sJ, mB_sJ, mA_sJ, mJ_sJ, mP_sJ, mO_sJ, mN_sP, mK_sP, mL_sP, mF_sP, mB_sP, mA_sP, mJ_sP, mP_sP, mO_sP, mN_sO, mK_sO, mL_sO, mF_sO, mB_sO, mA_sO, mJ_sO, mP_sO, mO_sO, up2, if_true, if_false, eq_self, ite_true, ite_false, reduceIte, Nat.add_left_cancel_iff, Nat.add_eq_left, Nat.left_eq_add, Nat.reduceEqDiff]; done)) ?_ | refine e_getI 35 rfl dX8_takeSign_32 f_X8_22 (by assumption) ?_
    refine e_il1 36 rfl dX8_takeSign_35 ?_
    first | refine e_bast 37 rfl dX8_takeSign_36 (by assumption) (by assumption) (by first | rfl | simp only [pk_mul, nI_add]) (by omega) (by omega) ?_ | refine e_zast 37 rfl dX8_takeSign_36 (by assumption) (by assumption) (by first | rfl | simp only [pk_mul, nI_add]) (by omega) (by omega) (by first | exact z0 | exact z1 | exact bI01 _ | assumption) ?_
    refine e_al0 38 rfl dX8_takeSign_37 ?_
    refine e_dup 39 rfl dX8_takeSign_38 rfl ?_
    first | refine e_getIv 42 rfl dX8_takeSign_39 f_X8_22 (by assumption) (by first | assumption | (simp only [mN_sF, mK_sF, mL_sF, mF_sF, mB_sF, mA_sF, mJ_sF, mP_sF, mO_sF, mN_sB, mK_sB, mL_sB, mF_sB, mB_sB, mA_sB, mJ_sB, mP_sB, mO_sB, mN_sA, mK_sA, mL_sA, mF_sA, mB_sA, mA_sA, mJ_sA, mP_sA, mO_sA, mN_sJ, mK_sJ, mL_sJ, mF_sJ, mB_sJ, mA_sJ, mJ_sJ, mP_sJ, mO_sJ, mN_sP, mK_sP, mL_sP, mF_sP, mB_sP, mA_sP, mJ_sP, mP_sP, mO_sP, mN_sO, mK_sO, mL_sO, mF_sO, mB_sO, mA_sO, mJ_sO, mP_sO, mO_sO, up2, if_true, if_false, eq_self, ite_true, ite_false, reduceIte, Nat.add_left_cancel_iff, Nat.add_eq_left, Nat.left_eq_add, Nat.reduceEqDiff]; assumption) | (simp only [mN_sF, mK_sF, mL_sF, mF_sF, mB_sF, mA_sF, mJ_sF, mP_sF, mO_sF, mN_sB, mK_sB, mL_sB, mF_sB, mB_sB, mA_sB, mJ_sB, mP_sB, mO_sB, mN_sA, mK_sA, mL_sA, mF_sA, mB_sA, mA_sA, mJ_sA, mP_sA, mO_sA, mN_sJ, mK_sJ, mL_sJ, mF_sJ, mB_sJ, mA_sJ, mJ_sJ, mP_sJ, mO_sJ, mN_sP, mK_sP, mL_sP, mF_sP, mB_sP, mA_sP, mJ_sP, mP_sP, mO_sP, mN_sO, mK_sO, mL_sO, mF_sO, mB_sO, mA_sO, mJ_sO, mP_sO, mO_sO, up2, if_true, if_false, eq_self, ite_true, ite_false, reduceIte, Nat.add_left_cancel_iff, Nat.add_eq_left, Nat.left_eq_add, Nat.reduceEqDiff]; done)) ?_ | refine e_getI 42 rfl dX8_takeSign_39 f_X8_22 (by assumption) ?_
    refine e_iconst (nI 1) 43 rfl dX8_takeSign_42 ic_1 ?_
    first | refine e_iaddN 44 rfl dX8_takeSign_43 rfl rfl ?_ | refine e_iadd 44 rfl dX8_takeSign_43 ?_
    refine e_putI 47 rfl dX8_takeSign_44 f_X8_22 (by assumption) ?_
    refine e_goto 108 (by decide) dX8_takeSign_47 ?_
    refine e_al0 109 rfl dX8_takeSign_108 ?_
    refine e_getR 112 rfl dX8_takeSign_109 f_X8_9 (by assumption) (by assumption) ?_
    refine e_al0 113 rfl dX8_takeSign_112 ?_
    first | refine e_getIv 116 rfl dX8_takeSign_113 f_X8_15 (by assumption) (by first | assumption | (simp only [mN_sF, mK_sF, mL_sF, mF_sF, mB_sF, mA_sF, mJ_sF, mP_sF, mO_sF, mN_sB, mK_sB, mL_sB, mF_sB, mB_sB, mA_sB, mJ_sB, mP_sB, mO_sB, mN_sA, mK_sA, mL_sA, mF_sA, mB_sA, mA_sA, mJ_sA, mP_sA, mO_sA, mN_sJ, mK_sJ, mL_sJ, mF_sJ, mB_sJ, mA_sJ, mJ_sJ, mP_sJ, mO_sJ, mN_sP, mK_sP, mL_sP, mF_sP, mB_sP, mA_sP, mJ_sP, mP_sP, mO_sP, mN_sO, mK_sO, mL_sO, mF_sO, mB_sO, mA_sO, mJ_sO, mP_sO, mO_sO, up2, if_true, if_false, eq_self, ite_true, ite_false, reduceIte, Nat.add_left_cancel_iff, Nat.add_eq_left, Nat.left_eq_add, Nat.reduceEqDiff]; assumption) | (simp only [mN_sF, mK_sF, mL_sF, mF_sF, mB_sF, mA_sF, mJ_sF, mP_sF, mO_sF, mN_sB, mK_sB, mL_sB, mF_sB, mB_sB, mA_sB, mJ_sB, mP_sB, mO_sB, mN_sA, mK_sA, mL_sA, mF_sA, mB_sA, mA_sA, mJ_sA, mP_sA, mO_sA, mN_sJ, mK_sJ, mL_sJ, mF_sJ, mB_sJ, mA_sJ, mJ_sJ, mP_sJ, mO_sJ, mN_sP, mK_sP, mL_sP, mF_sP, mB_sP, mA_sP, mJ_sP, mP_sP, mO_sP, mN_sO, mK_sO, mL_sO, mF_sO, mB_sO, mA_sO, mJ_sO, mP_sO, mO_sO, up2, if_true, if_false, eq_self, ite_true, ite_false, reduceIte, Nat.add_left_cancel_iff, Nat.add_eq_left, Nat.left_eq_add, Nat.reduceEqDiff]; done)) ?_ | refine e_getI 116 rfl dX8_takeSign_113 f_X8_15 (by assumption) ?_
    refine e_il1 117 rfl dX8_takeSign_116 ?_
    first | refine e_bast 118 rfl dX8_takeSign_117 (by assumption) (by assumption) (by first | rfl | simp only [pk_mul, nI_add]) (by omega) (by omega) ?_ | refine e_zast 118 rfl dX8_takeSign_117 (by assumption) (by assumption) (by first | rfl | simp only [pk_mul, nI_add]) (by omega) (by omega) (by first | exact z0 | exact z1 | exact bI01 _ | assumption) ?_
    refine e_al0 119 rfl dX8_takeSign_118 ?_
    refine e_dup 120 rfl dX8_takeSign_119 rfl ?_
    first | refine e_getIv 123 rfl dX8_takeSign_120 f_X8_15 (by assumption) (by first | assumption | (simp only [mN_sF, mK_sF, mL_sF, mF_sF, mB_sF, mA_sF, mJ_sF, mP_sF, mO_sF, mN_sB, mK_sB, mL_sB, mF_sB, mB_sB, mA_sB, mJ_sB, mP_sB, mO_sB, mN_sA, mK_sA, mL_sA, mF_sA, mB_sA, mA_sA, mJ_sA, mP_sA, mO_sA, mN_sJ, mK_sJ, mL_sJ, mF_sJ, mB_sJ, mA_sJ, mJ_sJ, mP_sJ, mO_sJ, mN_sP, mK_sP, mL_sP, mF_sP, mB_sP, mA_sP, mJ_sP, mP_sP, mO_sP, mN_sO, mK_sO, mL_sO, mF_sO, mB_sO, mA_sO, mJ_sO, mP_sO, mO_sO, up2, if_true, if_false, eq_self, ite_true, ite_false, reduceIte, Nat.add_left_cancel_iff, Nat.add_eq_left, Nat.left_eq_add, Nat.reduceEqDiff]; assumption) | (simp only [mN_sF, mK_sF, mL_sF, mF_sF, mB_sF, mA_sF, mJ_sF, mP_sF, mO_sF, mN_sB, mK_sB, mL_sB, mF_sB, mB_sB, mA_sB, mJ_sB, mP_sB, mO_sB, mN_sA, mK_sA, mL_sA, mF_sA, mB_sA, mA_sA, mJ_sA, mP_sA, mO_sA, mN_sJ, mK_sJ, mL_sJ, mF_sJ, mB_sJ, mA_sJ, mJ_sJ, mP_sJ, mO_sJ, mN_sP, mK_sP, mL_sP, mF_sP, mB_sP, mA_sP, mJ_sP, mP_sP, mO_sP, mN_sO, mK_sO, mL_sO, mF_sO, mB_sO, mA_sO, mJ_sO, mP_sO, mO_sO, up2, if_true, if_false, eq_self, ite_true, ite_false, reduceIte, Nat.add_left_cancel_iff, Nat.add_eq_left, Nat.left_eq_add, Nat.reduceEqDiff]; done)) ?_ | refine e_getI 123 rfl dX8_takeSign_120 f_X8_15 (by assumption) ?_
    refine e_iconst (nI 1) 124 rfl dX8_takeSign_123 ic_1 ?_
    first | refine e_iaddN 125 rfl dX8_takeSign_124 rfl rfl ?_ | refine e_iadd 125 rfl dX8_takeSign_124 ?_
    refine e_putI 128 rfl dX8_takeSign_125 f_X8_15 (by assumption) ?_
    refine e_iconst (nI 1) 129 rfl dX8_takeSign_128 ic_1 ?_
    refine e_zret dX8_takeSign_129 rfl (by first | exact z0 | exact z1 | exact bI01 _ | assumption) ?_
    exact kt hbt _ ((((Fr.rf.sB Sa2 _ _).sF Sa _ _).sB Sa1 _ _).sF Sa _ _) (WI.letter ⟨i1, i3, it, if_⟩ hl (sm_fold c hc hs).1 (sm_fold c hc hs).2)
  refine e_il1 51 rfl dX8_takeSign_50 ?_
  refine e_invSN0 [_] 54 rfl dX8_takeSign_51 k_X8_33 mo_X9_isBig rm_X8_takeSign_X9_isBig ⟨rfl, rfl⟩ rfl rfl (Nat.le_of_ble_eq_true rfl) ?_
  refine c_isBig (isBg c) (sb_bg c hc).symm ?_
  first | refine e_if_eqB 87 57 (by decide) rfl dX8_takeSign_54 rfl (fun hg => ?_) (fun hg => ?_) | refine e_if_eqN 87 57 (by decide) rfl dX8_takeSign_54 rfl (by omega) (fun hg => ?_) (fun hg => ?_) | refine e_if_eq 87 57 (by decide) rfl dX8_takeSign_54 (fun hg => ?_) (fun hg => ?_)
  rotate_left
  · -- a big letter
    have hl : isLt c = true := by simp [isLt, hg]
    have hbt : b = true := by rw [hb]; split; exact hl; simp [okS, hl]
    refine e_al0 58 rfl dX8_takeSign_57 ?_
    refine e_getR 61 rfl dX8_takeSign_58 f_X8_19 (by assumption) (by assumption) ?_
    refine e_al0 62 rfl dX8_takeSign_61 ?_
    first | refine e_getIv 65 rfl dX8_takeSign_62 f_X8_22 (by assumption) (by first | assumption | (simp only [mN_sF, mK_sF, mL_sF, mF_sF, mB_sF, mA_sF, mJ_sF, mP_sF, mO_sF, mN_sB, mK_sB, mL_sB, mF_sB, mB_sB, mA_sB, mJ_sB, mP_sB, mO_sB, mN_sA, mK_sA, mL_sA, mF_sA, mB_sA, mA_sA, mJ_sA, mP_sA, mO_sA, mN_sJ, mK_sJ, mL_sJ, mF_sJ, mB_sJ, mA_sJ, mJ_sJ, mP_sJ, mO_sJ, mN_sP, mK_sP, mL_sP, mF_sP, mB_sP, mA_sP, mJ_sP, mP_sP, mO_sP, mN_sO, mK_sO, mL_sO, mF_sO, mB_sO, mA_sO, mJ_sO, mP_sO, mO_sO, up2, if_true, if_false, eq_self, ite_true, ite_false, reduceIte, Nat.add_left_cancel_iff, Nat.add_eq_left, Nat.left_eq_add, Nat.reduceEqDiff]; assumption) | (simp only [mN_sF, mK_sF, mL_sF, mF_sF, mB_sF, mA_sF, mJ_sF, mP_sF, mO_sF, mN_sB, mK_sB, mL_sB, mF_sB, mB_sB, mA_sB, mJ_sB, mP_sB, mO_sB, mN_sA, mK_sA, mL_sA, mF_sA, mB_sA, mA_sA, mJ_sA, mP_sA, mO_sA, mN_sJ, mK_sJ, mL_sJ, mF_sJ, mB_sJ, mA_sJ, mJ_sJ, mP_sJ, mO_sJ, mN_sP, mK_sP, mL_sP, mF_sP, mB_sP, mA_sP, mJ_sP, mP_sP, mO_sP, mN_sO, mK_sO, mL_sO, mF_sO, mB_sO, mA_sO, mJ_sO, mP_sO, mO_sO, up2, if_true, if_false, eq_self, ite_true, ite_false, reduceIte, Nat.add_left_cancel_iff, Nat.add_eq_left, Nat.left_eq_add, Nat.reduceEqDiff]; done)) ?_ | refine e_getI 65 rfl dX8_takeSign_62 f_X8_22 (by assumption) ?_
    refine e_il1 66 rfl dX8_takeSign_65 ?_
    refine e_bipush (nI 65) 68 rfl dX8_takeSign_66 bc_65 ?_
    refine e_isub 69 rfl dX8_takeSign_68 ?_
    refine e_bipush (nI 97) 71 rfl dX8_takeSign_69 bc_97 ?_
    refine e_iadd 72 rfl dX8_takeSign_71 ?_
    refine e_i2b 73 rfl dX8_takeSign_72 ?_
    first | refine e_bast 74 rfl dX8_takeSign_73 (by assumption) (by assumption) (by first | rfl | simp only [pk_mul, nI_add]) (by omega) (by omega) ?_ | refine e_zast 74 rfl dX8_takeSign_73 (by assumption) (by assumption) (by first | rfl | simp only [pk_mul, nI_add]) (by omega) (by omega) (by first | exact z0 | exact z1 | exact bI01 _ | assumption) ?_
    refine e_al0 75 rfl dX8_takeSign_74 ?_
    refine e_dup 76 rfl dX8_takeSign_75 rfl ?_
    first | refine e_getIv 79 rfl dX8_takeSign_76 f_X8_22 (by assumption) (by first | assumption | (simp only [mN_sF, mK_sF, mL_sF, mF_sF, mB_sF, mA_sF, mJ_sF, mP_sF, mO_sF, mN_sB, mK_sB, mL_sB, mF_sB, mB_sB, mA_sB, mJ_sB, mP_sB, mO_sB, mN_sA, mK_sA, mL_sA, mF_sA, mB_sA, mA_sA, mJ_sA, mP_sA, mO_sA, mN_sJ, mK_sJ, mL_sJ, mF_sJ, mB_sJ, mA_sJ, mJ_sJ, mP_sJ, mO_sJ, mN_sP, mK_sP, mL_sP, mF_sP, mB_sP, mA_sP, mJ_sP, mP_sP, mO_sP, mN_sO, mK_sO, mL_sO, mF_sO, mB_sO, mA_sO, mJ_sO, mP_sO, mO_sO, up2, if_true, if_false, eq_self, ite_true, ite_false, reduceIte, Nat.add_left_cancel_iff, Nat.add_eq_left, Nat.left_eq_add, Nat.reduceEqDiff]; assumption) | (simp only [mN_sF, mK_sF, mL_sF, mF_sF, mB_sF, mA_sF, mJ_sF, mP_sF, mO_sF, mN_sB, mK_sB, mL_sB, mF_sB, mB_sB, mA_sB, mJ_sB, mP_sB, mO_sB, mN_sA, mK_sA, mL_sA, mF_sA, mB_sA, mA_sA, mJ_sA, mP_sA, mO_sA, mN_sJ, mK_sJ, mL_sJ, mF_sJ, mB_sJ, mA_sJ, mJ_sJ, mP_sJ, mO_sJ, mN_sP, mK_sP, mL_sP, mF_sP, mB_sP, mA_sP, mJ_sP, mP_sP, mO_sP, mN_sO, mK_sO, mL_sO, mF_sO, mB_sO, mA_sO, mJ_sO, mP_sO, mO_sO, up2, if_true, if_false, eq_self, ite_true, ite_false, reduceIte, Nat.add_left_cancel_iff, Nat.add_eq_left, Nat.left_eq_add, Nat.reduceEqDiff]; done)) ?_ | refine e_getI 79 rfl dX8_takeSign_76 f_X8_22 (by assumption) ?_
    refine e_iconst (nI 1) 80 rfl dX8_takeSign_79 ic_1 ?_
    first | refine e_iaddN 81 rfl dX8_takeSign_80 rfl rfl ?_ | refine e_iadd 81 rfl dX8_takeSign_80 ?_
    refine e_putI 84 rfl dX8_takeSign_81 f_X8_22 (by assumption) ?_
    refine e_goto 108 (by decide) dX8_takeSign_84 ?_
    refine e_al0 109 rfl dX8_takeSign_108 ?_
    refine e_getR 112 rfl dX8_takeSign_109 f_X8_9 (by assumption) (by assumption) ?_
    refine e_al0 113 rfl dX8_takeSign_112 ?_
    first | refine e_getIv 116 rfl dX8_takeSign_113 f_X8_15 (by assumption) (by first | assumption | (simp only [mN_sF, mK_sF, mL_sF, mF_sF, mB_sF, mA_sF, mJ_sF, mP_sF, mO_sF, mN_sB, mK_sB, mL_sB, mF_sB, mB_sB, mA_sB, mJ_sB, mP_sB, mO_sB, mN_sA, mK_sA, mL_sA, mF_sA, mB_sA, mA_sA, mJ_sA, mP_sA, mO_sA, mN_sJ, mK_sJ, mL_sJ, mF_sJ, mB_sJ, mA_sJ, mJ_sJ, mP_sJ, mO_sJ, mN_sP, mK_sP, mL_sP, mF_sP, mB_sP, mA_sP, mJ_sP, mP_sP, mO_sP, mN_sO, mK_sO, mL_sO, mF_sO, mB_sO, mA_sO, mJ_sO, mP_sO, mO_sO, up2, if_true, if_false, eq_self, ite_true, ite_false, reduceIte, Nat.add_left_cancel_iff, Nat.add_eq_left, Nat.left_eq_add, Nat.reduceEqDiff]; assumption) | (simp only [mN_sF, mK_sF, mL_sF, mF_sF, mB_sF, mA_sF, mJ_sF, mP_sF, mO_sF, mN_sB, mK_sB, mL_sB, mF_sB, mB_sB, mA_sB, mJ_sB, mP_sB, mO_sB, mN_sA, mK_sA, mL_sA, mF_sA, mB_sA, mA_sA, mJ_sA, mP_sA, mO_sA, mN_sJ, mK_sJ, mL_sJ, mF_sJ, mB_sJ, mA_sJ, mJ_sJ, mP_sJ, mO_sJ, mN_sP, mK_sP, mL_sP, mF_sP, mB_sP, mA_sP, mJ_sP, mP_sP, mO_sP, mN_sO, mK_sO, mL_sO, mF_sO, mB_sO, mA_sO, mJ_sO, mP_sO, mO_sO, up2, if_true, if_false, eq_self, ite_true, ite_false, reduceIte, Nat.add_left_cancel_iff, Nat.add_eq_left, Nat.left_eq_add, Nat.reduceEqDiff]; done)) ?_ | refine e_getI 116 rfl dX8_takeSign_113 f_X8_15 (by assumption) ?_
    refine e_il1 117 rfl dX8_takeSign_116 ?_
    first | refine e_bast 118 rfl dX8_takeSign_117 (by assumption) (by assumption) (by first | rfl | simp only [pk_mul, nI_add]) (by omega) (by omega) ?_ | refine e_zast 118 rfl dX8_takeSign_117 (by assumption) (by assumption) (by first | rfl | simp only [pk_mul, nI_add]) (by omega) (by omega) (by first | exact z0 | exact z1 | exact bI01 _ | assumption) ?_
    refine e_al0 119 rfl dX8_takeSign_118 ?_
    refine e_dup 120 rfl dX8_takeSign_119 rfl ?_
    first | refine e_getIv 123 rfl dX8_takeSign_120 f_X8_15 (by assumption) (by first | assumption | (simp only [mN_sF, mK_sF, mL_sF, mF_sF, mB_sF, mA_sF, mJ_sF, mP_sF, mO_sF, mN_sB, mK_sB, mL_sB, mF_sB, mB_sB, mA_sB, mJ_sB, mP_sB, mO_sB, mN_sA, mK_sA, mL_sA, mF_sA, mB_sA, mA_sA, mJ_sA, mP_sA, mO_sA, mN_sJ, mK_sJ, mL_sJ, mF_sJ, mB_sJ, mA_sJ, mJ_sJ, mP_sJ, mO_sJ, mN_sP, mK_sP, mL_sP, mF_sP, mB_sP, mA_sP, mJ_sP, mP_sP, mO_sP, mN_sO, mK_sO, mL_sO, mF_sO, mB_sO, mA_sO, mJ_sO, mP_sO, mO_sO, up2, if_true, if_false, eq_self, ite_true, ite_false, reduceIte, Nat.add_left_cancel_iff, Nat.add_eq_left, Nat.left_eq_add, Nat.reduceEqDiff]; assumption) | (simp only [mN_sF, mK_sF, mL_sF, mF_sF, mB_sF, mA_sF, mJ_sF, mP_sF, mO_sF, mN_sB, mK_sB, mL_sB, mF_sB, mB_sB, mA_sB, mJ_sB, mP_sB, mO_sB, mN_sA, mK_sA, mL_sA, mF_sA, mB_sA, mA_sA, mJ_sA, mP_sA, mO_sA, mN_sJ, mK_sJ, mL_sJ, mF_sJ, mB_sJ, mA_sJ, mJ_sJ, mP_sJ, mO_sJ, mN_sP, mK_sP, mL_sP, mF_sP, mB_sP, mA_sP, mJ_sP, mP_sP, mO_sP, mN_sO, mK_sO, mL_sO, mF_sO, mB_sO, mA_sO, mJ_sO, mP_sO, mO_sO, up2, if_true, if_false, eq_self, ite_true, ite_false, reduceIte, Nat.add_left_cancel_iff, Nat.add_eq_left, Nat.left_eq_add, Nat.reduceEqDiff]; done)) ?_ | refine e_getI 123 rfl dX8_takeSign_120 f_X8_15 (by assumption) ?_
    refine e_iconst (nI 1) 124 rfl dX8_takeSign_123 ic_1 ?_
    first | refine e_iaddN 125 rfl dX8_takeSign_124 rfl rfl ?_ | refine e_iadd 125 rfl dX8_takeSign_124 ?_
    refine e_putI 128 rfl dX8_takeSign_125 f_X8_15 (by assumption) ?_
    refine e_iconst (nI 1) 129 rfl dX8_takeSign_128 ic_1 ?_
    refine e_zret dX8_takeSign_129 rfl (by first | exact z0 | exact z1 | exact bI01 _ | assumption) ?_
    exact kt hbt _ ((((Fr.rf.sB Sa2 _ _).sF Sa _ _).sB Sa1 _ _).sF Sa _ _) (WI.letter ⟨i1, i3, it, if_⟩ hl (big_fold c hc hg) (bg_c c hc hg))
  have hl : isLt c = false := by simp [isLt, hs, hg]
  refine e_al0 88 rfl dX8_takeSign_87 ?_
  first | refine e_getIv 91 rfl dX8_takeSign_88 f_X8_22 (by assumption) (by first | assumption | (simp only [mN_sF, mK_sF, mL_sF, mF_sF, mB_sF, mA_sF, mJ_sF, mP_sF, mO_sF, mN_sB, mK_sB, mL_sB, mF_sB, mB_sB, mA_sB, mJ_sB, mP_sB, mO_sB, mN_sA, mK_sA, mL_sA, mF_sA, mB_sA, mA_sA, mJ_sA, mP_sA, mO_sA, mN_sJ, mK_sJ, mL_sJ, mF_sJ, mB_sJ, mA_sJ, mJ_sJ, mP_sJ, mO_sJ, mN_sP, mK_sP, mL_sP, mF_sP, mB_sP, mA_sP, mJ_sP, mP_sP, mO_sP, mN_sO, mK_sO, mL_sO, mF_sO, mB_sO, mA_sO, mJ_sO, mP_sO, mO_sO, up2, if_true, if_false, eq_self, ite_true, ite_false, reduceIte, Nat.add_left_cancel_iff, Nat.add_eq_left, Nat.left_eq_add, Nat.reduceEqDiff]; assumption) | (simp only [mN_sF, mK_sF, mL_sF, mF_sF, mB_sF, mA_sF, mJ_sF, mP_sF, mO_sF, mN_sB, mK_sB, mL_sB, mF_sB, mB_sB, mA_sB, mJ_sB, mP_sB, mO_sB, mN_sA, mK_sA, mL_sA, mF_sA, mB_sA, mA_sA, mJ_sA, mP_sA, mO_sA, mN_sJ, mK_sJ, mL_sJ, mF_sJ, mB_sJ, mA_sJ, mJ_sJ, mP_sJ, mO_sJ, mN_sP, mK_sP, mL_sP, mF_sP, mB_sP, mA_sP, mJ_sP, mP_sP, mO_sP, mN_sO, mK_sO, mL_sO, mF_sO, mB_sO, mA_sO, mJ_sO, mP_sO, mO_sO, up2, if_true, if_false, eq_self, ite_true, ite_false, reduceIte, Nat.add_left_cancel_iff, Nat.add_eq_left, Nat.left_eq_add, Nat.reduceEqDiff]; done)) ?_ | refine e_getI 91 rfl dX8_takeSign_88 f_X8_22 (by assumption) ?_
  first | refine e_if_eqB 106 94 (by decide) rfl dX8_takeSign_91 rfl (fun h0l => ?_) (fun h0l => ?_) | refine e_if_eqN 106 94 (by decide) rfl dX8_takeSign_91 rfl (by omega) (fun h0l => ?_) (fun h0l => ?_) | refine e_if_eq 106 94 (by decide) rfl dX8_takeSign_91 (fun h0l => ?_) (fun h0l => ?_)
  · refine e_iconst (nI 0) 107 rfl dX8_takeSign_106 ic_0 ?_
    refine e_zret dX8_takeSign_107 rfl (by first | exact z0 | exact z1 | exact bI01 _ | assumption) ?_
    exact kf (by rw [hb, if_pos (List.eq_nil_of_length_eq_zero h0l)]; exact hl)
  have hne : foldL p ≠ [] := fun q => h0l (by rw [q]; rfl)
  refine e_il1 95 rfl dX8_takeSign_94 ?_
  refine e_bipush (nI 39) 97 rfl dX8_takeSign_95 bc_39 ?_
  first | refine e_cmp_eqN 108 100 (by decide) rfl dX8_takeSign_97 rfl rfl (by omega) (by omega) (fun h39 => ?_) (fun h39 => ?_) | refine e_cmp_eq 108 100 (by decide) rfl dX8_takeSign_97 (fun h39 => ?_) (fun h39 => ?_)
  · have e : c = 39 := (sb_eq c hc 39 (by decide)).mp h39
    subst e
    refine e_al0 109 rfl dX8_takeSign_108 ?_
    refine e_getR 112 rfl dX8_takeSign_109 f_X8_9 (by assumption) (by assumption) ?_
    refine e_al0 113 rfl dX8_takeSign_112 ?_
    first | refine e_getIv 116 rfl dX8_takeSign_113 f_X8_15 (by assumption) (by first | assumption | (simp only [mN_sF, mK_sF, mL_sF, mF_sF, mB_sF, mA_sF, mJ_sF, mP_sF, mO_sF, mN_sB, mK_sB, mL_sB, mF_sB, mB_sB, mA_sB, mJ_sB, mP_sB, mO_sB, mN_sA, mK_sA, mL_sA, mF_sA, mB_sA, mA_sA, mJ_sA, mP_sA, mO_sA, mN_sJ, mK_sJ, mL_sJ, mF_sJ, mB_sJ, mA_sJ, mJ_sJ, mP_sJ, mO_sJ, mN_sP, mK_sP, mL_sP, mF_sP, mB_sP, mA_sP, mJ_sP, mP_sP, mO_sP, mN_sO, mK_sO, mL_sO, mF_sO, mB_sO, mA_sO, mJ_sO, mP_sO, mO_sO, up2, if_true, if_false, eq_self, ite_true, ite_false, reduceIte, Nat.add_left_cancel_iff, Nat.add_eq_left, Nat.left_eq_add, Nat.reduceEqDiff]; assumption) | (simp only [mN_sF, mK_sF, mL_sF, mF_sF, mB_sF, mA_sF, mJ_sF, mP_sF, mO_sF, mN_sB, mK_sB, mL_sB, mF_sB, mB_sB, mA_sB, mJ_sB, mP_sB, mO_sB, mN_sA, mK_sA, mL_sA, mF_sA, mB_sA, mA_sA, mJ_sA, mP_sA, mO_sA, mN_sJ, mK_sJ, mL_sJ, mF_sJ, mB_sJ, mA_sJ, mJ_sJ, mP_sJ, mO_sJ, mN_sP, mK_sP, mL_sP, mF_sP, mB_sP, mA_sP, mJ_sP, mP_sP, mO_sP, mN_sO, mK_sO, mL_sO, mF_sO, mB_sO, mA_sO, mJ_sO, mP_sO, mO_sO, up2, if_true, if_false, eq_self, ite_true, ite_false, reduceIte, Nat.add_left_cancel_iff, Nat.add_eq_left, Nat.left_eq_add, Nat.reduceEqDiff]; done)) ?_ | refine e_getI 116 rfl dX8_takeSign_113 f_X8_15 (by assumption) ?_
    refine e_il1 117 rfl dX8_takeSign_116 ?_
    first | refine e_bast 118 rfl dX8_takeSign_117 (by assumption) (by assumption) (by first | rfl | simp only [pk_mul, nI_add]) (by omega) (by omega) ?_ | refine e_zast 118 rfl dX8_takeSign_117 (by assumption) (by assumption) (by first | rfl | simp only [pk_mul, nI_add]) (by omega) (by omega) (by first | exact z0 | exact z1 | exact bI01 _ | assumption) ?_
    refine e_al0 119 rfl dX8_takeSign_118 ?_
    refine e_dup 120 rfl dX8_takeSign_119 rfl ?_
    first | refine e_getIv 123 rfl dX8_takeSign_120 f_X8_15 (by assumption) (by first | assumption | (simp only [mN_sF, mK_sF, mL_sF, mF_sF, mB_sF, mA_sF, mJ_sF, mP_sF, mO_sF, mN_sB, mK_sB, mL_sB, mF_sB, mB_sB, mA_sB, mJ_sB, mP_sB, mO_sB, mN_sA, mK_sA, mL_sA, mF_sA, mB_sA, mA_sA, mJ_sA, mP_sA, mO_sA, mN_sJ, mK_sJ, mL_sJ, mF_sJ, mB_sJ, mA_sJ, mJ_sJ, mP_sJ, mO_sJ, mN_sP, mK_sP, mL_sP, mF_sP, mB_sP, mA_sP, mJ_sP, mP_sP, mO_sP, mN_sO, mK_sO, mL_sO, mF_sO, mB_sO, mA_sO, mJ_sO, mP_sO, mO_sO, up2, if_true, if_false, eq_self, ite_true, ite_false, reduceIte, Nat.add_left_cancel_iff, Nat.add_eq_left, Nat.left_eq_add, Nat.reduceEqDiff]; assumption) | (simp only [mN_sF, mK_sF, mL_sF, mF_sF, mB_sF, mA_sF, mJ_sF, mP_sF, mO_sF, mN_sB, mK_sB, mL_sB, mF_sB, mB_sB, mA_sB, mJ_sB, mP_sB, mO_sB, mN_sA, mK_sA, mL_sA, mF_sA, mB_sA, mA_sA, mJ_sA, mP_sA, mO_sA, mN_sJ, mK_sJ, mL_sJ, mF_sJ, mB_sJ, mA_sJ, mJ_sJ, mP_sJ, mO_sJ, mN_sP, mK_sP, mL_sP, mF_sP, mB_sP, mA_sP, mJ_sP, mP_sP, mO_sP, mN_sO, mK_sO, mL_sO, mF_sO, mB_sO, mA_sO, mJ_sO, mP_sO, mO_sO, up2, if_true, if_false, eq_self, ite_true, ite_false, reduceIte, Nat.add_left_cancel_iff, Nat.add_eq_left, Nat.left_eq_add, Nat.reduceEqDiff]; done)) ?_ | refine e_getI 123 rfl dX8_takeSign_120 f_X8_15 (by assumption) ?_
    refine e_iconst (nI 1) 124 rfl dX8_takeSign_123 ic_1 ?_
    first | refine e_iaddN 125 rfl dX8_takeSign_124 rfl rfl ?_ | refine e_iadd 125 rfl dX8_takeSign_124 ?_
    refine e_putI 128 rfl dX8_takeSign_125 f_X8_15 (by assumption) ?_
    refine e_iconst (nI 1) 129 rfl dX8_takeSign_128 ic_1 ?_
    refine e_zret dX8_takeSign_129 rfl (by first | exact z0 | exact z1 | exact bI01 _ | assumption) ?_
    exact kt (by rw [hb, if_neg hne]; rfl) _ ((Fr.rf.sB Sa1 _ _).sF Sa _ _) (WI.other ⟨i1, i3, it, if_⟩ rfl (by decide))
  have e39 : c ≠ 39 := fun q => h39 ((sb_eq c hc 39 (by decide)).mpr q)
  refine e_il1 101 rfl dX8_takeSign_100 ?_
  refine e_bipush (nI 45) 103 rfl dX8_takeSign_101 bc_45 ?_
  first | refine e_cmp_eqN 108 106 (by decide) rfl dX8_takeSign_103 rfl rfl (by omega) (by omega) (fun h45 => ?_) (fun h45 => ?_) | refine e_cmp_eq 108 106 (by decide) rfl dX8_takeSign_103 (fun h45 => ?_) (fun h45 => ?_)
  · have e : c = 45 := (sb_eq c hc 45 (by decide)).mp h45
    subst e
    refine e_al0 109 rfl dX8_takeSign_108 ?_
    refine e_getR 112 rfl dX8_takeSign_109 f_X8_9 (by assumption) (by assumption) ?_
    refine e_al0 113 rfl dX8_takeSign_112 ?_
    first | refine e_getIv 116 rfl dX8_takeSign_113 f_X8_15 (by assumption) (by first | assumption | (simp only [mN_sF, mK_sF, mL_sF, mF_sF, mB_sF, mA_sF, mJ_sF, mP_sF, mO_sF, mN_sB, mK_sB, mL_sB, mF_sB, mB_sB, mA_sB, mJ_sB, mP_sB, mO_sB, mN_sA, mK_sA, mL_sA, mF_sA, mB_sA, mA_sA, mJ_sA, mP_sA, mO_sA, mN_sJ, mK_sJ, mL_sJ, mF_sJ, mB_sJ, mA_sJ, mJ_sJ, mP_sJ, mO_sJ, mN_sP, mK_sP, mL_sP, mF_sP, mB_sP, mA_sP, mJ_sP, mP_sP, mO_sP, mN_sO, mK_sO, mL_sO, mF_sO, mB_sO, mA_sO, mJ_sO, mP_sO, mO_sO, up2, if_true, if_false, eq_self, ite_true, ite_false, reduceIte, Nat.add_left_cancel_iff, Nat.add_eq_left, Nat.left_eq_add, Nat.reduceEqDiff]; assumption) | (simp only [mN_sF, mK_sF, mL_sF, mF_sF, mB_sF, mA_sF, mJ_sF, mP_sF, mO_sF, mN_sB, mK_sB, mL_sB, mF_sB, mB_sB, mA_sB, mJ_sB, mP_sB, mO_sB, mN_sA, mK_sA, mL_sA, mF_sA, mB_sA, mA_sA, mJ_sA, mP_sA, mO_sA, mN_sJ, mK_sJ, mL_sJ, mF_sJ, mB_sJ, mA_sJ, mJ_sJ, mP_sJ, mO_sJ, mN_sP, mK_sP, mL_sP, mF_sP, mB_sP, mA_sP, mJ_sP, mP_sP, mO_sP, mN_sO, mK_sO, mL_sO, mF_sO, mB_sO, mA_sO, mJ_sO, mP_sO, mO_sO, up2, if_true, if_false, eq_self, ite_true, ite_false, reduceIte, Nat.add_left_cancel_iff, Nat.add_eq_left, Nat.left_eq_add, Nat.reduceEqDiff]; done)) ?_ | refine e_getI 116 rfl dX8_takeSign_113 f_X8_15 (by assumption) ?_
    refine e_il1 117 rfl dX8_takeSign_116 ?_
    first | refine e_bast 118 rfl dX8_takeSign_117 (by assumption) (by assumption) (by first | rfl | simp only [pk_mul, nI_add]) (by omega) (by omega) ?_ | refine e_zast 118 rfl dX8_takeSign_117 (by assumption) (by assumption) (by first | rfl | simp only [pk_mul, nI_add]) (by omega) (by omega) (by first | exact z0 | exact z1 | exact bI01 _ | assumption) ?_
    refine e_al0 119 rfl dX8_takeSign_118 ?_
    refine e_dup 120 rfl dX8_takeSign_119 rfl ?_
    first | refine e_getIv 123 rfl dX8_takeSign_120 f_X8_15 (by assumption) (by first | assumption | (simp only [mN_sF, mK_sF, mL_sF, mF_sF, mB_sF, mA_sF, mJ_sF, mP_sF, mO_sF, mN_sB, mK_sB, mL_sB, mF_sB, mB_sB, mA_sB, mJ_sB, mP_sB, mO_sB, mN_sA, mK_sA, mL_sA, mF_sA, mB_sA, mA_sA, mJ_sA, mP_sA, mO_sA, mN_sJ, mK_sJ, mL_sJ, mF_sJ, mB_sJ, mA_sJ, mJ_sJ, mP_sJ, mO_sJ, mN_sP, mK_sP, mL_sP, mF_sP, mB_sP, mA_sP, mJ_sP, mP_sP, mO_sP, mN_sO, mK_sO, mL_sO, mF_sO, mB_sO, mA_sO, mJ_sO, mP_sO, mO_sO, up2, if_true, if_false, eq_self, ite_true, ite_false, reduceIte, Nat.add_left_cancel_iff, Nat.add_eq_left, Nat.left_eq_add, Nat.reduceEqDiff]; assumption) | (simp only [mN_sF, mK_sF, mL_sF, mF_sF, mB_sF, mA_sF, mJ_sF, mP_sF, mO_sF, mN_sB, mK_sB, mL_sB, mF_sB, mB_sB, mA_sB, mJ_sB, mP_sB, mO_sB, mN_sA, mK_sA, mL_sA, mF_sA, mB_sA, mA_sA, mJ_sA, mP_sA, mO_sA, mN_sJ, mK_sJ, mL_sJ, mF_sJ, mB_sJ, mA_sJ, mJ_sJ, mP_sJ, mO_sJ, mN_sP, mK_sP, mL_sP, mF_sP, mB_sP, mA_sP, mJ_sP, mP_sP, mO_sP, mN_sO, mK_sO, mL_sO, mF_sO, mB_sO, mA_sO, mJ_sO, mP_sO, mO_sO, up2, if_true, if_false, eq_self, ite_true, ite_false, reduceIte, Nat.add_left_cancel_iff, Nat.add_eq_left, Nat.left_eq_add, Nat.reduceEqDiff]; done)) ?_ | refine e_getI 123 rfl dX8_takeSign_120 f_X8_15 (by assumption) ?_
    refine e_iconst (nI 1) 124 rfl dX8_takeSign_123 ic_1 ?_
    first | refine e_iaddN 125 rfl dX8_takeSign_124 rfl rfl ?_ | refine e_iadd 125 rfl dX8_takeSign_124 ?_
    refine e_putI 128 rfl dX8_takeSign_125 f_X8_15 (by assumption) ?_
    refine e_iconst (nI 1) 129 rfl dX8_takeSign_128 ic_1 ?_
    refine e_zret dX8_takeSign_129 rfl (by first | exact z0 | exact z1 | exact bI01 _ | assumption) ?_
    exact kt (by rw [hb, if_neg hne]; rfl) _ ((Fr.rf.sB Sa1 _ _).sF Sa _ _) (WI.other ⟨i1, i3, it, if_⟩ rfl (by decide))
  have e45 : c ≠ 45 := fun q => h45 ((sb_eq c hc 45 (by decide)).mpr q)
  refine e_iconst (nI 0) 107 rfl dX8_takeSign_106 ic_0 ?_
  refine e_zret dX8_takeSign_107 rfl (by first | exact z0 | exact z1 | exact bI01 _ | assumption) ?_
  exact kf (by rw [hb, if_neg hne]; exact okS_of hl e39 e45)
end WORD
