/-! NameDesk$Book: add, remove -/
section BOOK2
variable {E : En} {μ : Mm} {K : Option Value → Mm → Prop}
def bS (b : Nat) : Nat → Prop := fun q => b ≤ q ∧ q < b + 244
theorem c_badd {b o ld kd : Nat} {es : List Ent} {lw : List Nat} (hb : Bk μ b) (hc : Bc μ b es) (ho : Wd μ o) (hol : Wl μ o lw) (hld : ld < 6) (hkd : kd < 5) (hn : es.length < 80) (hoo : o + 2 < b ∨ b + 244 ≤ o)
    (k : ∀ μ', Fr (bS b) μ μ' → Bc μ' b (es ++ [(ld, kd, lw)]) → K none μ') : Cl E M_X0_add [.ref b, .int (nI ld), .int (nI kd), .ref o] μ K := by
  obtain ⟨⟨bk, b0, b1, b2, bk1, bl1, bk2, bl2, bk3, bl3⟩, hW⟩ := id hb
  obtain ⟨h1, h2, π, h3, h4, h5⟩ := hc
  obtain ⟨p1, p2⟩ := h3 es.length hn
  have hkw := (hW (π es.length) p1).1
  have Sb : bS b b := ⟨by omega, by omega⟩
  have Sb2 : bS b (b + 2) := ⟨by omega, by omega⟩
  have Sb3 : bS b (b + 3) := ⟨by omega, by omega⟩
  refine Cl.of0 0 pn_X0 (Nat.le_of_ble_eq_true rfl) ⟨rfl, rfl⟩ rfl ?_
  refine e_al0 1 rfl dX0_add_0 ?_
  first | refine e_getIv 4 rfl dX0_add_1 f_X0_24 (by assumption) (by first | assumption | (simp only [mN_sF, mK_sF, mL_sF, mF_sF, mB_sF, mA_sF, mJ_sF, mP_sF, mO_sF, mN_sB, mK_sB, mL_sB, mF_sB, mB_sB, mA_sB, mJ_sB, mP_sB, mO_sB, mN_sA, mK_sA, mL_sA, mF_sA, mB_sA, mA_sA, mJ_sA, mP_sA, mO_sA, mN_sJ, mK_sJ, mL_sJ, mF_sJ, mB_sJ, mA_sJ, mJ_sJ, mP_sJ, mO_sJ, mN_sP, mK_sP, mL_sP, mF_sP, mB_sP, mA_sP, mJ_sP, mP_sP, mO_sP, mN_sO, mK_sO, mL_sO, mF_sO, mB_sO, mA_sO, mJ_sO, mP_sO, mO_sO, up2, if_true, if_false, eq_self, ite_true, ite_false, reduceIte, Nat.add_left_cancel_iff, Nat.add_eq_left, Nat.left_eq_add, Nat.reduceEqDiff]; assumption) | (simp only [mN_sF, mK_sF, mL_sF, mF_sF, mB_sF, mA_sF, mJ_sF, mP_sF, mO_sF, mN_sB, mK_sB, mL_sB, mF_sB, mB_sB, mA_sB, mJ_sB, mP_sB, mO_sB, mN_sA, mK_sA, mL_sA, mF_sA, mB_sA, mA_sA, mJ_sA, mP_sA, mO_sA, mN_sJ, mK_sJ, mL_sJ, mF_sJ, mB_sJ, mA_sJ, mJ_sJ, mP_sJ, mO_sJ, mN_sP, mK_sP, mL_sP, mF_sP, mB_sP, mA_sP, mJ_sP, mP_sP, mO_sP, mN_sO, mK_sO, mL_sO, mF_sO, mB_sO, mA_sO, mJ_sO, mP_sO, mO_sO, up2, if_true, if_false, eq_self, ite_true, ite_false, reduceIte, Nat.add_left_cancel_iff, Nat.add_eq_left, Nat.left_eq_add, Nat.reduceEqDiff]; done)) ?_ | refine e_getI 4 rfl dX0_add_1 f_X0_24 (by assumption) ?_
  refine e_bipush (nI 80) 6 rfl dX0_add_4 bc_80 ?_
  first | refine e_cmp_geN 52 9 (by decide) rfl dX0_add_6 rfl rfl (by omega) (by omega) (fun g1 => ?_) (fun g1 => ?_) | refine e_cmp_ge 52 9 (by decide) rfl dX0_add_6 (fun g1 => ?_) (fun g1 => ?_)
  · omega
  refine e_al0 10 rfl dX0_add_9 ?_
  refine e_getR 13 rfl dX0_add_10 f_X0_11 (by assumption) (by assumption) ?_
  refine e_al0 14 rfl dX0_add_13 ?_
  first | refine e_getIv 17 rfl dX0_add_14 f_X0_24 (by assumption) (by first | assumption | (simp only [mN_sF, mK_sF, mL_sF, mF_sF, mB_sF, mA_sF, mJ_sF, mP_sF, mO_sF, mN_sB, mK_sB, mL_sB, mF_sB, mB_sB, mA_sB, mJ_sB, mP_sB, mO_sB, mN_sA, mK_sA, mL_sA, mF_sA, mB_sA, mA_sA, mJ_sA, mP_sA, mO_sA, mN_sJ, mK_sJ, mL_sJ, mF_sJ, mB_sJ, mA_sJ, mJ_sJ, mP_sJ, mO_sJ, mN_sP, mK_sP, mL_sP, mF_sP, mB_sP, mA_sP, mJ_sP, mP_sP, mO_sP, mN_sO, mK_sO, mL_sO, mF_sO, mB_sO, mA_sO, mJ_sO, mP_sO, mO_sO, up2, if_true, if_false, eq_self, ite_true, ite_false, reduceIte, Nat.add_left_cancel_iff, Nat.add_eq_left, Nat.left_eq_add, Nat.reduceEqDiff]; assumption) | (simp only [mN_sF, mK_sF, mL_sF, mF_sF, mB_sF, mA_sF, mJ_sF, mP_sF, mO_sF, mN_sB, mK_sB, mL_sB, mF_sB, mB_sB, mA_sB, mJ_sB, mP_sB, mO_sB, mN_sA, mK_sA, mL_sA, mF_sA, mB_sA, mA_sA, mJ_sA, mP_sA, mO_sA, mN_sJ, mK_sJ, mL_sJ, mF_sJ, mB_sJ, mA_sJ, mJ_sJ, mP_sJ, mO_sJ, mN_sP, mK_sP, mL_sP, mF_sP, mB_sP, mA_sP, mJ_sP, mP_sP, mO_sP, mN_sO, mK_sO, mL_sO, mF_sO, mB_sO, mA_sO, mJ_sO, mP_sO, mO_sO, up2, if_true, if_false, eq_self, ite_true, ite_false, reduceIte, Nat.add_left_cancel_iff, Nat.add_eq_left, Nat.left_eq_add, Nat.reduceEqDiff]; done)) ?_ | refine e_getI 17 rfl dX0_add_14 f_X0_24 (by assumption) ?_
  refine e_aald 18 rfl dX0_add_17 (by assumption) (by decide) (by assumption) (by first | rfl | simp only [pk_mul, nI_add]) (by omega) (by omega) (by assumption) ?_
  refine e_al3 19 rfl dX0_add_18 ?_
  refine e_invV0 [_] 22 rfl dX0_add_19 k_X0_33 mo_X8_copyLetters rm_X0_add_X8_copyLetters ⟨rfl, rfl⟩ rfl rfl (by assumption) (Nat.le_of_ble_eq_true rfl) ?_
  refine c_copyLetters (hW _ p1) ho hol ⟨fun q => by have := q.1; have := q.2; omega, fun q => by have := q.1; have := q.2; omega⟩ (fun μ1 hF1 hWl1 => ?_)
  have hF1b : Fr (bS b) μ μ1 := hF1.mono (fun q hq => by obtain ⟨q1, q2⟩ := hq; exact ⟨by omega, by omega⟩)
  obtain ⟨⟨bk', b0', b1', b2', bk1', bl1', bk2', bl2', bk3', bl3'⟩, hW'⟩ := hb.fr hF1
  have hsz : mF μ1 b 3 = nI es.length := by rw [(hF1.2.2.2.2.2 b (fun q => by have := q.1; omega)).1]; exact h1
  refine e_al0 23 rfl dX0_add_22 ?_
  refine e_getR 26 rfl dX0_add_23 f_X0_17 (by assumption) (by assumption) ?_
  refine e_al0 27 rfl dX0_add_26 ?_
  first | refine e_getIv 30 rfl dX0_add_27 f_X0_24 (by assumption) (by first | assumption | (simp only [mN_sF, mK_sF, mL_sF, mF_sF, mB_sF, mA_sF, mJ_sF, mP_sF, mO_sF, mN_sB, mK_sB, mL_sB, mF_sB, mB_sB, mA_sB, mJ_sB, mP_sB, mO_sB, mN_sA, mK_sA, mL_sA, mF_sA, mB_sA, mA_sA, mJ_sA, mP_sA, mO_sA, mN_sJ, mK_sJ, mL_sJ, mF_sJ, mB_sJ, mA_sJ, mJ_sJ, mP_sJ, mO_sJ, mN_sP, mK_sP, mL_sP, mF_sP, mB_sP, mA_sP, mJ_sP, mP_sP, mO_sP, mN_sO, mK_sO, mL_sO, mF_sO, mB_sO, mA_sO, mJ_sO, mP_sO, mO_sO, up2, if_true, if_false, eq_self, ite_true, ite_false, reduceIte, Nat.add_left_cancel_iff, Nat.add_eq_left, Nat.left_eq_add, Nat.reduceEqDiff]; assumption) | (simp only [mN_sF, mK_sF, mL_sF, mF_sF, mB_sF, mA_sF, mJ_sF, mP_sF, mO_sF, mN_sB, mK_sB, mL_sB, mF_sB, mB_sB, mA_sB, mJ_sB, mP_sB, mO_sB, mN_sA, mK_sA, mL_sA, mF_sA, mB_sA, mA_sA, mJ_sA, mP_sA, mO_sA, mN_sJ, mK_sJ, mL_sJ, mF_sJ, mB_sJ, mA_sJ, mJ_sJ, mP_sJ, mO_sJ, mN_sP, mK_sP, mL_sP, mF_sP, mB_sP, mA_sP, mJ_sP, mP_sP, mO_sP, mN_sO, mK_sO, mL_sO, mF_sO, mB_sO, mA_sO, mJ_sO, mP_sO, mO_sO, up2, if_true, if_false, eq_self, ite_true, ite_false, reduceIte, Nat.add_left_cancel_iff, Nat.add_eq_left, Nat.left_eq_add, Nat.reduceEqDiff]; done)) ?_ | refine e_getI 30 rfl dX0_add_27 f_X0_24 (by assumption) ?_
  refine e_il1 31 rfl dX0_add_30 ?_
  refine e_iast 32 rfl dX0_add_31 (by assumption) (by assumption) (by first | rfl | simp only [pk_mul, nI_add]) (by omega) (by omega) ?_
  refine e_al0 33 rfl dX0_add_32 ?_
  refine e_getR 36 rfl dX0_add_33 f_X0_21 (by assumption) (by assumption) ?_
  refine e_al0 37 rfl dX0_add_36 ?_
  first | refine e_getIv 40 rfl dX0_add_37 f_X0_24 (by assumption) (by first | assumption | (simp only [mN_sF, mK_sF, mL_sF, mF_sF, mB_sF, mA_sF, mJ_sF, mP_sF, mO_sF, mN_sB, mK_sB, mL_sB, mF_sB, mB_sB, mA_sB, mJ_sB, mP_sB, mO_sB, mN_sA, mK_sA, mL_sA, mF_sA, mB_sA, mA_sA, mJ_sA, mP_sA, mO_sA, mN_sJ, mK_sJ, mL_sJ, mF_sJ, mB_sJ, mA_sJ, mJ_sJ, mP_sJ, mO_sJ, mN_sP, mK_sP, mL_sP, mF_sP, mB_sP, mA_sP, mJ_sP, mP_sP, mO_sP, mN_sO, mK_sO, mL_sO, mF_sO, mB_sO, mA_sO, mJ_sO, mP_sO, mO_sO, up2, if_true, if_false, eq_self, ite_true, ite_false, reduceIte, Nat.add_left_cancel_iff, Nat.add_eq_left, Nat.left_eq_add, Nat.reduceEqDiff]; assumption) | (simp only [mN_sF, mK_sF, mL_sF, mF_sF, mB_sF, mA_sF, mJ_sF, mP_sF, mO_sF, mN_sB, mK_sB, mL_sB, mF_sB, mB_sB, mA_sB, mJ_sB, mP_sB, mO_sB, mN_sA, mK_sA, mL_sA, mF_sA, mB_sA, mA_sA, mJ_sA, mP_sA, mO_sA, mN_sJ, mK_sJ, mL_sJ, mF_sJ, mB_sJ, mA_sJ, mJ_sJ, mP_sJ, mO_sJ, mN_sP, mK_sP, mL_sP, mF_sP, mB_sP, mA_sP, mJ_sP, mP_sP, mO_sP, mN_sO, mK_sO, mL_sO, mF_sO, mB_sO, mA_sO, mJ_sO, mP_sO, mO_sO, up2, if_true, if_false, eq_self, ite_true, ite_false, reduceIte, Nat.add_left_cancel_iff, Nat.add_eq_left, Nat.left_eq_add, Nat.reduceEqDiff]; done)) ?_ | refine e_getI 40 rfl dX0_add_37 f_X0_24 (by assumption) ?_
  refine e_il2 41 rfl dX0_add_40 ?_
  refine e_iast 42 rfl dX0_add_41 (by assumption) (by assumption) (by first | rfl | simp only [pk_mul, nI_add]) (by omega) (by omega) ?_
  refine e_al0 43 rfl dX0_add_42 ?_
  refine e_dup 44 rfl dX0_add_43 rfl ?_
  first | refine e_getIv 47 rfl dX0_add_44 f_X0_24 (by assumption) (by first | assumption | (simp only [mN_sF, mK_sF, mL_sF, mF_sF, mB_sF, mA_sF, mJ_sF, mP_sF, mO_sF, mN_sB, mK_sB, mL_sB, mF_sB, mB_sB, mA_sB, mJ_sB, mP_sB, mO_sB, mN_sA, mK_sA, mL_sA, mF_sA, mB_sA, mA_sA, mJ_sA, mP_sA, mO_sA, mN_sJ, mK_sJ, mL_sJ, mF_sJ, mB_sJ, mA_sJ, mJ_sJ, mP_sJ, mO_sJ, mN_sP, mK_sP, mL_sP, mF_sP, mB_sP, mA_sP, mJ_sP, mP_sP, mO_sP, mN_sO, mK_sO, mL_sO, mF_sO, mB_sO, mA_sO, mJ_sO, mP_sO, mO_sO, up2, if_true, if_false, eq_self, ite_true, ite_false, reduceIte, Nat.add_left_cancel_iff, Nat.add_eq_left, Nat.left_eq_add, Nat.reduceEqDiff]; assumption) | (simp only [mN_sF, mK_sF, mL_sF, mF_sF, mB_sF, mA_sF, mJ_sF, mP_sF, mO_sF, mN_sB, mK_sB, mL_sB, mF_sB, mB_sB, mA_sB, mJ_sB, mP_sB, mO_sB, mN_sA, mK_sA, mL_sA, mF_sA, mB_sA, mA_sA, mJ_sA, mP_sA, mO_sA, mN_sJ, mK_sJ, mL_sJ, mF_sJ, mB_sJ, mA_sJ, mJ_sJ, mP_sJ, mO_sJ, mN_sP, mK_sP, mL_sP, mF_sP, mB_sP, mA_sP, mJ_sP, mP_sP, mO_sP, mN_sO, mK_sO, mL_sO, mF_sO, mB_sO, mA_sO, mJ_sO, mP_sO, mO_sO, up2, if_true, if_false, eq_self, ite_true, ite_false, reduceIte, Nat.add_left_cancel_iff, Nat.add_eq_left, Nat.left_eq_add, Nat.reduceEqDiff]; done)) ?_ | refine e_getI 47 rfl dX0_add_44 f_X0_24 (by assumption) ?_
  refine e_iconst (nI 1) 48 rfl dX0_add_47 ic_1 ?_
  first | refine e_iaddN 49 rfl dX0_add_48 rfl rfl ?_ | refine e_iadd 49 rfl dX0_add_48 ?_
  refine e_putI 52 rfl dX0_add_49 f_X0_24 (by assumption) ?_
  refine e_ret dX0_add_52 rfl ?_
  refine k _ (((hF1b.sA Sb2 _ _).sA Sb3 _ _).sF Sb _ _) ⟨by simp only [mN_sF, mK_sF, mL_sF, mF_sF, mB_sF, mA_sF, mJ_sF, mP_sF, mO_sF, mN_sB, mK_sB, mL_sB, mF_sB, mB_sB, mA_sB, mJ_sB, mP_sB, mO_sB, mN_sA, mK_sA, mL_sA, mF_sA, mB_sA, mA_sA, mJ_sA, mP_sA, mO_sA, mN_sJ, mK_sJ, mL_sJ, mF_sJ, mB_sJ, mA_sJ, mJ_sJ, mP_sJ, mO_sJ, mN_sP, mK_sP, mL_sP, mF_sP, mB_sP, mA_sP, mJ_sP, mP_sP, mO_sP, mN_sO, mK_sO, mL_sO, mF_sO, mB_sO, mA_sO, mJ_sO, mP_sO, mO_sO, up2, if_true, if_false, eq_self, ite_true, ite_false, reduceIte, Nat.add_left_cancel_iff, Nat.add_eq_left, Nat.left_eq_add, Nat.reduceEqDiff]; simp, by simp; omega, π, fun i hi => ⟨(h3 i hi).1, ?_⟩, h4, fun i e he => ?_⟩
  · show mO μ1 (b + 1) i = _
    rw [hF1.2.2.2.2.1]; exact (h3 i hi).2
  · rcases Nat.lt_trichotomy i es.length with q | q | q
    · rw [List.getElem?_append_left q] at he
      obtain ⟨r1, r2, r3, r4⟩ := h5 i e he
      have hπ := (h3 i (by omega)).1
      have hne : π i ≠ π es.length := fun z => by have := h4 i es.length (by omega) hn z; omega
      refine ⟨?_, ?_, ?_, r4⟩
      · show up2 (up2 (mA μ1) (b + 2) _ _) (b + 3) _ _ (b + 2) i = _
        rw [up2_a (by omega), up2_k (by omega), (hF1.2.2.2.2.2 (b + 2) (fun q => by have := q.1; omega)).2.2.1]; exact r1
      · show up2 (up2 (mA μ1) (b + 2) _ _) (b + 3) _ _ (b + 3) i = _
        rw [up2_k (by omega), up2_a (by omega), (hF1.2.2.2.2.2 (b + 3) (fun q => by have := q.1; omega)).2.2.1]; exact r2
      · have z := r3.fr hF1 (fun q => by have := q.1; have := q.2; omega) (fun q => by have := q.1; have := q.2; omega)
        refine z.fr (((Fr.rf (S := fun q => q = b + 2 ∨ q = b + 3 ∨ q = b)).sA (Or.inl rfl) _ _).sA (Or.inr (Or.inl rfl)) _ _ |>.sF (Or.inr (Or.inr rfl)) _ _) (by omega) (by omega)
    · subst q
      simp at he
      subst he
      refine ⟨?_, ?_, ?_, hld, hkd⟩
      · show up2 (up2 (mA μ1) (b + 2) _ _) (b + 3) _ _ (b + 2) _ = _
        rw [up2_a (by omega), up2_s]
      · show up2 (up2 (mA μ1) (b + 2) _ _) (b + 3) _ _ (b + 3) _ = _
        rw [up2_s]
      · refine hWl1.fr (((Fr.rf (S := fun q => q = b + 2 ∨ q = b + 3 ∨ q = b)).sA (Or.inl rfl) _ _).sA (Or.inr (Or.inl rfl)) _ _ |>.sF (Or.inr (Or.inr rfl)) _ _) (by omega) (by omega)
    · rw [List.getElem?_append_right (by omega)] at he
      have : i - es.length < 1 := (List.getElem?_eq_some_iff.mp he).1
      omega
/-- the entries when the i-th is gone -/
def remL (es : List Ent) (i : Nat) : List Ent := match es[es.length - 1]? with
  | some e => (es.set i e).dropLast
  | none => es
theorem c_remove {b i : Nat} {es : List Ent} (hb : Bk μ b) (hc : Bc μ b es) (hi : i < es.length)
    (k : ∀ μ', Fx (fun q => b ≤ q ∧ q < b + 4) μ μ' → Bk μ' b → Bc μ' b (remL es i) → K none μ') : Cl E M_X0_remove [.ref b, .int (nI i)] μ K := by
  obtain ⟨⟨bk, b0, b1, b2, bk1, bl1, bk2, bl2, bk3, bl3⟩, hW⟩ := id hb
  obtain ⟨h1, h2, π, h3, h4, h5⟩ := hc
  obtain ⟨p1, p2⟩ := h3 i (by omega)
  obtain ⟨p3, p4⟩ := h3 (es.length - 1) (by omega)
  have hkw := (hW _ p1).1
  have hkw2 := (hW _ p3).1
  have hlast : es[es.length - 1]? = some (es[es.length - 1]'(by omega)) := List.getElem?_eq_getElem (by omega)
  obtain ⟨e1, e2, e3, e4⟩ := h5 _ _ hlast
  refine Cl.of0 2 pn_X0 (Nat.le_of_ble_eq_true rfl) ⟨rfl, rfl⟩ rfl ?_
  refine e_il1 1 rfl dX0_remove_0 ?_
  first | refine e_if_ltN 12 4 (by decide) rfl dX0_remove_1 rfl (by omega) ?_ | refine e_if_lt 12 4 (by decide) rfl dX0_remove_1 (fun h => ?_) (fun h => ?_)
  refine e_il1 5 rfl dX0_remove_4 ?_
  refine e_al0 6 rfl dX0_remove_5 ?_
  first | refine e_getIv 9 rfl dX0_remove_6 f_X0_24 (by assumption) (by first | assumption | (simp only [mN_sF, mK_sF, mL_sF, mF_sF, mB_sF, mA_sF, mJ_sF, mP_sF, mO_sF, mN_sB, mK_sB, mL_sB, mF_sB, mB_sB, mA_sB, mJ_sB, mP_sB, mO_sB, mN_sA, mK_sA, mL_sA, mF_sA, mB_sA, mA_sA, mJ_sA, mP_sA, mO_sA, mN_sJ, mK_sJ, mL_sJ, mF_sJ, mB_sJ, mA_sJ, mJ_sJ, mP_sJ, mO_sJ, mN_sP, mK_sP, mL_sP, mF_sP, mB_sP, mA_sP, mJ_sP, mP_sP, mO_sP, mN_sO, mK_sO, mL_sO, mF_sO, mB_sO, mA_sO, mJ_sO, mP_sO, mO_sO, up2, if_true, if_false, eq_self, ite_true, ite_false, reduceIte, Nat.add_left_cancel_iff, Nat.add_eq_left, Nat.left_eq_add, Nat.reduceEqDiff]; assumption) | (simp only [mN_sF, mK_sF, mL_sF, mF_sF, mB_sF, mA_sF, mJ_sF, mP_sF, mO_sF, mN_sB, mK_sB, mL_sB, mF_sB, mB_sB, mA_sB, mJ_sB, mP_sB, mO_sB, mN_sA, mK_sA, mL_sA, mF_sA, mB_sA, mA_sA, mJ_sA, mP_sA, mO_sA, mN_sJ, mK_sJ, mL_sJ, mF_sJ, mB_sJ, mA_sJ, mJ_sJ, mP_sJ, mO_sJ, mN_sP, mK_sP, mL_sP, mF_sP, mB_sP, mA_sP, mJ_sP, mP_sP, mO_sP, mN_sO, mK_sO, mL_sO, mF_sO, mB_sO, mA_sO, mJ_sO, mP_sO, mO_sO, up2, if_true, if_false, eq_self, ite_true, ite_false, reduceIte, Nat.add_left_cancel_iff, Nat.add_eq_left, Nat.left_eq_add, Nat.reduceEqDiff]; done)) ?_ | refine e_getI 9 rfl dX0_remove_6 f_X0_24 (by assumption) ?_
  first | refine e_cmp_ltN 13 12 (by decide) rfl dX0_remove_9 rfl rfl (by omega) (by omega) (fun g1 => ?_) (fun g1 => ?_) | refine e_cmp_lt 13 12 (by decide) rfl dX0_remove_9 (fun g1 => ?_) (fun g1 => ?_)
  rotate_left
  · omega
  have hO2 : mO (sO μ (b + 1) i (some (b + 4 + 3 * π (es.length - 1)))) (b + 1) (es.length - 1) = mO (sO μ (b + 1) i (some (b + 4 + 3 * π (es.length - 1)))) (b + 1) (es.length - 1) := rfl
  refine e_al0 14 rfl dX0_remove_13 ?_
  first | refine e_getIv 17 rfl dX0_remove_14 f_X0_24 (by assumption) (by first | assumption | (simp only [mN_sF, mK_sF, mL_sF, mF_sF, mB_sF, mA_sF, mJ_sF, mP_sF, mO_sF, mN_sB, mK_sB, mL_sB, mF_sB, mB_sB, mA_sB, mJ_sB, mP_sB, mO_sB, mN_sA, mK_sA, mL_sA, mF_sA, mB_sA, mA_sA, mJ_sA, mP_sA, mO_sA, mN_sJ, mK_sJ, mL_sJ, mF_sJ, mB_sJ, mA_sJ, mJ_sJ, mP_sJ, mO_sJ, mN_sP, mK_sP, mL_sP, mF_sP, mB_sP, mA_sP, mJ_sP, mP_sP, mO_sP, mN_sO, mK_sO, mL_sO, mF_sO, mB_sO, mA_sO, mJ_sO, mP_sO, mO_sO, up2, if_true, if_false, eq_self, ite_true, ite_false, reduceIte, Nat.add_left_cancel_iff, Nat.add_eq_left, Nat.left_eq_add, Nat.reduceEqDiff]; assumption) | (simp only [mN_sF, mK_sF, mL_sF, mF_sF, mB_sF, mA_sF, mJ_sF, mP_sF, mO_sF, mN_sB, mK_sB, mL_sB, mF_sB, mB_sB, mA_sB, mJ_sB, mP_sB, mO_sB, mN_sA, mK_sA, mL_sA, mF_sA, mB_sA, mA_sA, mJ_sA, mP_sA, mO_sA, mN_sJ, mK_sJ, mL_sJ, mF_sJ, mB_sJ, mA_sJ, mJ_sJ, mP_sJ, mO_sJ, mN_sP, mK_sP, mL_sP, mF_sP, mB_sP, mA_sP, mJ_sP, mP_sP, mO_sP, mN_sO, mK_sO, mL_sO, mF_sO, mB_sO, mA_sO, mJ_sO, mP_sO, mO_sO, up2, if_true, if_false, eq_self, ite_true, ite_false, reduceIte, Nat.add_left_cancel_iff, Nat.add_eq_left, Nat.left_eq_add, Nat.reduceEqDiff]; done)) ?_ | refine e_getI 17 rfl dX0_remove_14 f_X0_24 (by assumption) ?_
  refine e_iconst (nI 1) 18 rfl dX0_remove_17 ic_1 ?_
  first | refine e_isubN 19 rfl dX0_remove_18 rfl rfl (by omega) ?_ | refine e_isub 19 rfl dX0_remove_18 ?_
  refine e_is2 20 rfl dX0_remove_19 (by decide) rfl ?_
  refine e_al0 21 rfl dX0_remove_20 ?_
  refine e_getR 24 rfl dX0_remove_21 f_X0_11 (by assumption) (by assumption) ?_
  refine e_il1 25 rfl dX0_remove_24 ?_
  refine e_aald 26 rfl dX0_remove_25 (by assumption) (by decide) (by assumption) (by first | rfl | simp only [pk_mul, nI_add]) (by omega) (by omega) (by assumption) ?_
  refine e_as3 27 rfl dX0_remove_26 (by decide) rfl ?_
  refine e_al0 28 rfl dX0_remove_27 ?_
  refine e_getR 31 rfl dX0_remove_28 f_X0_11 (by assumption) (by assumption) ?_
  refine e_il1 32 rfl dX0_remove_31 ?_
  refine e_al0 33 rfl dX0_remove_32 ?_
  refine e_getR 36 rfl dX0_remove_33 f_X0_11 (by assumption) (by assumption) ?_
  refine e_il2 37 rfl dX0_remove_36 ?_
  refine e_aald 38 rfl dX0_remove_37 (by assumption) (by decide) (by assumption) (by first | rfl | simp only [pk_mul, nI_add]) (by omega) (by omega) (by assumption) ?_
  refine e_aast 39 rfl dX0_remove_38 (by assumption) (by first | exact Or.inl ⟨rfl, rfl⟩ | exact Or.inr (Or.inl ⟨rfl, rfl⟩) | exact Or.inr (Or.inr ⟨rfl, rfl⟩)) (by assumption) (by first | rfl | simp only [pk_mul, nI_add]) (by omega) (by omega) (by assumption) ?_
  refine e_al0 40 rfl dX0_remove_39 ?_
  refine e_getR 43 rfl dX0_remove_40 f_X0_11 (by assumption) (by assumption) ?_
  refine e_il2 44 rfl dX0_remove_43 ?_
  refine e_al3 45 rfl dX0_remove_44 ?_
  refine e_aast 46 rfl dX0_remove_45 (by assumption) (by first | exact Or.inl ⟨rfl, rfl⟩ | exact Or.inr (Or.inl ⟨rfl, rfl⟩) | exact Or.inr (Or.inr ⟨rfl, rfl⟩)) (by assumption) (by first | rfl | simp only [pk_mul, nI_add]) (by omega) (by omega) (by assumption) ?_
  refine e_al0 47 rfl dX0_remove_46 ?_
  refine e_getR 50 rfl dX0_remove_47 f_X0_17 (by assumption) (by assumption) ?_
  refine e_il1 51 rfl dX0_remove_50 ?_
  refine e_al0 52 rfl dX0_remove_51 ?_
  refine e_getR 55 rfl dX0_remove_52 f_X0_17 (by assumption) (by assumption) ?_
  refine e_il2 56 rfl dX0_remove_55 ?_
  first | refine e_ialdv 57 rfl dX0_remove_56 (by assumption) (by assumption) (by first | rfl | simp only [pk_mul, nI_add]) (by omega) (by omega) (by first | assumption | (simp only [mN_sF, mK_sF, mL_sF, mF_sF, mB_sF, mA_sF, mJ_sF, mP_sF, mO_sF, mN_sB, mK_sB, mL_sB, mF_sB, mB_sB, mA_sB, mJ_sB, mP_sB, mO_sB, mN_sA, mK_sA, mL_sA, mF_sA, mB_sA, mA_sA, mJ_sA, mP_sA, mO_sA, mN_sJ, mK_sJ, mL_sJ, mF_sJ, mB_sJ, mA_sJ, mJ_sJ, mP_sJ, mO_sJ, mN_sP, mK_sP, mL_sP, mF_sP, mB_sP, mA_sP, mJ_sP, mP_sP, mO_sP, mN_sO, mK_sO, mL_sO, mF_sO, mB_sO, mA_sO, mJ_sO, mP_sO, mO_sO, up2, if_true, if_false, eq_self, ite_true, ite_false, reduceIte, Nat.add_left_cancel_iff, Nat.add_eq_left, Nat.left_eq_add, Nat.reduceEqDiff]; assumption) | (simp only [mN_sF, mK_sF, mL_sF, mF_sF, mB_sF, mA_sF, mJ_sF, mP_sF, mO_sF, mN_sB, mK_sB, mL_sB, mF_sB, mB_sB, mA_sB, mJ_sB, mP_sB, mO_sB, mN_sA, mK_sA, mL_sA, mF_sA, mB_sA, mA_sA, mJ_sA, mP_sA, mO_sA, mN_sJ, mK_sJ, mL_sJ, mF_sJ, mB_sJ, mA_sJ, mJ_sJ, mP_sJ, mO_sJ, mN_sP, mK_sP, mL_sP, mF_sP, mB_sP, mA_sP, mJ_sP, mP_sP, mO_sP, mN_sO, mK_sO, mL_sO, mF_sO, mB_sO, mA_sO, mJ_sO, mP_sO, mO_sO, up2, if_true, if_false, eq_self, ite_true, ite_false, reduceIte, Nat.add_left_cancel_iff, Nat.add_eq_left, Nat.left_eq_add, Nat.reduceEqDiff]; done)) ?_ | refine e_iald 57 rfl dX0_remove_56 (by assumption) (by assumption) (by first | rfl | simp only [pk_mul, nI_add]) (by omega) (by omega) ?_
  refine e_iast 58 rfl dX0_remove_57 (by assumption) (by assumption) (by first | rfl | simp only [pk_mul, nI_add]) (by omega) (by omega) ?_
  refine e_al0 59 rfl dX0_remove_58 ?_
  refine e_getR 62 rfl dX0_remove_59 f_X0_21 (by assumption) (by assumption) ?_
  refine e_il1 63 rfl dX0_remove_62 ?_
  refine e_al0 64 rfl dX0_remove_63 ?_
  refine e_getR 67 rfl dX0_remove_64 f_X0_21 (by assumption) (by assumption) ?_
  refine e_il2 68 rfl dX0_remove_67 ?_
  first | refine e_ialdv 69 rfl dX0_remove_68 (by assumption) (by assumption) (by first | rfl | simp only [pk_mul, nI_add]) (by omega) (by omega) (by first | assumption | (simp only [mN_sF, mK_sF, mL_sF, mF_sF, mB_sF, mA_sF, mJ_sF, mP_sF, mO_sF, mN_sB, mK_sB, mL_sB, mF_sB, mB_sB, mA_sB, mJ_sB, mP_sB, mO_sB, mN_sA, mK_sA, mL_sA, mF_sA, mB_sA, mA_sA, mJ_sA, mP_sA, mO_sA, mN_sJ, mK_sJ, mL_sJ, mF_sJ, mB_sJ, mA_sJ, mJ_sJ, mP_sJ, mO_sJ, mN_sP, mK_sP, mL_sP, mF_sP, mB_sP, mA_sP, mJ_sP, mP_sP, mO_sP, mN_sO, mK_sO, mL_sO, mF_sO, mB_sO, mA_sO, mJ_sO, mP_sO, mO_sO, up2, if_true, if_false, eq_self, ite_true, ite_false, reduceIte, Nat.add_left_cancel_iff, Nat.add_eq_left, Nat.left_eq_add, Nat.reduceEqDiff]; assumption) | (simp only [mN_sF, mK_sF, mL_sF, mF_sF, mB_sF, mA_sF, mJ_sF, mP_sF, mO_sF, mN_sB, mK_sB, mL_sB, mF_sB, mB_sB, mA_sB, mJ_sB, mP_sB, mO_sB, mN_sA, mK_sA, mL_sA, mF_sA, mB_sA, mA_sA, mJ_sA, mP_sA, mO_sA, mN_sJ, mK_sJ, mL_sJ, mF_sJ, mB_sJ, mA_sJ, mJ_sJ, mP_sJ, mO_sJ, mN_sP, mK_sP, mL_sP, mF_sP, mB_sP, mA_sP, mJ_sP, mP_sP, mO_sP, mN_sO, mK_sO, mL_sO, mF_sO, mB_sO, mA_sO, mJ_sO, mP_sO, mO_sO, up2, if_true, if_false, eq_self, ite_true, ite_false, reduceIte, Nat.add_left_cancel_iff, Nat.add_eq_left, Nat.left_eq_add, Nat.reduceEqDiff]; done)) ?_ | refine e_iald 69 rfl dX0_remove_68 (by assumption) (by assumption) (by first | rfl | simp only [pk_mul, nI_add]) (by omega) (by omega) ?_
  refine e_iast 70 rfl dX0_remove_69 (by assumption) (by assumption) (by first | rfl | simp only [pk_mul, nI_add]) (by omega) (by omega) ?_
  refine e_al0 71 rfl dX0_remove_70 ?_
  refine e_il2 72 rfl dX0_remove_71 ?_
  refine e_putI 75 rfl dX0_remove_72 f_X0_24 (by assumption) ?_
  refine e_ret dX0_remove_75 rfl ?_
  have Sb : (fun q => b ≤ q ∧ q < b + 4) b := ⟨by omega, by omega⟩
  have Sb1 : (fun q => b ≤ q ∧ q < b + 4) (b + 1) := ⟨by omega, by omega⟩
  have Sb2 : (fun q => b ≤ q ∧ q < b + 4) (b + 2) := ⟨by omega, by omega⟩
  have Sb3 : (fun q => b ≤ q ∧ q < b + 4) (b + 3) := ⟨by omega, by omega⟩
  have hFx := ((((Fx.rf (S := fun q => b ≤ q ∧ q < b + 4) (μ := μ)).sO Sb1 i (some (b + 4 + 3 * π (es.length - 1)))).sO Sb1 (es.length - 1) (some (b + 4 + 3 * π i))).sA Sb2 i (nI (es[es.length - 1]'(by omega)).1)).sA Sb3 i (nI (es[es.length - 1]'(by omega)).2.1) |>.sF Sb 3 (nI (es.length - 1))
  have hrem : remL es i = (es.set i (es[es.length - 1]'(by omega))).dropLast := by unfold remL; rw [hlast]
  have hlen : (remL es i).length = es.length - 1 := by rw [hrem]; simp
  refine k _ hFx ⟨⟨bk, b0, b1, b2, bk1, bl1, bk2, bl2, bk3, bl3⟩, fun j hj => hW j hj⟩ ⟨by rw [hlen]; simp only [mN_sF, mK_sF, mL_sF, mF_sF, mB_sF, mA_sF, mJ_sF, mP_sF, mO_sF, mN_sB, mK_sB, mL_sB, mF_sB, mB_sB, mA_sB, mJ_sB, mP_sB, mO_sB, mN_sA, mK_sA, mL_sA, mF_sA, mB_sA, mA_sA, mJ_sA, mP_sA, mO_sA, mN_sJ, mK_sJ, mL_sJ, mF_sJ, mB_sJ, mA_sJ, mJ_sJ, mP_sJ, mO_sJ, mN_sP, mK_sP, mL_sP, mF_sP, mB_sP, mA_sP, mJ_sP, mP_sP, mO_sP, mN_sO, mK_sO, mL_sO, mF_sO, mB_sO, mA_sO, mJ_sO, mP_sO, mO_sO, up2, if_true, if_false, eq_self, ite_true, ite_false, reduceIte, Nat.add_left_cancel_iff, Nat.add_eq_left, Nat.left_eq_add, Nat.reduceEqDiff], by omega, fun j => if j = i then π (es.length - 1) else if j = es.length - 1 then π i else π j, fun j hj => ?_, fun j j' hj hj' he => ?_, fun j e he => ?_⟩
  · refine ⟨?_, ?_⟩
    · show (if j = i then π (es.length - 1) else if j = es.length - 1 then π i else π j) < 80
      split
      · exact p3
      · split
        · exact p1
        · exact (h3 j hj).1
    · show up2 (up2 (mO μ) (b + 1) i _) (b + 1) (es.length - 1) _ (b + 1) j = some (b + 4 + 3 * (if j = i then π (es.length - 1) else if j = es.length - 1 then π i else π j))
      by_cases c1 : j = i
      · subst c1
        by_cases c2 : j = es.length - 1
        · rw [if_pos rfl, ← c2, up2_s]
        · rw [if_pos rfl, up2_k c2, up2_s]
      · rw [if_neg c1]
        by_cases c2 : j = es.length - 1
        · rw [if_pos c2, c2, up2_s]
        · rw [if_neg c2, up2_k c2, up2_k c1]; exact (h3 j hj).2
  · have he : (if j = i then π (es.length - 1) else if j = es.length - 1 then π i else π j) = (if j' = i then π (es.length - 1) else if j' = es.length - 1 then π i else π j') := he
    have inj : ∀ x y, x < 80 → y < 80 → π x = π y → x = y := h4
    by_cases c1 : j = i <;> by_cases c2 : j' = i <;> by_cases c3 : j = es.length - 1 <;> by_cases c4 : j' = es.length - 1 <;> simp only [c1, c2, c3, c4, if_true, if_false, reduceIte] at he <;> first | omega | (have := inj _ _ (by omega) (by omega) he; omega) | (split at he <;> first | omega | (have := inj _ _ (by omega) (by omega) he; omega) | (split at he <;> first | omega | (have := inj _ _ (by omega) (by omega) he; omega)))
  · have hj : j < es.length - 1 := by have := (List.getElem?_eq_some_iff.mp he).1; omega
    rw [hrem, List.getElem?_dropLast] at he
    simp only [List.length_set] at he
    rw [if_pos hj, List.getElem?_set] at he
    have off : ∀ p l, p < 80 → Wl μ (b + 4 + 3 * p) l → Wl (sF (sA (sA (sO (sO μ (b + 1) i (some (b + 4 + 3 * π (es.length - 1)))) (b + 1) (es.length - 1) (some (b + 4 + 3 * π i))) (b + 2) i (nI (es[es.length - 1]'(by omega)).1)) (b + 3) i (nI (es[es.length - 1]'(by omega)).2.1)) b 3 (nI (es.length - 1))) (b + 4 + 3 * p) l := fun p l hp hl => hl.fx hFx (fun q => by have := q.2; omega) (fun q => by have := q.2; omega)
    by_cases c1 : i = j
    · subst c1
      rw [if_pos rfl, if_pos (by omega)] at he
      cases he
      refine ⟨?_, ?_, ?_, e4⟩
      · show up2 (up2 (mA μ) (b + 2) i _) (b + 3) i _ (b + 2) i = _
        rw [up2_a (by omega), up2_s]
      · show up2 (up2 (mA μ) (b + 2) i _) (b + 3) i _ (b + 3) i = _
        rw [up2_s]
      · show Wl _ (b + 4 + 3 * (if i = i then π (es.length - 1) else if i = es.length - 1 then π i else π i)) _
        rw [if_pos rfl]
        exact off _ _ p3 e3
    · rw [if_neg c1] at he
      obtain ⟨r1, r2, r3, r4⟩ := h5 j e he
      refine ⟨?_, ?_, ?_, r4⟩
      · show up2 (up2 (mA μ) (b + 2) i _) (b + 3) i _ (b + 2) j = _
        rw [up2_a (by omega), up2_k (fun q => c1 q.symm)]; exact r1
      · show up2 (up2 (mA μ) (b + 2) i _) (b + 3) i _ (b + 3) j = _
        rw [up2_k (fun q => c1 q.symm), up2_a (by omega)]; exact r2
      · show Wl _ (b + 4 + 3 * (if j = i then π (es.length - 1) else if j = es.length - 1 then π i else π j)) _
        rw [if_neg (fun q => c1 q.symm), if_neg (by omega)]
        exact off _ _ (h3 j (by omega)).1 r3
end BOOK2
