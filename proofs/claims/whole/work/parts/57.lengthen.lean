/-! NameDesk$Reader: lengthenRows -/
section LENGTHEN
variable {E : En} {μ : Mm} {K : Option Value → Mm → Prop}
theorem c_swapRows {r ra sa : Nat} (hk : mK μ r = 4) (hp : Rp μ r ra sa) (hra : mK μ ra = 14) (hsa : mK μ sa = 14) (k : K none (sP (sP μ r 4 (some sa)) r 5 (some ra))) : Cl E M_X3_swapRows [.ref r] μ K := by
  obtain ⟨p4, p5, _⟩ := hp
  refine Cl.of0 1 pn_X3 (Nat.le_of_ble_eq_true rfl) ⟨rfl, rfl⟩ rfl ?_
  refine e_al0 1 rfl dX3_swapRows_0 ?_
  refine e_getR 4 rfl dX3_swapRows_1 f_X3_30 (by assumption) (by assumption) ?_
  refine e_as1 5 rfl dX3_swapRows_4 (by decide) rfl ?_
  refine e_al0 6 rfl dX3_swapRows_5 ?_
  refine e_al0 7 rfl dX3_swapRows_6 ?_
  refine e_getR 10 rfl dX3_swapRows_7 f_X3_34 (by assumption) (by assumption) ?_
  refine e_putR 13 rfl dX3_swapRows_10 f_X3_30 (by assumption) rfl rfl (fun h => by cases h) ?_
  refine e_al0 14 rfl dX3_swapRows_13 ?_
  refine e_al1 15 rfl dX3_swapRows_14 ?_
  refine e_putR 18 rfl dX3_swapRows_15 f_X3_34 (by assumption) rfl rfl (fun h => by cases h) ?_
  refine e_ret dX3_swapRows_18 rfl ?_
  exact k
theorem Rst.fx {S : Nat → Prop} {μ' : Mm} {r s n : Nat} {sl : List Slot0} {C : Nat → Nat → Nat} (h : Rst μ r s n sl C) (f : Fx S μ μ') (hS : ∀ q, r + 10 ≤ q → q < r + 28 → ¬ S q) (hP : ∀ f, f ≠ 4 → f ≠ 5 → mP μ' r f = mP μ r f) (hf : mF μ' r 1 = mF μ r 1) : Rst μ' r s n sl C := by
  obtain ⟨⟨⟨gk, g2, g3, g7, k10, l10, k19, l19, k28, l28, k29, l29, k30, l30⟩, gw⟩, a2, a3, a4, a5, a6⟩ := h
  have o10 := (f.2.2.2 (r + 10) (hS _ (by omega) (by omega))).2.2.2.2.2
  have o19 := (f.2.2.2 (r + 19) (hS _ (by omega) (by omega))).2.2.2.2.2
  refine ⟨⟨?_, fun w hw => ?_⟩, by rw [hP 0 (by decide) (by decide)]; exact a2, by rw [hf]; exact a3, a4, fun w hw k hk => ?_, fun w hw i hi => ?_⟩
  · rw [hP 2 (by decide) (by decide), hP 3 (by decide) (by decide), hP 7 (by decide) (by decide), f.2.1, f.2.2.1]
    exact ⟨gk, g2, g3, g7, k10, l10, k19, l19, k28, l28, k29, l29, k30, l30⟩
  · rw [o10, o19, f.2.1, f.2.2.1]; exact gw w hw
  · rw [(f.2.2.2 (r + 11 + w) (hS _ (by omega) (by omega))).2.2.1]; exact a5 w hw k hk
  · rw [(f.2.2.2 (r + 20 + w) (hS _ (by omega) (by omega))).2.2.1]; exact a6 w hw i hi
theorem lenK_s (sl : List Slot0) (C : Nat → Nat → Nat) (f w : Nat) (x : Rw) (j : Nat) : lenK sl C f w x (j + 1) = lenK sl C f w x j ++ ifP (okR sl C f w x.2.2 j) [(x.1 + C w j, x.2.1 * 8 + j, stp sl x.2.2 j)] [] := by
  unfold lenK; rw [List.range_succ, List.flatMap_append]; simp
theorem lenK_mono (sl : List Slot0) (C : Nat → Nat → Nat) (f w : Nat) (x : Rw) (j : Nat) : ∀ d, (lenK sl C f w x j).length ≤ (lenK sl C f w x (j + d)).length := by
  intro d
  induction d with
  | zero => exact Nat.le_refl _
  | succ d ih => rw [← Nat.add_assoc, lenK_s, List.length_append]; omega
theorem c_lengthenRows {r s n w fm ra sa : Nat} {sl : List Slot0} {en : List Nat} {C : Nat → Nat → Nat} {R : List Rw} (hr : Rst μ r s n sl C) (hs : Vs μ s fm sl en) (hCb : ∀ w k, C w k ≤ 5 ∨ C w k = 1000) (hp : Rp μ r ra sa) (hw : w < n) (hR : HJ (mJ μ ra) R) (hRl : mF μ r 6 = nI R.length) (hR6 : R.length ≤ 6435) (hRo : ∀ x ∈ R, x.1 ≤ 5 * w ∧ x.2.1 < 8 ^ w ∧ Om sl x.2.2) (hT6 : (R.flatMap (fun x => lenK sl C (n - w - 1) w x 7)).length ≤ 6435) (d2 : s + 9 ≤ r ∨ r + 31 ≤ s)
    (k : ∀ μ', Fx (fun q => q = r ∨ q = r + 28 ∨ q = r + 29) μ μ' → Rst μ' r s n sl C → Rp μ' r sa ra → (∀ f, f ≠ 6 → mF μ' r f = mF μ r f) → (∀ f, f ≠ 4 → f ≠ 5 → mP μ' r f = mP μ r f) → mF μ' r 6 = nI (R.flatMap (fun x => lenK sl C (n - w - 1) w x 7)).length → HJ (mJ μ' sa) (R.flatMap (fun x => lenK sl C (n - w - 1) w x 7)) → K none μ') : Cl E M_X3_lengthenRows [.ref r, .int (nI w)] μ K := by
  obtain ⟨hg, hp0, hn, hn8, hC, hL⟩ := id hr
  have hs8 := hs.2.1.2.1
  have h7 := hs.2.1.h7
  have hgeo := hp.2.2
  obtain ⟨f, hf⟩ : ∃ f, f = n - w - 1 := ⟨_, rfl⟩
  rw [← hf] at k hT6
  have hf1 : n - (w + 1) = f := by omega
  have hpw : 8 ^ w ≤ 2 ^ 21 := by
    have : 8 ^ w ≤ 8 ^ 7 := Nat.pow_le_pow_right (by decide) (by omega)
    exact Nat.le_trans this (by decide)
  have keep : ∀ μ1, Fr (fun q => q = sa) μ μ1 → Rst μ1 r s n sl C ∧ Vs μ1 s fm sl en ∧ Rp μ1 r ra sa ∧ HJ (mJ μ1 ra) R ∧ mF μ1 r 6 = nI R.length ∧ (∀ f, mF μ1 r f = mF μ r f) := by
    intro μ1 hF
    have hfr := (hF.2.2.2.2.2 r (by omega)).1
    refine ⟨hr.fx hF.fx (fun q a b => by omega) (fun f _ _ => by rw [hF.2.2.2.1]) (by rw [hfr]), hs.fx hF.fx (fun q a b => by omega), by unfold Rp; rw [hF.2.2.2.1]; exact hp, by rw [(hF.2.2.2.2.2 ra (by omega)).2.2.2]; exact hR, by rw [hfr]; exact hRl, fun f => by rw [hfr]⟩
  have outer : ∀ (fu i : Nat), i + fu = R.length → ∀ μ1 y4 y5 y6 y7 y8 y9 y10 y11 y12, Fr (fun q => q = sa) μ μ1 → HJ (mJ μ1 sa) ((R.take i).flatMap (fun x => lenK sl C f w x 7)) → Ev E M_X3_lengthenRows 0 0 4 [some (.ref r), some (.int (nI w)), some (.int (nI ((R.take i).flatMap (fun x => lenK sl C f w x 7)).length)), some (.int (nI i)), y4, y5, y6, y7, y8, y9, y10, y11, y12] [] μ1 K := by
    intro fu
    induction fu with
    | zero =>
      intro i hi μ1 y4 y5 y6 y7 y8 y9 y10 y11 y12 hF hH
      obtain ⟨e1, e2, e3, e4, e5, e6⟩ := keep μ1 hF
      have rk := e1.1.1.1
      obtain ⟨⟨gk, g2, g3, g7, k10, l10, k19, l19, k28, l28, k29, l29, k30, l30⟩, gw⟩ := id e1.1
      rw [List.take_of_length_le (by omega)] at hH ⊢
      refine e_il3 5 rfl dX3_lengthenRows_4 ?_
      refine e_al0 6 rfl dX3_lengthenRows_5 ?_
      first | refine e_getIv 9 rfl dX3_lengthenRows_6 f_X3_37 (by assumption) (by first | assumption | (simp only [mN_sF, mK_sF, mL_sF, mF_sF, mB_sF, mA_sF, mJ_sF, mP_sF, mO_sF, mN_sB, mK_sB, mL_sB, mF_sB, mB_sB, mA_sB, mJ_sB, mP_sB, mO_sB, mN_sA, mK_sA, mL_sA, mF_sA, mB_sA, mA_sA, mJ_sA, mP_sA, mO_sA, mN_sJ, mK_sJ, mL_sJ, mF_sJ, mB_sJ, mA_sJ, mJ_sJ, mP_sJ, mO_sJ, mN_sP, mK_sP, mL_sP, mF_sP, mB_sP, mA_sP, mJ_sP, mP_sP, mO_sP, mN_sO, mK_sO, mL_sO, mF_sO, mB_sO, mA_sO, mJ_sO, mP_sO, mO_sO, up2, if_true, if_false, eq_self, ite_true, ite_false, reduceIte, Nat.add_left_cancel_iff, Nat.add_eq_left, Nat.left_eq_add, Nat.reduceEqDiff]; assumption) | (simp only [mN_sF, mK_sF, mL_sF, mF_sF, mB_sF, mA_sF, mJ_sF, mP_sF, mO_sF, mN_sB, mK_sB, mL_sB, mF_sB, mB_sB, mA_sB, mJ_sB, mP_sB, mO_sB, mN_sA, mK_sA, mL_sA, mF_sA, mB_sA, mA_sA, mJ_sA, mP_sA, mO_sA, mN_sJ, mK_sJ, mL_sJ, mF_sJ, mB_sJ, mA_sJ, mJ_sJ, mP_sJ, mO_sJ, mN_sP, mK_sP, mL_sP, mF_sP, mB_sP, mA_sP, mJ_sP, mP_sP, mO_sP, mN_sO, mK_sO, mL_sO, mF_sO, mB_sO, mA_sO, mJ_sO, mP_sO, mO_sO, up2, if_true, if_false, eq_self, ite_true, ite_false, reduceIte, Nat.add_left_cancel_iff, Nat.add_eq_left, Nat.left_eq_add, Nat.reduceEqDiff]; done)) ?_ | refine e_getI 9 rfl dX3_lengthenRows_6 f_X3_37 (by assumption) ?_
      first | refine e_cmp_geN 155 12 (by decide) rfl dX3_lengthenRows_9 rfl rfl (by omega) (by omega) (fun h1 => ?_) (fun h1 => ?_) | refine e_cmp_ge 155 12 (by decide) rfl dX3_lengthenRows_9 (fun h1 => ?_) (fun h1 => ?_)
      rotate_left
      · omega
      refine e_al0 156 rfl dX3_lengthenRows_155 ?_
      refine e_invV0 [] 159 rfl dX3_lengthenRows_156 k_X3_109 mo_X3_swapRows rm_X3_lengthenRows_X3_swapRows ⟨rfl, rfl⟩ rfl rfl (by assumption) (Nat.le_of_ble_eq_true rfl) ?_
      refine c_swapRows rk e3 (by rcases hgeo with q | q <;> rw [q.1] <;> assumption) (by rcases hgeo with q | q <;> rw [q.2] <;> assumption) ?_
      have rk2 : mK (sP (sP μ1 r 4 (some sa)) r 5 (some ra)) r = 4 := rk
      refine e_al0 160 rfl dX3_lengthenRows_159 ?_
      refine e_il2 161 rfl dX3_lengthenRows_160 ?_
      refine e_putI 164 rfl dX3_lengthenRows_161 f_X3_37 (by assumption) ?_
      refine e_ret dX3_lengthenRows_164 rfl ?_
      have hX : Fx (fun q => q = r ∨ q = r + 28 ∨ q = r + 29) μ (sF (sP (sP μ1 r 4 (some sa)) r 5 (some ra)) r 6 (nI (R.flatMap (fun x => lenK sl C f w x 7)).length)) := (((hF.fx.mono (fun q h => by rcases hgeo with z | z <;> omega)).sP (Or.inl rfl) _ _).sP (Or.inl rfl) _ _).sF (Or.inl rfl) _ _
      have hPP : ∀ f, f ≠ 4 → f ≠ 5 → mP (sF (sP (sP μ1 r 4 (some sa)) r 5 (some ra)) r 6 (nI (R.flatMap (fun x => lenK sl C f w x 7)).length)) r f = mP μ r f := by
        intro q a b
        show up2 (up2 _ r 4 _) r 5 _ r q = _
        rw [up2_k b, up2_k a, hF.2.2.2.1]
      have hFF : ∀ g, g ≠ 6 → mF (sF (sP (sP μ1 r 4 (some sa)) r 5 (some ra)) r 6 (nI (R.flatMap (fun x => lenK sl C f w x 7)).length)) r g = mF μ r g := by
        intro g a
        show up2 _ r 6 _ r g = _
        rw [up2_k a]; exact e6 g
      refine k _ hX (hr.fx hX (fun q a b => by omega) (fun g a b => ?_) (hFF 1 (by decide))) ⟨?_, ?_, by omega⟩ hFF (fun g a b => ?_) (by simp only [mN_sF, mK_sF, mL_sF, mF_sF, mB_sF, mA_sF, mJ_sF, mP_sF, mO_sF, mN_sB, mK_sB, mL_sB, mF_sB, mB_sB, mA_sB, mJ_sB, mP_sB, mO_sB, mN_sA, mK_sA, mL_sA, mF_sA, mB_sA, mA_sA, mJ_sA, mP_sA, mO_sA, mN_sJ, mK_sJ, mL_sJ, mF_sJ, mB_sJ, mA_sJ, mJ_sJ, mP_sJ, mO_sJ, mN_sP, mK_sP, mL_sP, mF_sP, mB_sP, mA_sP, mJ_sP, mP_sP, mO_sP, mN_sO, mK_sO, mL_sO, mF_sO, mB_sO, mA_sO, mJ_sO, mP_sO, mO_sO, up2, if_true, if_false, eq_self, ite_true, ite_false, reduceIte, Nat.add_left_cancel_iff, Nat.add_eq_left, Nat.left_eq_add, Nat.reduceEqDiff]) hH
      · show up2 (up2 _ r 4 _) r 5 _ r g = _
        rw [up2_k b, up2_k a, hF.2.2.2.1]
      · simp only [mN_sF, mK_sF, mL_sF, mF_sF, mB_sF, mA_sF, mJ_sF, mP_sF, mO_sF, mN_sB, mK_sB, mL_sB, mF_sB, mB_sB, mA_sB, mJ_sB, mP_sB, mO_sB, mN_sA, mK_sA, mL_sA, mF_sA, mB_sA, mA_sA, mJ_sA, mP_sA, mO_sA, mN_sJ, mK_sJ, mL_sJ, mF_sJ, mB_sJ, mA_sJ, mJ_sJ, mP_sJ, mO_sJ, mN_sP, mK_sP, mL_sP, mF_sP, mB_sP, mA_sP, mJ_sP, mP_sP, mO_sP, mN_sO, mK_sO, mL_sO, mF_sO, mB_sO, mA_sO, mJ_sO, mP_sO, mO_sO, up2, if_true, if_false, eq_self, ite_true, ite_false, reduceIte, Nat.add_left_cancel_iff, Nat.add_eq_left, Nat.left_eq_add, Nat.reduceEqDiff]
      · simp only [mN_sF, mK_sF, mL_sF, mF_sF, mB_sF, mA_sF, mJ_sF, mP_sF, mO_sF, mN_sB, mK_sB, mL_sB, mF_sB, mB_sB, mA_sB, mJ_sB, mP_sB, mO_sB, mN_sA, mK_sA, mL_sA, mF_sA, mB_sA, mA_sA, mJ_sA, mP_sA, mO_sA, mN_sJ, mK_sJ, mL_sJ, mF_sJ, mB_sJ, mA_sJ, mJ_sJ, mP_sJ, mO_sJ, mN_sP, mK_sP, mL_sP, mF_sP, mB_sP, mA_sP, mJ_sP, mP_sP, mO_sP, mN_sO, mK_sO, mL_sO, mF_sO, mB_sO, mA_sO, mJ_sO, mP_sO, mO_sO, up2, if_true, if_false, eq_self, ite_true, ite_false, reduceIte, Nat.add_left_cancel_iff, Nat.add_eq_left, Nat.left_eq_add, Nat.reduceEqDiff]
      · show up2 (up2 _ r 4 _) r 5 _ r g = _
        rw [up2_k b, up2_k a, hF.2.2.2.1]
    | succ fu ih =>
      intro i hi μ1 y4 y5 y6 y7 y8 y9 y10 y11 y12 hF hH
      have hil : i < R.length := by omega
      have hx := List.getElem?_eq_getElem hil
      obtain ⟨x1, x2, x3⟩ := hRo R[i] (List.getElem_mem hil)
      have hok : eOK R[i] := ⟨by omega, by omega, x3.1⟩
      have hTs : (R.take (i + 1)).flatMap (fun x => lenK sl C f w x 7) = (R.take i).flatMap (fun x => lenK sl C f w x 7) ++ lenK sl C f w R[i] 7 := by
        rw [List.take_succ_eq_append_getElem hil, List.flatMap_append]; simp
      have hTl : ((R.take i).flatMap (fun x => lenK sl C f w x 7) ++ lenK sl C f w R[i] 7).length ≤ 6435 := by
        rw [← hTs]
        refine Nat.le_trans ?_ hT6
        conv => rhs; rw [← List.take_append_drop (i + 1) R, List.flatMap_append, List.length_append]
        omega
      have inner : ∀ (gu j : Nat), j + gu = 7 → ∀ μ1 y8 y9 y10 y11 y12, Fr (fun q => q = sa) μ μ1 → HJ (mJ μ1 sa) ((R.take i).flatMap (fun x => lenK sl C f w x 7) ++ lenK sl C f w R[i] j) → Ev E M_X3_lengthenRows 0 0 32 [some (.ref r), some (.int (nI w)), some (.int (nI ((R.take i).flatMap (fun x => lenK sl C f w x 7) ++ lenK sl C f w R[i] j).length)), some (.int (nI i)), some (.long (nL (enc R[i]))), none, some (.int (nI R[i].2.2)), some (.int (nI j)), y8, y9, y10, y11, y12] [] μ1 K := by
        intro gu
        induction gu with
        | zero =>
          intro j hj μ1 y8 y9 y10 y11 y12 hF hH
          have ej : j = 7 := by omega
          subst ej
          refine e_il7 34 rfl dX3_lengthenRows_32 ?_
          refine e_bipush (nI 7) 36 rfl dX3_lengthenRows_34 bc_7 ?_
          first | refine e_cmp_geN 149 39 (by decide) rfl dX3_lengthenRows_36 rfl rfl (by omega) (by omega) (fun h1 => ?_) (fun h1 => ?_) | refine e_cmp_ge 149 39 (by decide) rfl dX3_lengthenRows_36 (fun h1 => ?_) (fun h1 => ?_)
          rotate_left
          · omega
          refine e_ii3 (nI (_ + 1)) 152 rfl dX3_lengthenRows_149 (ii1 _) rfl ?_
          refine e_goto 4 (by decide) dX3_lengthenRows_152 ?_
          rw [← hTs] at hH ⊢
          exact ih (i + 1) (by omega) μ1 _ _ _ _ _ _ _ _ _ hF hH
        | succ gu ihg =>
          intro j hj μ1 y8 y9 y10 y11 y12 hF hH
          obtain ⟨e1, e2, e3, e4, e5, e6⟩ := keep μ1 hF
          obtain ⟨a1, a2, a3, a4, a5, a6⟩ := id e1
          obtain ⟨⟨gk, g2, g3, g7, k10, l10, k19, l19, k28, l28, k29, l29, k30, l30⟩, gw⟩ := id a1
          obtain ⟨p4, p5, _⟩ := id e3
          have sk := e2.1.1.1
          have hsk : mK μ1 sa = 14 := by rcases hgeo with q | q <;> rw [q.2] <;> assumption
          have hsl : mL μ1 sa = 6435 := by rcases hgeo with q | q <;> rw [q.2] <;> assumption
          obtain ⟨⟨w1, w2, w3⟩, w4, w5, w6⟩ := gw w (by omega)
          have hcj : C w j ≤ 1000 := by rcases hCb w j with q | q <;> omega
          have hcw := a5 w hw j (by omega)
          have ho5 := x3.1
          have hmono := lenK_mono sl C f w R[i] (j + 1) (7 - (j + 1))
          rw [show j + 1 + (7 - (j + 1)) = 7 by omega] at hmono
          rw [List.length_append] at hTl
          have hls := lenK_s sl C f w R[i] j
          have skip : ¬ okR sl C f w R[i].2.2 j → ∀ y8 y9 y10 y11 y12, Ev E M_X3_lengthenRows 0 0 143 [some (.ref r), some (.int (nI w)), some (.int (nI ((R.take i).flatMap (fun x => lenK sl C f w x 7) ++ lenK sl C f w R[i] j).length)), some (.int (nI i)), some (.long (nL (enc R[i]))), none, some (.int (nI R[i].2.2)), some (.int (nI j)), y8, y9, y10, y11, y12] [] μ1 K := by
            intro hno y8 y9 y10 y11 y12
            rw [ifP_f hno, List.append_nil] at hls
            refine e_ii7 (nI (_ + 1)) 146 rfl dX3_lengthenRows_143 (ii1 _) rfl ?_
            refine e_goto 32 (by decide) dX3_lengthenRows_146 ?_
            rw [← hls]
            exact ihg (j + 1) (by omega) μ1 _ _ _ _ _ hF (by rw [hls]; exact hH)
          refine e_il7 34 rfl dX3_lengthenRows_32 ?_
          refine e_bipush (nI 7) 36 rfl dX3_lengthenRows_34 bc_7 ?_
          first | refine e_cmp_geN 149 39 (by decide) rfl dX3_lengthenRows_36 rfl rfl (by omega) (by omega) (fun h1 => ?_) (fun h1 => ?_) | refine e_cmp_ge 149 39 (by decide) rfl dX3_lengthenRows_36 (fun h1 => ?_) (fun h1 => ?_)
          · omega
          refine e_al0 40 rfl dX3_lengthenRows_39 ?_
          refine e_getR 43 rfl dX3_lengthenRows_40 f_X3_12 (by assumption) (by assumption) ?_
          refine e_il6 45 rfl dX3_lengthenRows_43 ?_
          refine e_il7 47 rfl dX3_lengthenRows_45 ?_
          refine e_invV0 [_, _] 50 rfl dX3_lengthenRows_47 k_X3_97 mo_X4_openBehind rm_X3_lengthenRows_X4_openBehind ⟨rfl, rfl⟩ rfl rfl (by assumption) (Nat.le_of_ble_eq_true rfl) ?_
          refine c_openBehind e2.1 hs8 e2.2.2.2.2.1 ho5 (by omega) (fun v hv hvb => ?_)
          have ev : v = stp sl R[i].2.2 j := msk_of hv hvb
          refine e_is8 52 rfl dX3_lengthenRows_50 (by decide) rfl ?_
          refine e_al0 53 rfl dX3_lengthenRows_52 ?_
          refine e_getR 56 rfl dX3_lengthenRows_53 f_X3_24 (by assumption) (by assumption) ?_
          refine e_il1 57 rfl dX3_lengthenRows_56 ?_
          refine e_aald 58 rfl dX3_lengthenRows_57 (by assumption) (by decide) (by assumption) (by first | rfl | simp only [pk_mul, nI_add]) (by omega) (by omega) (by assumption) ?_
          refine e_il7 60 rfl dX3_lengthenRows_58 ?_
          first | refine e_ialdv 61 rfl dX3_lengthenRows_60 (by assumption) (by assumption) (by first | rfl | simp only [pk_mul, nI_add]) (by omega) (by omega) (by first | assumption | (simp only [mN_sF, mK_sF, mL_sF, mF_sF, mB_sF, mA_sF, mJ_sF, mP_sF, mO_sF, mN_sB, mK_sB, mL_sB, mF_sB, mB_sB, mA_sB, mJ_sB, mP_sB, mO_sB, mN_sA, mK_sA, mL_sA, mF_sA, mB_sA, mA_sA, mJ_sA, mP_sA, mO_sA, mN_sJ, mK_sJ, mL_sJ, mF_sJ, mB_sJ, mA_sJ, mJ_sJ, mP_sJ, mO_sJ, mN_sP, mK_sP, mL_sP, mF_sP, mB_sP, mA_sP, mJ_sP, mP_sP, mO_sP, mN_sO, mK_sO, mL_sO, mF_sO, mB_sO, mA_sO, mJ_sO, mP_sO, mO_sO, up2, if_true, if_false, eq_self, ite_true, ite_false, reduceIte, Nat.add_left_cancel_iff, Nat.add_eq_left, Nat.left_eq_add, Nat.reduceEqDiff]; assumption) | (simp only [mN_sF, mK_sF, mL_sF, mF_sF, mB_sF, mA_sF, mJ_sF, mP_sF, mO_sF, mN_sB, mK_sB, mL_sB, mF_sB, mB_sB, mA_sB, mJ_sB, mP_sB, mO_sB, mN_sA, mK_sA, mL_sA, mF_sA, mB_sA, mA_sA, mJ_sA, mP_sA, mO_sA, mN_sJ, mK_sJ, mL_sJ, mF_sJ, mB_sJ, mA_sJ, mJ_sJ, mP_sJ, mO_sJ, mN_sP, mK_sP, mL_sP, mF_sP, mB_sP, mA_sP, mJ_sP, mP_sP, mO_sP, mN_sO, mK_sO, mL_sO, mF_sO, mB_sO, mA_sO, mJ_sO, mP_sO, mO_sO, up2, if_true, if_false, eq_self, ite_true, ite_false, reduceIte, Nat.add_left_cancel_iff, Nat.add_eq_left, Nat.left_eq_add, Nat.reduceEqDiff]; done)) ?_ | refine e_iald 61 rfl dX3_lengthenRows_60 (by assumption) (by assumption) (by first | rfl | simp only [pk_mul, nI_add]) (by omega) (by omega) ?_
          refine e_al0 62 rfl dX3_lengthenRows_61 ?_
          refine e_il1 63 rfl dX3_lengthenRows_62 ?_
          refine e_iconst (nI 1) 64 rfl dX3_lengthenRows_63 ic_1 ?_
          first | refine e_iaddN 65 rfl dX3_lengthenRows_64 rfl rfl ?_ | refine e_iadd 65 rfl dX3_lengthenRows_64 ?_
          refine e_il8 67 rfl dX3_lengthenRows_65 ?_
          refine e_invV0 [_, _] 70 rfl dX3_lengthenRows_67 k_X3_73 mo_X3_leastFrom rm_X3_lengthenRows_X3_leastFrom ⟨rfl, rfl⟩ rfl rfl (by assumption) (Nat.le_of_ble_eq_true rfl) ?_
          refine c_leastFrom (C := C) a1 a3 hn8 (by omega) hs8 h7 (by rw [ev]; exact Om_stp hs8 _ j) (fun q => a6 (w + 1) q) (fun t ht => ?_)
          rw [hf1, ev] at ht
          have htl := ht.le
          have hokR : okR sl C f w R[i].2.2 j ↔ C w j + t < 1000 := by
            unfold okR
            rw [← ht.lt]
            rcases hCb w j with q | q <;> rcases ht with q2 | q2 <;> omega
          first | refine e_iaddN 71 rfl dX3_lengthenRows_70 rfl rfl ?_ | refine e_iadd 71 rfl dX3_lengthenRows_70 ?_
          refine e_sipush (nI 1000) 74 rfl dX3_lengthenRows_71 sc_1000 ?_
          first | refine e_cmp_geN 143 77 (by decide) rfl dX3_lengthenRows_74 rfl rfl (by omega) (by omega) (fun h2 => ?_) (fun h2 => ?_) | refine e_cmp_ge 143 77 (by decide) rfl dX3_lengthenRows_74 (fun h2 => ?_) (fun h2 => ?_)
          · exact skip (fun q => by have := hokR.mp q; omega) _ _ _ _ _
          have hyes := hokR.mpr (by omega)
          rw [ifP_t hyes] at hls
          have hlen : ((R.take i).flatMap (fun x => lenK sl C f w x 7) ++ lenK sl C f w R[i] j).length < 6435 := by
            rw [hls, List.length_append] at hmono
            rw [List.length_append]
            simp at hmono
            omega
          refine e_il2 78 rfl dX3_lengthenRows_77 ?_
          refine e_sipush (nI 6435) 81 rfl dX3_lengthenRows_78 sc_6435 ?_
          first | refine e_cmp_geN 143 84 (by decide) rfl dX3_lengthenRows_81 rfl rfl (by omega) (by omega) (fun h3 => ?_) (fun h3 => ?_) | refine e_cmp_ge 143 84 (by decide) rfl dX3_lengthenRows_81 (fun h3 => ?_) (fun h3 => ?_)
          · omega
          have hcl : C w j ≤ 5 := by rcases hCb w j with q | q <;> omega
          have henc := enc_lt hok
          have hm8 : R[i].2.1 * 8 + j < 2 ^ 24 := by omega
          have hvl := hv
          refine e_ll4 86 rfl dX3_lengthenRows_84 ?_
          refine e_bipush (nI 40) 88 rfl dX3_lengthenRows_86 bc_40 ?_
          refine e_lshrN 89 rfl dX3_lengthenRows_88 rfl rfl henc (by decide) ?_
          refine e_al0 90 rfl dX3_lengthenRows_89 ?_
          refine e_getR 93 rfl dX3_lengthenRows_90 f_X3_24 (by assumption) (by assumption) ?_
          refine e_il1 94 rfl dX3_lengthenRows_93 ?_
          refine e_aald 95 rfl dX3_lengthenRows_94 (by assumption) (by decide) (by assumption) (by first | rfl | simp only [pk_mul, nI_add]) (by omega) (by omega) (by assumption) ?_
          refine e_il7 97 rfl dX3_lengthenRows_95 ?_
          first | refine e_ialdv 98 rfl dX3_lengthenRows_97 (by assumption) (by assumption) (by first | rfl | simp only [pk_mul, nI_add]) (by omega) (by omega) (by first | assumption | (simp only [mN_sF, mK_sF, mL_sF, mF_sF, mB_sF, mA_sF, mJ_sF, mP_sF, mO_sF, mN_sB, mK_sB, mL_sB, mF_sB, mB_sB, mA_sB, mJ_sB, mP_sB, mO_sB, mN_sA, mK_sA, mL_sA, mF_sA, mB_sA, mA_sA, mJ_sA, mP_sA, mO_sA, mN_sJ, mK_sJ, mL_sJ, mF_sJ, mB_sJ, mA_sJ, mJ_sJ, mP_sJ, mO_sJ, mN_sP, mK_sP, mL_sP, mF_sP, mB_sP, mA_sP, mJ_sP, mP_sP, mO_sP, mN_sO, mK_sO, mL_sO, mF_sO, mB_sO, mA_sO, mJ_sO, mP_sO, mO_sO, up2, if_true, if_false, eq_self, ite_true, ite_false, reduceIte, Nat.add_left_cancel_iff, Nat.add_eq_left, Nat.left_eq_add, Nat.reduceEqDiff]; assumption) | (simp only [mN_sF, mK_sF, mL_sF, mF_sF, mB_sF, mA_sF, mJ_sF, mP_sF, mO_sF, mN_sB, mK_sB, mL_sB, mF_sB, mB_sB, mA_sB, mJ_sB, mP_sB, mO_sB, mN_sA, mK_sA, mL_sA, mF_sA, mB_sA, mA_sA, mJ_sA, mP_sA, mO_sA, mN_sJ, mK_sJ, mL_sJ, mF_sJ, mB_sJ, mA_sJ, mJ_sJ, mP_sJ, mO_sJ, mN_sP, mK_sP, mL_sP, mF_sP, mB_sP, mA_sP, mJ_sP, mP_sP, mO_sP, mN_sO, mK_sO, mL_sO, mF_sO, mB_sO, mA_sO, mJ_sO, mP_sO, mO_sO, up2, if_true, if_false, eq_self, ite_true, ite_false, reduceIte, Nat.add_left_cancel_iff, Nat.add_eq_left, Nat.left_eq_add, Nat.reduceEqDiff]; done)) ?_ | refine e_iald 98 rfl dX3_lengthenRows_97 (by assumption) (by assumption) (by first | rfl | simp only [pk_mul, nI_add]) (by omega) (by omega) ?_
          refine e_i2lN 99 rfl dX3_lengthenRows_98 rfl (by omega) ?_
          refine e_laddN 100 rfl dX3_lengthenRows_99 rfl rfl ?_
          refine e_ls9 102 rfl dX3_lengthenRows_100 (by decide) rfl ?_
          refine e_ll4 104 rfl dX3_lengthenRows_102 ?_
          refine e_bipush (nI 12) 106 rfl dX3_lengthenRows_104 bc_12 ?_
          refine e_lshrN 107 rfl dX3_lengthenRows_106 rfl rfl henc (by decide) ?_
          refine e_ldc2 16777215 110 rfl dX3_lengthenRows_107 kl_107 ?_
          refine e_landN (b := 16777215) 111 rfl dX3_lengthenRows_110 rfl (by decide) ?_
          refine e_iconst (nI 3) 112 rfl dX3_lengthenRows_111 ic_3 ?_
          refine e_lshlN 113 rfl dX3_lengthenRows_112 rfl rfl (by decide) ?_
          refine e_il7 115 rfl dX3_lengthenRows_113 ?_
          refine e_i2lN 116 rfl dX3_lengthenRows_115 rfl (by omega) ?_
          refine e_lorN 117 rfl dX3_lengthenRows_116 rfl rfl ?_
          refine e_ls11 119 rfl dX3_lengthenRows_117 (by decide) rfl ?_
          refine e_al0 120 rfl dX3_lengthenRows_119 ?_
          refine e_getR 123 rfl dX3_lengthenRows_120 f_X3_34 (by assumption) (by assumption) ?_
          refine e_il2 124 rfl dX3_lengthenRows_123 ?_
          refine e_ll9 126 rfl dX3_lengthenRows_124 ?_
          refine e_bipush (nI 40) 128 rfl dX3_lengthenRows_126 bc_40 ?_
          refine e_lshlN 129 rfl dX3_lengthenRows_128 rfl rfl (by decide) ?_
          refine e_ll11 131 rfl dX3_lengthenRows_129 ?_
          refine e_bipush (nI 12) 133 rfl dX3_lengthenRows_131 bc_12 ?_
          refine e_lshlN 134 rfl dX3_lengthenRows_133 rfl rfl (by decide) ?_
          refine e_lorN 135 rfl dX3_lengthenRows_134 rfl rfl ?_
          refine e_il8 137 rfl dX3_lengthenRows_135 ?_
          refine e_i2lN 138 rfl dX3_lengthenRows_137 rfl (by omega) ?_
          refine e_lorN 139 rfl dX3_lengthenRows_138 rfl rfl ?_
          refine e_last 140 rfl dX3_lengthenRows_139 (by assumption) (by assumption) (by first | rfl | simp only [pk_mul, nI_add]) (by omega) (by omega) ?_
          refine e_ii2 (nI (_ + 1)) 143 rfl dX3_lengthenRows_140 (ii1 _) rfl ?_
          rw [enc_c hok, enc_m hok, show R[i].2.1 * 2 ^ 3 ||| j = R[i].2.1 * 8 + j from or_sum (i := 3) (by omega), enc_mk hm8 (by omega)]
          refine e_ii7 (nI (_ + 1)) 146 rfl dX3_lengthenRows_143 (ii1 _) rfl ?_
          refine e_goto 32 (by decide) dX3_lengthenRows_146 ?_
          have happ : (R.take i).flatMap (fun x => lenK sl C f w x 7) ++ lenK sl C f w R[i] (j + 1) = ((R.take i).flatMap (fun x => lenK sl C f w x 7) ++ lenK sl C f w R[i] j) ++ [(R[i].1 + C w j, R[i].2.1 * 8 + j, stp sl R[i].2.2 j)] := by rw [hls, List.append_assoc]
          have hl1 : ((R.take i).flatMap (fun x => lenK sl C f w x 7) ++ lenK sl C f w R[i] j).length + 1 = ((R.take i).flatMap (fun x => lenK sl C f w x 7) ++ lenK sl C f w R[i] (j + 1)).length := by rw [happ, List.length_append (as := _ ++ _)]; rfl
          rw [hl1]
          refine ihg (j + 1) (by omega) _ _ _ _ _ _ (hF.sJ rfl _ _) ?_
          rw [happ]
          refine hH.push (fun q hq => ?_) ?_
          · show up2 _ sa _ _ sa q = _
            rw [up2_k (by omega)]
          · show up2 _ sa _ _ sa _ = _
            rw [up2_s, ev]
      obtain ⟨e1, e2, e3, e4, e5, e6⟩ := keep μ1 hF
      obtain ⟨⟨gk, g2, g3, g7, k10, l10, k19, l19, k28, l28, k29, l29, k30, l30⟩, gw⟩ := id e1.1
      obtain ⟨p4, p5, _⟩ := id e3
      have hrk : mK μ1 ra = 14 := by rcases hgeo with q | q <;> rw [q.1] <;> assumption
      have hrl : mL μ1 ra = 6435 := by rcases hgeo with q | q <;> rw [q.1] <;> assumption
      have hv := e4 i _ hx
      refine e_il3 5 rfl dX3_lengthenRows_4 ?_
      refine e_al0 6 rfl dX3_lengthenRows_5 ?_
      first | refine e_getIv 9 rfl dX3_lengthenRows_6 f_X3_37 (by assumption) (by first | assumption | (simp only [mN_sF, mK_sF, mL_sF, mF_sF, mB_sF, mA_sF, mJ_sF, mP_sF, mO_sF, mN_sB, mK_sB, mL_sB, mF_sB, mB_sB, mA_sB, mJ_sB, mP_sB, mO_sB, mN_sA, mK_sA, mL_sA, mF_sA, mB_sA, mA_sA, mJ_sA, mP_sA, mO_sA, mN_sJ, mK_sJ, mL_sJ, mF_sJ, mB_sJ, mA_sJ, mJ_sJ, mP_sJ, mO_sJ, mN_sP, mK_sP, mL_sP, mF_sP, mB_sP, mA_sP, mJ_sP, mP_sP, mO_sP, mN_sO, mK_sO, mL_sO, mF_sO, mB_sO, mA_sO, mJ_sO, mP_sO, mO_sO, up2, if_true, if_false, eq_self, ite_true, ite_false, reduceIte, Nat.add_left_cancel_iff, Nat.add_eq_left, Nat.left_eq_add, Nat.reduceEqDiff]; assumption) | (simp only [mN_sF, mK_sF, mL_sF, mF_sF, mB_sF, mA_sF, mJ_sF, mP_sF, mO_sF, mN_sB, mK_sB, mL_sB, mF_sB, mB_sB, mA_sB, mJ_sB, mP_sB, mO_sB, mN_sA, mK_sA, mL_sA, mF_sA, mB_sA, mA_sA, mJ_sA, mP_sA, mO_sA, mN_sJ, mK_sJ, mL_sJ, mF_sJ, mB_sJ, mA_sJ, mJ_sJ, mP_sJ, mO_sJ, mN_sP, mK_sP, mL_sP, mF_sP, mB_sP, mA_sP, mJ_sP, mP_sP, mO_sP, mN_sO, mK_sO, mL_sO, mF_sO, mB_sO, mA_sO, mJ_sO, mP_sO, mO_sO, up2, if_true, if_false, eq_self, ite_true, ite_false, reduceIte, Nat.add_left_cancel_iff, Nat.add_eq_left, Nat.left_eq_add, Nat.reduceEqDiff]; done)) ?_ | refine e_getI 9 rfl dX3_lengthenRows_6 f_X3_37 (by assumption) ?_
      first | refine e_cmp_geN 155 12 (by decide) rfl dX3_lengthenRows_9 rfl rfl (by omega) (by omega) (fun h1 => ?_) (fun h1 => ?_) | refine e_cmp_ge 155 12 (by decide) rfl dX3_lengthenRows_9 (fun h1 => ?_) (fun h1 => ?_)
      · omega
      refine e_al0 13 rfl dX3_lengthenRows_12 ?_
      refine e_getR 16 rfl dX3_lengthenRows_13 f_X3_30 (by assumption) (by assumption) ?_
      refine e_il3 17 rfl dX3_lengthenRows_16 ?_
      first | refine e_laldv 18 rfl dX3_lengthenRows_17 (by assumption) (by assumption) (by first | rfl | simp only [pk_mul, nI_add]) (by omega) (by omega) (by first | assumption | (simp only [mN_sF, mK_sF, mL_sF, mF_sF, mB_sF, mA_sF, mJ_sF, mP_sF, mO_sF, mN_sB, mK_sB, mL_sB, mF_sB, mB_sB, mA_sB, mJ_sB, mP_sB, mO_sB, mN_sA, mK_sA, mL_sA, mF_sA, mB_sA, mA_sA, mJ_sA, mP_sA, mO_sA, mN_sJ, mK_sJ, mL_sJ, mF_sJ, mB_sJ, mA_sJ, mJ_sJ, mP_sJ, mO_sJ, mN_sP, mK_sP, mL_sP, mF_sP, mB_sP, mA_sP, mJ_sP, mP_sP, mO_sP, mN_sO, mK_sO, mL_sO, mF_sO, mB_sO, mA_sO, mJ_sO, mP_sO, mO_sO, up2, if_true, if_false, eq_self, ite_true, ite_false, reduceIte, Nat.add_left_cancel_iff, Nat.add_eq_left, Nat.left_eq_add, Nat.reduceEqDiff]; assumption) | (simp only [mN_sF, mK_sF, mL_sF, mF_sF, mB_sF, mA_sF, mJ_sF, mP_sF, mO_sF, mN_sB, mK_sB, mL_sB, mF_sB, mB_sB, mA_sB, mJ_sB, mP_sB, mO_sB, mN_sA, mK_sA, mL_sA, mF_sA, mB_sA, mA_sA, mJ_sA, mP_sA, mO_sA, mN_sJ, mK_sJ, mL_sJ, mF_sJ, mB_sJ, mA_sJ, mJ_sJ, mP_sJ, mO_sJ, mN_sP, mK_sP, mL_sP, mF_sP, mB_sP, mA_sP, mJ_sP, mP_sP, mO_sP, mN_sO, mK_sO, mL_sO, mF_sO, mB_sO, mA_sO, mJ_sO, mP_sO, mO_sO, up2, if_true, if_false, eq_self, ite_true, ite_false, reduceIte, Nat.add_left_cancel_iff, Nat.add_eq_left, Nat.left_eq_add, Nat.reduceEqDiff]; done)) ?_ | refine e_lald 18 rfl dX3_lengthenRows_17 (by assumption) (by assumption) (by first | rfl | simp only [pk_mul, nI_add]) (by omega) (by omega) ?_
      refine e_ls4 20 rfl dX3_lengthenRows_18 (by decide) rfl ?_
      refine e_ll4 22 rfl dX3_lengthenRows_20 ?_
      refine e_l2iN 23 rfl dX3_lengthenRows_22 rfl ?_
      refine e_sipush (nI 511) 26 rfl dX3_lengthenRows_23 sc_511 ?_
      refine e_iandN 27 rfl dX3_lengthenRows_26 rfl rfl ?_
      refine e_is6 29 rfl dX3_lengthenRows_27 (by decide) rfl ?_
      refine e_iconst (nI 0) 30 rfl dX3_lengthenRows_29 ic_0 ?_
      refine e_is7 32 rfl dX3_lengthenRows_30 (by decide) rfl ?_
      rw [enc_o hok]
      have h0 : lenK sl C f w R[i] 0 = [] := rfl
      have := inner 7 0 (by omega) μ1 y8 y9 y10 y11 y12 hF (by rw [h0, List.append_nil]; exact hH)
      rw [h0, List.append_nil] at this
      exact this
  refine Cl.of0 11 pn_X3 (Nat.le_of_ble_eq_true rfl) ⟨rfl, rfl⟩ rfl ?_
  refine e_iconst (nI 0) 1 rfl dX3_lengthenRows_0 ic_0 ?_
  refine e_is2 2 rfl dX3_lengthenRows_1 (by decide) rfl ?_
  refine e_iconst (nI 0) 3 rfl dX3_lengthenRows_2 ic_0 ?_
  refine e_is3 4 rfl dX3_lengthenRows_3 (by decide) rfl ?_
  exact outer R.length 0 (by omega) μ _ _ _ _ _ _ _ _ _ Fr.rf (fun i x h => by simp at h)
end LENGTHEN
