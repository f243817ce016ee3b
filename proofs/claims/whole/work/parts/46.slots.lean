/-! NameDesk$ShapeText.readSlots -/
section SLOTS
variable {E : En} {μ : Mm} {K : Option Value → Mm → Prop}
theorem how_skp (o : Option Nat) : skp (howOf o) = true ↔ o = some 63 ∨ o = some 42 := by
  unfold howOf
  by_cases h1 : o = some 63
  · simp [h1, skp]
  · by_cases h2 : o = some 42
    · simp [h2, skp]
    · by_cases h3 : o = some 43
      · simp [h3, skp]
      · simp [h1, h2, h3, skp]
theorem how_rpt (o : Option Nat) : rpt (howOf o) = true ↔ o = some 42 ∨ o = some 43 := by
  unfold howOf
  by_cases h1 : o = some 63
  · simp [h1, rpt]
  · by_cases h2 : o = some 42
    · simp [h2, rpt]
    · by_cases h3 : o = some 43
      · simp [h3, rpt]
      · simp [h1, h2, h3, rpt]
theorem how_0 (o : Option Nat) : howOf o = 0 ↔ skp (howOf o) = false ∧ rpt (howOf o) = false := by
  have := howOf_lt o
  generalize howOf o = h at *
  match h, this with
  | 0, _ => decide
  | 1, _ => decide
  | 2, _ => decide
  | 3, _ => decide
theorem c_readSlots (KH : KHere E) {a t s : Nat} {l : List Nat} (hX : Xt μ a t l 0) (hg : Sg μ s) (hda : ∀ q, q ≤ 8 → a ≠ s + q) (hdt : ∀ q, q ≤ 8 → t ≠ s + q) (hat : a ≠ t)
    (kt : ∀ p sl, pSl l 8 0 [] = .inr (p, sl) → ∀ μ', Fr (rS a s) μ μ' → (∀ f, f ≠ 0 → mF μ' s f = mF μ s f) → mF μ' a 3 = mF μ a 3 → mF μ' a 4 = mF μ a 4 → Xt μ' a t l p → Ss μ' s sl → K (some (.int (nI 1))) μ')
    (kf : ∀ f p, pSl l 8 0 [] = .inl (f, p) → ∀ μ', Fr (rS a s) μ μ' → Flt μ' a f p → K (some (.int (nI 0))) μ') : Cl E M_X5_readSlots [.ref a, .ref s] μ K := by
  have Sa : rS a s a := Or.inl rfl
  have S0 : rS a s s := Or.inr (Or.inl rfl)
  have S1 : rS a s (s + 1) := Or.inr (Or.inr (Or.inl rfl))
  have S2 : rS a s (s + 2) := Or.inr (Or.inr (Or.inr (Or.inl rfl)))
  have S3 : rS a s (s + 3) := Or.inr (Or.inr (Or.inr (Or.inr rfl)))
  have d0 : a ≠ s := hda 0 (by decide)
  have onlya : ∀ {μ1 μ2 : Mm}, Fr (fun q => q = a) μ1 μ2 → Fr (rS a s) μ1 μ2 := fun h => h.mono (fun q e => Or.inl e)
  have loop : ∀ (fu i : Nat), i + fu = 8 → ∀ (p : Nat) (acc : List Slot0) (y3 y4 : Option Value), nl y3 = true → acc.length = i → pSl l 8 0 [] = pSl l fu p acc → ∀ μ', Fr (rS a s) μ μ' → (∀ f, f ≠ 0 → mF μ' s f = mF μ s f) → mF μ' a 3 = mF μ a 3 → mF μ' a 4 = mF μ a 4 → Xt μ' a t l p → p ≤ 401 → Ss μ' s acc → Ev E M_X5_readSlots 0 0 7 [some (.ref a), some (.ref s), some (.int (nI i)), y3, y4] [] μ' K := by
    intro fu
    induction fu with
    | zero =>
      intro i hi p acc y3 y4 hy hacc he μ' hF hf h3 h4 hX' hp hS
      have e8 : i = 8 := by omega
      subst e8
      have ak := hX'.1.1
      rw [pSl_eq l 0 p acc] at he
      have hane : acc ≠ [] := fun q => by rw [q] at hacc; cases hacc
      refine e_il2 8 rfl dX5_readSlots_7 ?_
      refine e_bipush (nI 8) 10 rfl dX5_readSlots_8 bc_8 ?_
      first | refine e_cmp_gtN 168 13 (by decide) rfl dX5_readSlots_10 rfl rfl (by omega) (by omega) (fun g1 => ?_) (fun g1 => ?_) | refine e_cmp_gt 168 13 (by decide) rfl dX5_readSlots_10 (fun g1 => ?_) (fun g1 => ?_)
      · omega
      refine e_al0 14 rfl dX5_readSlots_13 ?_
      refine e_invV0 [] 17 rfl dX5_readSlots_14 k_X5_86 mo_X5_kindHere rm_X5_readSlots_X5_kindHere ⟨rfl, rfl⟩ rfl rfl (by assumption) (Nat.le_of_ble_eq_true rfl) ?_
      refine KH hX' ?_
      cases hk : kAt l p with
      | none =>
        rw [hk] at he
        refine e_is3 18 rfl dX5_readSlots_17 (by decide) rfl ?_
        refine e_il3 19 rfl dX5_readSlots_18 ?_
        refine e_iconst (-1) 20 rfl dX5_readSlots_19 ic_m1 ?_
        refine e_cmp_ne 42 23 (by decide) rfl dX5_readSlots_20 (fun g2 => ?_) (fun g2 => ?_)
        · exact absurd rfl g2
        refine e_il2 24 rfl dX5_readSlots_23 ?_
        first | refine e_if_leN 36 27 (by decide) rfl dX5_readSlots_24 rfl (by omega) (fun g3 => ?_) (fun g3 => ?_) | refine e_if_le 36 27 (by decide) rfl dX5_readSlots_24 (fun g3 => ?_) (fun g3 => ?_)
        · omega
        refine e_al0 28 rfl dX5_readSlots_27 ?_
        refine e_bipush (nI 59) 30 rfl dX5_readSlots_28 bc_59 ?_
        refine e_invV0 [_] 33 rfl dX5_readSlots_30 k_X5_60 mo_X5_pass rm_X5_readSlots_X5_pass ⟨rfl, rfl⟩ rfl rfl (by assumption) (Nat.le_of_ble_eq_true rfl) ?_
        refine c_pass hX' (by decide) hp (fun hs μ2 hF2 q3 q4 hX2 => ?_) (fun hs μ2 hF2 hfl hX2 => ?_)
        · refine e_goto 41 (by decide) dX5_readSlots_33 ?_
          refine e_zret dX5_readSlots_41 rfl (by first | exact z0 | exact z1 | exact bI01 _ | assumption) ?_
          rw [if_pos ⟨hane, hs⟩] at he
          refine kt _ _ he μ2 (hF.trans (onlya hF2)) (fun f hf' => ?_) (q3.trans h3) (q4.trans h4) hX2 ?_
          · rw [(hF2.2.2.2.2.2 s (fun e => d0 e.symm)).1]; exact hf f hf'
          · exact hS.fr hF2 (by rw [(hF2.2.2.2.2.2 s (fun e => d0 e.symm)).1]) (fun e => hda 1 (by decide) e.symm) (fun e => hda 2 (by decide) e.symm) (fun e => hda 3 (by decide) e.symm)
        · refine e_goto 41 (by decide) dX5_readSlots_33 ?_
          refine e_zret dX5_readSlots_41 rfl (by first | exact z0 | exact z1 | exact bI01 _ | assumption) ?_
          rw [if_neg (fun q => hs q.2)] at he
          exact kf _ _ he μ2 (hF.trans (onlya hF2)) hfl
      | some kd =>
        rw [hk] at he
        have hkd := kAt_lt hk
        refine e_is3 18 rfl dX5_readSlots_17 (by decide) rfl ?_
        refine e_il3 19 rfl dX5_readSlots_18 ?_
        refine e_iconst (-1) 20 rfl dX5_readSlots_19 ic_m1 ?_
        refine e_cmp_ne 42 23 (by decide) rfl dX5_readSlots_20 (fun g2 => ?_) (fun g2 => ?_)
        rotate_left
        · exact absurd ((seeI_m1 (o := some kd) (fun c hc => by cases hc; omega)).mp g2) (by simp)
        refine e_il2 43 rfl dX5_readSlots_42 ?_
        refine e_bipush (nI 8) 45 rfl dX5_readSlots_43 bc_8 ?_
        first | refine e_cmp_neN 51 48 (by decide) rfl dX5_readSlots_45 rfl rfl (by omega) (by omega) (fun g3 => ?_) (fun g3 => ?_) | refine e_cmp_ne 51 48 (by decide) rfl dX5_readSlots_45 (fun g3 => ?_) (fun g3 => ?_)
        · exact absurd rfl g3
        refine e_goto 168 (by decide) dX5_readSlots_48 ?_
        refine e_al0 169 rfl dX5_readSlots_168 ?_
        refine e_iconst (nI 2) 170 rfl dX5_readSlots_169 ic_2 ?_
        refine e_invV0 [_] 173 rfl dX5_readSlots_170 k_X5_64 mo_X5_stopWith rm_X5_readSlots_X5_stopWith ⟨rfl, rfl⟩ rfl rfl (by assumption) (Nat.le_of_ble_eq_true rfl) ?_
        refine c_stopWith hX' (fun μ2 hF2 hfl hX2 => ?_)
        refine e_zret dX5_readSlots_173 rfl (by first | exact z0 | exact z1 | exact bI01 _ | assumption) ?_
        exact kf _ _ he μ2 (hF.trans (onlya hF2)) hfl
    | succ fu ih =>
      intro i hi p acc y3 y4 hy hacc he μ' hF hf h3 h4 hX' hp hS
      have ak := hX'.1.1
      rw [pSl_eq l (fu + 1) p acc] at he
      refine e_il2 8 rfl dX5_readSlots_7 ?_
      refine e_bipush (nI 8) 10 rfl dX5_readSlots_8 bc_8 ?_
      first | refine e_cmp_gtN 168 13 (by decide) rfl dX5_readSlots_10 rfl rfl (by omega) (by omega) (fun g1 => ?_) (fun g1 => ?_) | refine e_cmp_gt 168 13 (by decide) rfl dX5_readSlots_10 (fun g1 => ?_) (fun g1 => ?_)
      · omega
      refine e_al0 14 rfl dX5_readSlots_13 ?_
      refine e_invV0 [] 17 rfl dX5_readSlots_14 k_X5_86 mo_X5_kindHere rm_X5_readSlots_X5_kindHere ⟨rfl, rfl⟩ rfl rfl (by assumption) (Nat.le_of_ble_eq_true rfl) ?_
      refine KH hX' ?_
      cases hk : kAt l p with
      | none =>
        rw [hk] at he
        refine e_is3 18 rfl dX5_readSlots_17 (by decide) rfl ?_
        refine e_il3 19 rfl dX5_readSlots_18 ?_
        refine e_iconst (-1) 20 rfl dX5_readSlots_19 ic_m1 ?_
        refine e_cmp_ne 42 23 (by decide) rfl dX5_readSlots_20 (fun g2 => ?_) (fun g2 => ?_)
        · exact absurd rfl g2
        refine e_il2 24 rfl dX5_readSlots_23 ?_
        first | refine e_if_leN 36 27 (by decide) rfl dX5_readSlots_24 rfl (by omega) (fun g3 => ?_) (fun g3 => ?_) | refine e_if_le 36 27 (by decide) rfl dX5_readSlots_24 (fun g3 => ?_) (fun g3 => ?_)
        · -- nothing yet
          refine e_al0 37 rfl dX5_readSlots_36 ?_
          refine e_iconst (nI 1) 38 rfl dX5_readSlots_37 ic_1 ?_
          refine e_invV0 [_] 41 rfl dX5_readSlots_38 k_X5_64 mo_X5_stopWith rm_X5_readSlots_X5_stopWith ⟨rfl, rfl⟩ rfl rfl (by assumption) (Nat.le_of_ble_eq_true rfl) ?_
          refine c_stopWith hX' (fun μ2 hF2 hfl hX2 => ?_)
          refine e_zret dX5_readSlots_41 rfl (by first | exact z0 | exact z1 | exact bI01 _ | assumption) ?_
          rw [if_neg (fun q => q.1 (List.eq_nil_of_length_eq_zero (by omega)))] at he
          exact kf _ _ he μ2 (hF.trans (onlya hF2)) hfl
        have hane : acc ≠ [] := fun q => by rw [q] at hacc; simp at hacc; omega
        refine e_al0 28 rfl dX5_readSlots_27 ?_
        refine e_bipush (nI 59) 30 rfl dX5_readSlots_28 bc_59 ?_
        refine e_invV0 [_] 33 rfl dX5_readSlots_30 k_X5_60 mo_X5_pass rm_X5_readSlots_X5_pass ⟨rfl, rfl⟩ rfl rfl (by assumption) (Nat.le_of_ble_eq_true rfl) ?_
        refine c_pass hX' (by decide) hp (fun hs μ2 hF2 q3 q4 hX2 => ?_) (fun hs μ2 hF2 hfl hX2 => ?_)
        · refine e_goto 41 (by decide) dX5_readSlots_33 ?_
          refine e_zret dX5_readSlots_41 rfl (by first | exact z0 | exact z1 | exact bI01 _ | assumption) ?_
          rw [if_pos ⟨hane, hs⟩] at he
          refine kt _ _ he μ2 (hF.trans (onlya hF2)) (fun f hf' => ?_) (q3.trans h3) (q4.trans h4) hX2 ?_
          · rw [(hF2.2.2.2.2.2 s (fun e => d0 e.symm)).1]; exact hf f hf'
          · exact hS.fr hF2 (by rw [(hF2.2.2.2.2.2 s (fun e => d0 e.symm)).1]) (fun e => hda 1 (by decide) e.symm) (fun e => hda 2 (by decide) e.symm) (fun e => hda 3 (by decide) e.symm)
        · refine e_goto 41 (by decide) dX5_readSlots_33 ?_
          refine e_zret dX5_readSlots_41 rfl (by first | exact z0 | exact z1 | exact bI01 _ | assumption) ?_
          rw [if_neg (fun q => hs q.2)] at he
          exact kf _ _ he μ2 (hF.trans (onlya hF2)) hfl
      | some kd =>
        rw [hk] at he
        have hkd := kAt_lt hk
        have hl4 := hX'.2.2.2.2.1
        have a2 := hX'.2.2.1
        refine e_is3 18 rfl dX5_readSlots_17 (by decide) rfl ?_
        refine e_il3 19 rfl dX5_readSlots_18 ?_
        refine e_iconst (-1) 20 rfl dX5_readSlots_19 ic_m1 ?_
        refine e_cmp_ne 42 23 (by decide) rfl dX5_readSlots_20 (fun g2 => ?_) (fun g2 => ?_)
        rotate_left
        · exact absurd ((seeI_m1 (o := some kd) (fun c hc => by cases hc; omega)).mp g2) (by simp)
        refine e_il2 43 rfl dX5_readSlots_42 ?_
        refine e_bipush (nI 8) 45 rfl dX5_readSlots_43 bc_8 ?_
        first | refine e_cmp_neN 51 48 (by decide) rfl dX5_readSlots_45 rfl rfl (by omega) (by omega) (fun g3 => ?_) (fun g3 => ?_) | refine e_cmp_ne 51 48 (by decide) rfl dX5_readSlots_45 (fun g3 => ?_) (fun g3 => ?_)
        rotate_left
        · omega
        refine e_al0 52 rfl dX5_readSlots_51 ?_
        refine e_dup 53 rfl dX5_readSlots_52 rfl ?_
        first | refine e_getIv 56 rfl dX5_readSlots_53 f_X5_19 (by assumption) (by first | assumption | (simp only [mN_sF, mK_sF, mL_sF, mF_sF, mB_sF, mA_sF, mJ_sF, mP_sF, mO_sF, mN_sB, mK_sB, mL_sB, mF_sB, mB_sB, mA_sB, mJ_sB, mP_sB, mO_sB, mN_sA, mK_sA, mL_sA, mF_sA, mB_sA, mA_sA, mJ_sA, mP_sA, mO_sA, mN_sJ, mK_sJ, mL_sJ, mF_sJ, mB_sJ, mA_sJ, mJ_sJ, mP_sJ, mO_sJ, mN_sP, mK_sP, mL_sP, mF_sP, mB_sP, mA_sP, mJ_sP, mP_sP, mO_sP, mN_sO, mK_sO, mL_sO, mF_sO, mB_sO, mA_sO, mJ_sO, mP_sO, mO_sO, up2, if_true, if_false, eq_self, ite_true, ite_false, reduceIte, Nat.add_left_cancel_iff, Nat.add_eq_left, Nat.left_eq_add, Nat.reduceEqDiff]; assumption) | (simp only [mN_sF, mK_sF, mL_sF, mF_sF, mB_sF, mA_sF, mJ_sF, mP_sF, mO_sF, mN_sB, mK_sB, mL_sB, mF_sB, mB_sB, mA_sB, mJ_sB, mP_sB, mO_sB, mN_sA, mK_sA, mL_sA, mF_sA, mB_sA, mA_sA, mJ_sA, mP_sA, mO_sA, mN_sJ, mK_sJ, mL_sJ, mF_sJ, mB_sJ, mA_sJ, mJ_sJ, mP_sJ, mO_sJ, mN_sP, mK_sP, mL_sP, mF_sP, mB_sP, mA_sP, mJ_sP, mP_sP, mO_sP, mN_sO, mK_sO, mL_sO, mF_sO, mB_sO, mA_sO, mJ_sO, mP_sO, mO_sO, up2, if_true, if_false, eq_self, ite_true, ite_false, reduceIte, Nat.add_left_cancel_iff, Nat.add_eq_left, Nat.left_eq_add, Nat.reduceEqDiff]; done)) ?_ | refine e_getI 56 rfl dX5_readSlots_53 f_X5_19 (by assumption) ?_
        refine e_iconst (nI 1) 57 rfl dX5_readSlots_56 ic_1 ?_
        first | refine e_iaddN 58 rfl dX5_readSlots_57 rfl rfl ?_ | refine e_iadd 58 rfl dX5_readSlots_57 ?_
        refine e_putI 61 rfl dX5_readSlots_58 f_X5_19 (by assumption) ?_
        refine e_al0 62 rfl dX5_readSlots_61 ?_
        refine e_invV0 [] 65 rfl dX5_readSlots_62 k_X5_71 mo_X5_here rm_X5_readSlots_X5_here ⟨rfl, rfl⟩ rfl rfl (by assumption) (Nat.le_of_ble_eq_true rfl) ?_
        have hX1 := hX'.step (p' := p + 1) (by omega)
        have hF1 : Fr (fun q => q = a) μ' (sF μ' a 2 (nI (p + 1))) := (Fr.rf (S := fun q => q = a)).sF rfl _ _
        have hS1 : Ss (sF μ' a 2 (nI (p + 1))) s acc := hS.fr hF1 (by rw [(hF1.2.2.2.2.2 s (fun e => d0 e.symm)).1]) (fun e => hda 1 (by decide) e.symm) (fun e => hda 2 (by decide) e.symm) (fun e => hda 3 (by decide) e.symm)
        have hf1 : ∀ f, f ≠ 0 → mF (sF μ' a 2 (nI (p + 1))) s f = mF μ s f := fun f hf' => by rw [(hF1.2.2.2.2.2 s (fun e => d0 e.symm)).1]; exact hf f hf'
        have h31 : mF (sF μ' a 2 (nI (p + 1))) a 3 = mF μ a 3 := by simp only [mN_sF, mK_sF, mL_sF, mF_sF, mB_sF, mA_sF, mJ_sF, mP_sF, mO_sF, mN_sB, mK_sB, mL_sB, mF_sB, mB_sB, mA_sB, mJ_sB, mP_sB, mO_sB, mN_sA, mK_sA, mL_sA, mF_sA, mB_sA, mA_sA, mJ_sA, mP_sA, mO_sA, mN_sJ, mK_sJ, mL_sJ, mF_sJ, mB_sJ, mA_sJ, mJ_sJ, mP_sJ, mO_sJ, mN_sP, mK_sP, mL_sP, mF_sP, mB_sP, mA_sP, mJ_sP, mP_sP, mO_sP, mN_sO, mK_sO, mL_sO, mF_sO, mB_sO, mA_sO, mJ_sO, mP_sO, mO_sO, up2, if_true, if_false, eq_self, ite_true, ite_false, reduceIte, Nat.add_left_cancel_iff, Nat.add_eq_left, Nat.left_eq_add, Nat.reduceEqDiff]; exact h3
        have h41 : mF (sF μ' a 2 (nI (p + 1))) a 4 = mF μ a 4 := by simp only [mN_sF, mK_sF, mL_sF, mF_sF, mB_sF, mA_sF, mJ_sF, mP_sF, mO_sF, mN_sB, mK_sB, mL_sB, mF_sB, mB_sB, mA_sB, mJ_sB, mP_sB, mO_sB, mN_sA, mK_sA, mL_sA, mF_sA, mB_sA, mA_sA, mJ_sA, mP_sA, mO_sA, mN_sJ, mK_sJ, mL_sJ, mF_sJ, mB_sJ, mA_sJ, mJ_sJ, mP_sJ, mO_sJ, mN_sP, mK_sP, mL_sP, mF_sP, mB_sP, mA_sP, mJ_sP, mP_sP, mO_sP, mN_sO, mK_sO, mL_sO, mF_sO, mB_sO, mA_sO, mJ_sO, mP_sO, mO_sO, up2, if_true, if_false, eq_self, ite_true, ite_false, reduceIte, Nat.add_left_cancel_iff, Nat.add_eq_left, Nat.left_eq_add, Nat.reduceEqDiff]; exact h4
        refine c_here hX1 ?_
        have hFa := hF.trans (onlya hF1)
        generalize sF μ' a 2 (nI (p + 1)) = μ1 at hX1 hF1 hS1 hf1 h31 h41 hFa ⊢
        have hg1 := hg.fr hFa
        obtain ⟨⟨gk, g1', g2', g3', g5, g6, g7, g9, g11⟩, k1, l1, k2, l2, k3, l3, k4, l4, k5, l5, k6, l6, k7, l7, k8, l8⟩ := id hg1
        have hlt : ∀ c, l[p + 1]? = some c → c < 256 := fun c hc => hX1.lt (p + 1) c hc
        have q63 := seeI_eq hlt (d := 63) (by decide)
        have q42 := seeI_eq hlt (d := 42) (by decide)
        have q43 := seeI_eq hlt (d := 43) (by decide)
        have hsk := how_skp l[p + 1]?
        have hrp := how_rpt l[p + 1]?
        have hh0 := how_0 l[p + 1]?
        have hh4 := howOf_lt l[p + 1]?
        generalize hhw : howOf l[p + 1]? = hw at hsk hrp hh0 hh4 he
        -- behind both marks
        have tail : Ev E M_X5_readSlots 0 0 124 [some (.ref a), some (.ref s), some (.int (nI i)), some (.int (nI kd)), some (.int (seeI l[p + 1]?))] [] (sB (sB (sA μ1 (s + 1) i (nI kd)) (s + 2) i (bI (skp hw))) (s + 3) i (bI (rpt hw))) K := by
          subst hacc
          have e0 := hS1.1
          have hb2 : mB (sF (sB (sB (sA μ1 (s + 1) acc.length (nI kd)) (s + 2) acc.length (bI (skp hw))) (s + 3) acc.length (bI (rpt hw))) s 0 (nI (acc.length + 1))) (s + 2) acc.length = bI (skp hw) := by simp only [mN_sF, mK_sF, mL_sF, mF_sF, mB_sF, mA_sF, mJ_sF, mP_sF, mO_sF, mN_sB, mK_sB, mL_sB, mF_sB, mB_sB, mA_sB, mJ_sB, mP_sB, mO_sB, mN_sA, mK_sA, mL_sA, mF_sA, mB_sA, mA_sA, mJ_sA, mP_sA, mO_sA, mN_sJ, mK_sJ, mL_sJ, mF_sJ, mB_sJ, mA_sJ, mJ_sJ, mP_sJ, mO_sJ, mN_sP, mK_sP, mL_sP, mF_sP, mB_sP, mA_sP, mJ_sP, mP_sP, mO_sP, mN_sO, mK_sO, mL_sO, mF_sO, mB_sO, mA_sO, mJ_sO, mP_sO, mO_sO, up2, if_true, if_false, eq_self, ite_true, ite_false, reduceIte, Nat.add_left_cancel_iff, Nat.add_eq_left, Nat.left_eq_add, Nat.reduceEqDiff]
          have hb3 : mB (sF (sB (sB (sA μ1 (s + 1) acc.length (nI kd)) (s + 2) acc.length (bI (skp hw))) (s + 3) acc.length (bI (rpt hw))) s 0 (nI (acc.length + 1))) (s + 3) acc.length = bI (rpt hw) := by simp only [mN_sF, mK_sF, mL_sF, mF_sF, mB_sF, mA_sF, mJ_sF, mP_sF, mO_sF, mN_sB, mK_sB, mL_sB, mF_sB, mB_sB, mA_sB, mJ_sB, mP_sB, mO_sB, mN_sA, mK_sA, mL_sA, mF_sA, mB_sA, mA_sA, mJ_sA, mP_sA, mO_sA, mN_sJ, mK_sJ, mL_sJ, mF_sJ, mB_sJ, mA_sJ, mJ_sJ, mP_sJ, mO_sJ, mN_sP, mK_sP, mL_sP, mF_sP, mB_sP, mA_sP, mJ_sP, mP_sP, mO_sP, mN_sO, mK_sO, mL_sO, mF_sO, mB_sO, mA_sO, mJ_sO, mP_sO, mO_sO, up2, if_true, if_false, eq_self, ite_true, ite_false, reduceIte, Nat.add_left_cancel_iff, Nat.add_eq_left, Nat.left_eq_add, Nat.reduceEqDiff]
          have a21 := hX1.2.2.1
          have ak1 := hX1.1.1
          have hFn : Fr (rS a s) μ1 (sF (sB (sB (sA μ1 (s + 1) acc.length (nI kd)) (s + 2) acc.length (bI (skp hw))) (s + 3) acc.length (bI (rpt hw))) s 0 (nI (acc.length + 1))) := (((Fr.rf.sA S1 _ _).sB S2 _ _).sB S3 _ _).sF S0 _ _
          have hFs : Fr (fun q => q = s ∨ q = s + 1 ∨ q = s + 2 ∨ q = s + 3) μ1 (sF (sB (sB (sA μ1 (s + 1) acc.length (nI kd)) (s + 2) acc.length (bI (skp hw))) (s + 3) acc.length (bI (rpt hw))) s 0 (nI (acc.length + 1))) := ((((Fr.rf (S := fun q => q = s ∨ q = s + 1 ∨ q = s + 2 ∨ q = s + 3)).sA (Or.inr (Or.inl rfl)) _ _).sB (Or.inr (Or.inr (Or.inl rfl))) _ _).sB (Or.inr (Or.inr (Or.inr rfl))) _ _).sF (Or.inl rfl) _ _
          have hda0 : ¬ (a = s ∨ a = s + 1 ∨ a = s + 2 ∨ a = s + 3) := by have := hda 0 (by decide); have := hda 1 (by decide); have := hda 2 (by decide); have := hda 3 (by decide); omega
          have hdt0 : ¬ (t = s ∨ t = s + 1 ∨ t = s + 2 ∨ t = s + 3) := by have := hdt 0 (by decide); have := hdt 1 (by decide); have := hdt 2 (by decide); have := hdt 3 (by decide); omega
          have hXn := hX1.fr hFs hda0 hdt0
          have hSn : Ss (sF (sB (sB (sA μ1 (s + 1) acc.length (nI kd)) (s + 2) acc.length (bI (skp hw))) (s + 3) acc.length (bI (rpt hw))) s 0 (nI (acc.length + 1))) s (acc ++ [(kd, hw)]) := hS1.push (by omega) hkd.1 hh4 (by simp only [mN_sF, mK_sF, mL_sF, mF_sF, mB_sF, mA_sF, mJ_sF, mP_sF, mO_sF, mN_sB, mK_sB, mL_sB, mF_sB, mB_sB, mA_sB, mJ_sB, mP_sB, mO_sB, mN_sA, mK_sA, mL_sA, mF_sA, mB_sA, mA_sA, mJ_sA, mP_sA, mO_sA, mN_sJ, mK_sJ, mL_sJ, mF_sJ, mB_sJ, mA_sJ, mJ_sJ, mP_sJ, mO_sJ, mN_sP, mK_sP, mL_sP, mF_sP, mB_sP, mA_sP, mJ_sP, mP_sP, mO_sP, mN_sO, mK_sO, mL_sO, mF_sO, mB_sO, mA_sO, mJ_sO, mP_sO, mO_sO, up2, if_true, if_false, eq_self, ite_true, ite_false, reduceIte, Nat.add_left_cancel_iff, Nat.add_eq_left, Nat.left_eq_add, Nat.reduceEqDiff]) (by show up2 _ (s + 1) _ _ (s + 1) = _; rw [up2_row]) (by show up2 (up2 _ (s + 2) _ _) (s + 3) _ _ (s + 2) = _; rw [up2_a (by omega), up2_row]; rfl) (by show up2 (up2 _ (s + 2) _ _) (s + 3) _ _ (s + 3) = _; rw [up2_row, up2_a (by omega)]; rfl)
          have hfn : ∀ f, f ≠ 0 → mF (sF (sB (sB (sA μ1 (s + 1) acc.length (nI kd)) (s + 2) acc.length (bI (skp hw))) (s + 3) acc.length (bI (rpt hw))) s 0 (nI (acc.length + 1))) s f = mF μ s f := fun f hf' => by show up2 _ s 0 _ s f = _; rw [up2_k hf']; exact hf1 f hf'
          have h3n : mF (sF (sB (sB (sA μ1 (s + 1) acc.length (nI kd)) (s + 2) acc.length (bI (skp hw))) (s + 3) acc.length (bI (rpt hw))) s 0 (nI (acc.length + 1))) a 3 = mF μ a 3 := by rw [(hFs.2.2.2.2.2 a hda0).1]; exact h31
          have h4n : mF (sF (sB (sB (sA μ1 (s + 1) acc.length (nI kd)) (s + 2) acc.length (bI (skp hw))) (s + 3) acc.length (bI (rpt hw))) s 0 (nI (acc.length + 1))) a 4 = mF μ a 4 := by rw [(hFs.2.2.2.2.2 a hda0).1]; exact h41
          have hFall := hFa.trans hFn
          refine e_al1 125 rfl dX5_readSlots_124 ?_
          refine e_dup 126 rfl dX5_readSlots_125 rfl ?_
          first | refine e_getIv 129 rfl dX5_readSlots_126 f_X5_83 (by assumption) (by first | assumption | (simp only [mN_sF, mK_sF, mL_sF, mF_sF, mB_sF, mA_sF, mJ_sF, mP_sF, mO_sF, mN_sB, mK_sB, mL_sB, mF_sB, mB_sB, mA_sB, mJ_sB, mP_sB, mO_sB, mN_sA, mK_sA, mL_sA, mF_sA, mB_sA, mA_sA, mJ_sA, mP_sA, mO_sA, mN_sJ, mK_sJ, mL_sJ, mF_sJ, mB_sJ, mA_sJ, mJ_sJ, mP_sJ, mO_sJ, mN_sP, mK_sP, mL_sP, mF_sP, mB_sP, mA_sP, mJ_sP, mP_sP, mO_sP, mN_sO, mK_sO, mL_sO, mF_sO, mB_sO, mA_sO, mJ_sO, mP_sO, mO_sO, up2, if_true, if_false, eq_self, ite_true, ite_false, reduceIte, Nat.add_left_cancel_iff, Nat.add_eq_left, Nat.left_eq_add, Nat.reduceEqDiff]; assumption) | (simp only [mN_sF, mK_sF, mL_sF, mF_sF, mB_sF, mA_sF, mJ_sF, mP_sF, mO_sF, mN_sB, mK_sB, mL_sB, mF_sB, mB_sB, mA_sB, mJ_sB, mP_sB, mO_sB, mN_sA, mK_sA, mL_sA, mF_sA, mB_sA, mA_sA, mJ_sA, mP_sA, mO_sA, mN_sJ, mK_sJ, mL_sJ, mF_sJ, mB_sJ, mA_sJ, mJ_sJ, mP_sJ, mO_sJ, mN_sP, mK_sP, mL_sP, mF_sP, mB_sP, mA_sP, mJ_sP, mP_sP, mO_sP, mN_sO, mK_sO, mL_sO, mF_sO, mB_sO, mA_sO, mJ_sO, mP_sO, mO_sO, up2, if_true, if_false, eq_self, ite_true, ite_false, reduceIte, Nat.add_left_cancel_iff, Nat.add_eq_left, Nat.left_eq_add, Nat.reduceEqDiff]; done)) ?_ | refine e_getI 129 rfl dX5_readSlots_126 f_X5_83 (by assumption) ?_
          refine e_iconst (nI 1) 130 rfl dX5_readSlots_129 ic_1 ?_
          first | refine e_iaddN 131 rfl dX5_readSlots_130 rfl rfl ?_ | refine e_iadd 131 rfl dX5_readSlots_130 ?_
          refine e_putI 134 rfl dX5_readSlots_131 f_X5_83 (by assumption) ?_
          generalize sF (sB (sB (sA μ1 (s + 1) acc.length (nI kd)) (s + 2) acc.length (bI (skp hw))) (s + 3) acc.length (bI (rpt hw))) s 0 (nI (acc.length + 1)) = μ3 at hb2 hb3 hXn hSn hfn h3n h4n hFall ⊢
          obtain ⟨⟨gk3, g13, g23, g33, -⟩, k13, l13, k23, l23, k33, l33, -⟩ := hg.fr hFall
          have ak3 := hXn.1.1
          have a23 := hXn.2.2.1
          have elen : (acc ++ [(kd, hw)]).length = acc.length + 1 := by simp
          have plain : hw = 0 → Ev E M_X5_readSlots 0 0 162 [some (.ref a), some (.ref s), some (.int (nI acc.length)), some (.int (nI kd)), some (.int (seeI l[p + 1]?))] [] μ3 K := by
            intro z
            refine e_ii2 (nI (_ + 1)) 165 rfl dX5_readSlots_162 (ii1 _) rfl ?_
            refine e_goto 7 (by decide) dX5_readSlots_165 ?_
            rw [if_pos z] at he
            exact ih (acc.length + 1) (by omega) (p + 1) _ _ _ rfl elen he μ3 hFall hfn h3n h4n hXn (by omega) hSn
          have more : hw ≠ 0 → Ev E M_X5_readSlots 0 0 152 [some (.ref a), some (.ref s), some (.int (nI acc.length)), some (.int (nI kd)), some (.int (seeI l[p + 1]?))] [] μ3 K := by
            intro z
            have hp1 : p + 1 < l.length := by
              rcases Nat.lt_or_ge (p + 1) l.length with y | y
              · exact y
              · exfalso; apply z; rw [← hhw, List.getElem?_eq_none y]; rfl
            refine e_al0 153 rfl dX5_readSlots_152 ?_
            refine e_dup 154 rfl dX5_readSlots_153 rfl ?_
            first | refine e_getIv 157 rfl dX5_readSlots_154 f_X5_19 (by assumption) (by first | assumption | (simp only [mN_sF, mK_sF, mL_sF, mF_sF, mB_sF, mA_sF, mJ_sF, mP_sF, mO_sF, mN_sB, mK_sB, mL_sB, mF_sB, mB_sB, mA_sB, mJ_sB, mP_sB, mO_sB, mN_sA, mK_sA, mL_sA, mF_sA, mB_sA, mA_sA, mJ_sA, mP_sA, mO_sA, mN_sJ, mK_sJ, mL_sJ, mF_sJ, mB_sJ, mA_sJ, mJ_sJ, mP_sJ, mO_sJ, mN_sP, mK_sP, mL_sP, mF_sP, mB_sP, mA_sP, mJ_sP, mP_sP, mO_sP, mN_sO, mK_sO, mL_sO, mF_sO, mB_sO, mA_sO, mJ_sO, mP_sO, mO_sO, up2, if_true, if_false, eq_self, ite_true, ite_false, reduceIte, Nat.add_left_cancel_iff, Nat.add_eq_left, Nat.left_eq_add, Nat.reduceEqDiff]; assumption) | (simp only [mN_sF, mK_sF, mL_sF, mF_sF, mB_sF, mA_sF, mJ_sF, mP_sF, mO_sF, mN_sB, mK_sB, mL_sB, mF_sB, mB_sB, mA_sB, mJ_sB, mP_sB, mO_sB, mN_sA, mK_sA, mL_sA, mF_sA, mB_sA, mA_sA, mJ_sA, mP_sA, mO_sA, mN_sJ, mK_sJ, mL_sJ, mF_sJ, mB_sJ, mA_sJ, mJ_sJ, mP_sJ, mO_sJ, mN_sP, mK_sP, mL_sP, mF_sP, mB_sP, mA_sP, mJ_sP, mP_sP, mO_sP, mN_sO, mK_sO, mL_sO, mF_sO, mB_sO, mA_sO, mJ_sO, mP_sO, mO_sO, up2, if_true, if_false, eq_self, ite_true, ite_false, reduceIte, Nat.add_left_cancel_iff, Nat.add_eq_left, Nat.left_eq_add, Nat.reduceEqDiff]; done)) ?_ | refine e_getI 157 rfl dX5_readSlots_154 f_X5_19 (by assumption) ?_
            refine e_iconst (nI 1) 158 rfl dX5_readSlots_157 ic_1 ?_
            first | refine e_iaddN 159 rfl dX5_readSlots_158 rfl rfl ?_ | refine e_iadd 159 rfl dX5_readSlots_158 ?_
            refine e_putI 162 rfl dX5_readSlots_159 f_X5_19 (by assumption) ?_
            refine e_ii2 (nI (_ + 1)) 165 rfl dX5_readSlots_162 (ii1 _) rfl ?_
            refine e_goto 7 (by decide) dX5_readSlots_165 ?_
            rw [if_neg z] at he
            have hF9 : Fr (fun q => q = a) μ3 (sF μ3 a 2 (nI (p + 1 + 1))) := (Fr.rf (S := fun q => q = a)).sF rfl _ _
            refine ih (acc.length + 1) (by omega) (p + 1 + 1) _ _ _ rfl elen he _ (hFall.sF Sa _ _) (fun f hf' => ?_) ?_ ?_ (hXn.step (by omega)) (by omega) (hSn.fr hF9 (by rw [(hF9.2.2.2.2.2 s (fun e => d0 e.symm)).1]) (fun e => hda 1 (by decide) e.symm) (fun e => hda 2 (by decide) e.symm) (fun e => hda 3 (by decide) e.symm))
            · rw [(hF9.2.2.2.2.2 s (fun e => d0 e.symm)).1]; exact hfn f hf'
            · simp only [mN_sF, mK_sF, mL_sF, mF_sF, mB_sF, mA_sF, mJ_sF, mP_sF, mO_sF, mN_sB, mK_sB, mL_sB, mF_sB, mB_sB, mA_sB, mJ_sB, mP_sB, mO_sB, mN_sA, mK_sA, mL_sA, mF_sA, mB_sA, mA_sA, mJ_sA, mP_sA, mO_sA, mN_sJ, mK_sJ, mL_sJ, mF_sJ, mB_sJ, mA_sJ, mJ_sJ, mP_sJ, mO_sJ, mN_sP, mK_sP, mL_sP, mF_sP, mB_sP, mA_sP, mJ_sP, mP_sP, mO_sP, mN_sO, mK_sO, mL_sO, mF_sO, mB_sO, mA_sO, mJ_sO, mP_sO, mO_sO, up2, if_true, if_false, eq_self, ite_true, ite_false, reduceIte, Nat.add_left_cancel_iff, Nat.add_eq_left, Nat.left_eq_add, Nat.reduceEqDiff]; exact h3n
            · simp only [mN_sF, mK_sF, mL_sF, mF_sF, mB_sF, mA_sF, mJ_sF, mP_sF, mO_sF, mN_sB, mK_sB, mL_sB, mF_sB, mB_sB, mA_sB, mJ_sB, mP_sB, mO_sB, mN_sA, mK_sA, mL_sA, mF_sA, mB_sA, mA_sA, mJ_sA, mP_sA, mO_sA, mN_sJ, mK_sJ, mL_sJ, mF_sJ, mB_sJ, mA_sJ, mJ_sJ, mP_sJ, mO_sJ, mN_sP, mK_sP, mL_sP, mF_sP, mB_sP, mA_sP, mJ_sP, mP_sP, mO_sP, mN_sO, mK_sO, mL_sO, mF_sO, mB_sO, mA_sO, mJ_sO, mP_sO, mO_sO, up2, if_true, if_false, eq_self, ite_true, ite_false, reduceIte, Nat.add_left_cancel_iff, Nat.add_eq_left, Nat.left_eq_add, Nat.reduceEqDiff]; exact h4n
          refine e_al1 135 rfl dX5_readSlots_134 ?_
          refine e_getR 138 rfl dX5_readSlots_135 f_X5_92 (by assumption) (by assumption) ?_
          refine e_il2 139 rfl dX5_readSlots_138 ?_
          first | refine e_baldv 140 rfl dX5_readSlots_139 (by assumption) (by assumption) (by first | rfl | simp only [pk_mul, nI_add]) (by omega) (by omega) (by first | assumption | (simp only [mN_sF, mK_sF, mL_sF, mF_sF, mB_sF, mA_sF, mJ_sF, mP_sF, mO_sF, mN_sB, mK_sB, mL_sB, mF_sB, mB_sB, mA_sB, mJ_sB, mP_sB, mO_sB, mN_sA, mK_sA, mL_sA, mF_sA, mB_sA, mA_sA, mJ_sA, mP_sA, mO_sA, mN_sJ, mK_sJ, mL_sJ, mF_sJ, mB_sJ, mA_sJ, mJ_sJ, mP_sJ, mO_sJ, mN_sP, mK_sP, mL_sP, mF_sP, mB_sP, mA_sP, mJ_sP, mP_sP, mO_sP, mN_sO, mK_sO, mL_sO, mF_sO, mB_sO, mA_sO, mJ_sO, mP_sO, mO_sO, up2, if_true, if_false, eq_self, ite_true, ite_false, reduceIte, Nat.add_left_cancel_iff, Nat.add_eq_left, Nat.left_eq_add, Nat.reduceEqDiff]; assumption) | (simp only [mN_sF, mK_sF, mL_sF, mF_sF, mB_sF, mA_sF, mJ_sF, mP_sF, mO_sF, mN_sB, mK_sB, mL_sB, mF_sB, mB_sB, mA_sB, mJ_sB, mP_sB, mO_sB, mN_sA, mK_sA, mL_sA, mF_sA, mB_sA, mA_sA, mJ_sA, mP_sA, mO_sA, mN_sJ, mK_sJ, mL_sJ, mF_sJ, mB_sJ, mA_sJ, mJ_sJ, mP_sJ, mO_sJ, mN_sP, mK_sP, mL_sP, mF_sP, mB_sP, mA_sP, mJ_sP, mP_sP, mO_sP, mN_sO, mK_sO, mL_sO, mF_sO, mB_sO, mA_sO, mJ_sO, mP_sO, mO_sO, up2, if_true, if_false, eq_self, ite_true, ite_false, reduceIte, Nat.add_left_cancel_iff, Nat.add_eq_left, Nat.left_eq_add, Nat.reduceEqDiff]; done)) ?_ | refine e_zaldv 140 rfl dX5_readSlots_139 (by assumption) (by assumption) (by first | rfl | simp only [pk_mul, nI_add]) (by omega) (by omega) (by first | assumption | (simp only [mN_sF, mK_sF, mL_sF, mF_sF, mB_sF, mA_sF, mJ_sF, mP_sF, mO_sF, mN_sB, mK_sB, mL_sB, mF_sB, mB_sB, mA_sB, mJ_sB, mP_sB, mO_sB, mN_sA, mK_sA, mL_sA, mF_sA, mB_sA, mA_sA, mJ_sA, mP_sA, mO_sA, mN_sJ, mK_sJ, mL_sJ, mF_sJ, mB_sJ, mA_sJ, mJ_sJ, mP_sJ, mO_sJ, mN_sP, mK_sP, mL_sP, mF_sP, mB_sP, mA_sP, mJ_sP, mP_sP, mO_sP, mN_sO, mK_sO, mL_sO, mF_sO, mB_sO, mA_sO, mJ_sO, mP_sO, mO_sO, up2, if_true, if_false, eq_self, ite_true, ite_false, reduceIte, Nat.add_left_cancel_iff, Nat.add_eq_left, Nat.left_eq_add, Nat.reduceEqDiff]; assumption) | (simp only [mN_sF, mK_sF, mL_sF, mF_sF, mB_sF, mA_sF, mJ_sF, mP_sF, mO_sF, mN_sB, mK_sB, mL_sB, mF_sB, mB_sB, mA_sB, mJ_sB, mP_sB, mO_sB, mN_sA, mK_sA, mL_sA, mF_sA, mB_sA, mA_sA, mJ_sA, mP_sA, mO_sA, mN_sJ, mK_sJ, mL_sJ, mF_sJ, mB_sJ, mA_sJ, mJ_sJ, mP_sJ, mO_sJ, mN_sP, mK_sP, mL_sP, mF_sP, mB_sP, mA_sP, mJ_sP, mP_sP, mO_sP, mN_sO, mK_sO, mL_sO, mF_sO, mB_sO, mA_sO, mJ_sO, mP_sO, mO_sO, up2, if_true, if_false, eq_self, ite_true, ite_false, reduceIte, Nat.add_left_cancel_iff, Nat.add_eq_left, Nat.left_eq_add, Nat.reduceEqDiff]; done)) ?_ | refine e_bald 140 rfl dX5_readSlots_139 (by assumption) (by assumption) (by first | rfl | simp only [pk_mul, nI_add]) (by omega) (by omega) ?_ | refine e_zald 140 rfl dX5_readSlots_139 (by assumption) (by assumption) (by first | rfl | simp only [pk_mul, nI_add]) (by omega) (by omega) ?_
          first | refine e_if_neB 152 143 (by decide) rfl dX5_readSlots_140 rfl (fun z1 => ?_) (fun z1 => ?_) | refine e_if_neN 152 143 (by decide) rfl dX5_readSlots_140 rfl (by omega) (fun z1 => ?_) (fun z1 => ?_) | refine e_if_ne 152 143 (by decide) rfl dX5_readSlots_140 (fun z1 => ?_) (fun z1 => ?_)
          · exact more (fun z => by rw [(hh0.mp z).1] at z1; cases z1)
          refine e_al1 144 rfl dX5_readSlots_143 ?_
          refine e_getR 147 rfl dX5_readSlots_144 f_X5_96 (by assumption) (by assumption) ?_
          refine e_il2 148 rfl dX5_readSlots_147 ?_
          first | refine e_baldv 149 rfl dX5_readSlots_148 (by assumption) (by assumption) (by first | rfl | simp only [pk_mul, nI_add]) (by omega) (by omega) (by first | assumption | (simp only [mN_sF, mK_sF, mL_sF, mF_sF, mB_sF, mA_sF, mJ_sF, mP_sF, mO_sF, mN_sB, mK_sB, mL_sB, mF_sB, mB_sB, mA_sB, mJ_sB, mP_sB, mO_sB, mN_sA, mK_sA, mL_sA, mF_sA, mB_sA, mA_sA, mJ_sA, mP_sA, mO_sA, mN_sJ, mK_sJ, mL_sJ, mF_sJ, mB_sJ, mA_sJ, mJ_sJ, mP_sJ, mO_sJ, mN_sP, mK_sP, mL_sP, mF_sP, mB_sP, mA_sP, mJ_sP, mP_sP, mO_sP, mN_sO, mK_sO, mL_sO, mF_sO, mB_sO, mA_sO, mJ_sO, mP_sO, mO_sO, up2, if_true, if_false, eq_self, ite_true, ite_false, reduceIte, Nat.add_left_cancel_iff, Nat.add_eq_left, Nat.left_eq_add, Nat.reduceEqDiff]; assumption) | (simp only [mN_sF, mK_sF, mL_sF, mF_sF, mB_sF, mA_sF, mJ_sF, mP_sF, mO_sF, mN_sB, mK_sB, mL_sB, mF_sB, mB_sB, mA_sB, mJ_sB, mP_sB, mO_sB, mN_sA, mK_sA, mL_sA, mF_sA, mB_sA, mA_sA, mJ_sA, mP_sA, mO_sA, mN_sJ, mK_sJ, mL_sJ, mF_sJ, mB_sJ, mA_sJ, mJ_sJ, mP_sJ, mO_sJ, mN_sP, mK_sP, mL_sP, mF_sP, mB_sP, mA_sP, mJ_sP, mP_sP, mO_sP, mN_sO, mK_sO, mL_sO, mF_sO, mB_sO, mA_sO, mJ_sO, mP_sO, mO_sO, up2, if_true, if_false, eq_self, ite_true, ite_false, reduceIte, Nat.add_left_cancel_iff, Nat.add_eq_left, Nat.left_eq_add, Nat.reduceEqDiff]; done)) ?_ | refine e_zaldv 149 rfl dX5_readSlots_148 (by assumption) (by assumption) (by first | rfl | simp only [pk_mul, nI_add]) (by omega) (by omega) (by first | assumption | (simp only [mN_sF, mK_sF, mL_sF, mF_sF, mB_sF, mA_sF, mJ_sF, mP_sF, mO_sF, mN_sB, mK_sB, mL_sB, mF_sB, mB_sB, mA_sB, mJ_sB, mP_sB, mO_sB, mN_sA, mK_sA, mL_sA, mF_sA, mB_sA, mA_sA, mJ_sA, mP_sA, mO_sA, mN_sJ, mK_sJ, mL_sJ, mF_sJ, mB_sJ, mA_sJ, mJ_sJ, mP_sJ, mO_sJ, mN_sP, mK_sP, mL_sP, mF_sP, mB_sP, mA_sP, mJ_sP, mP_sP, mO_sP, mN_sO, mK_sO, mL_sO, mF_sO, mB_sO, mA_sO, mJ_sO, mP_sO, mO_sO, up2, if_true, if_false, eq_self, ite_true, ite_false, reduceIte, Nat.add_left_cancel_iff, Nat.add_eq_left, Nat.left_eq_add, Nat.reduceEqDiff]; assumption) | (simp only [mN_sF, mK_sF, mL_sF, mF_sF, mB_sF, mA_sF, mJ_sF, mP_sF, mO_sF, mN_sB, mK_sB, mL_sB, mF_sB, mB_sB, mA_sB, mJ_sB, mP_sB, mO_sB, mN_sA, mK_sA, mL_sA, mF_sA, mB_sA, mA_sA, mJ_sA, mP_sA, mO_sA, mN_sJ, mK_sJ, mL_sJ, mF_sJ, mB_sJ, mA_sJ, mJ_sJ, mP_sJ, mO_sJ, mN_sP, mK_sP, mL_sP, mF_sP, mB_sP, mA_sP, mJ_sP, mP_sP, mO_sP, mN_sO, mK_sO, mL_sO, mF_sO, mB_sO, mA_sO, mJ_sO, mP_sO, mO_sO, up2, if_true, if_false, eq_self, ite_true, ite_false, reduceIte, Nat.add_left_cancel_iff, Nat.add_eq_left, Nat.left_eq_add, Nat.reduceEqDiff]; done)) ?_ | refine e_bald 149 rfl dX5_readSlots_148 (by assumption) (by assumption) (by first | rfl | simp only [pk_mul, nI_add]) (by omega) (by omega) ?_ | refine e_zald 149 rfl dX5_readSlots_148 (by assumption) (by assumption) (by first | rfl | simp only [pk_mul, nI_add]) (by omega) (by omega) ?_
          first | refine e_if_eqB 162 152 (by decide) rfl dX5_readSlots_149 rfl (fun z2 => ?_) (fun z2 => ?_) | refine e_if_eqN 162 152 (by decide) rfl dX5_readSlots_149 rfl (by omega) (fun z2 => ?_) (fun z2 => ?_) | refine e_if_eq 162 152 (by decide) rfl dX5_readSlots_149 (fun z2 => ?_) (fun z2 => ?_)
          · exact plain (hh0.mpr ⟨z1, z2⟩)
          · exact more (fun z => by rw [(hh0.mp z).2] at z2; cases z2)
        -- the second mark
        have mid : Ev E M_X5_readSlots 0 0 98 [some (.ref a), some (.ref s), some (.int (nI i)), some (.int (nI kd)), some (.int (seeI l[p + 1]?))] [.int (bI (skp hw)), .int (nI i), .ref (s + 2)] (sA μ1 (s + 1) i (nI kd)) K := by
          first | refine e_bast 99 rfl dX5_readSlots_98 (by assumption) (by assumption) (by first | rfl | simp only [pk_mul, nI_add]) (by omega) (by omega) ?_ | refine e_zast 99 rfl dX5_readSlots_98 (by assumption) (by assumption) (by first | rfl | simp only [pk_mul, nI_add]) (by omega) (by omega) (by first | exact z0 | exact z1 | exact bI01 _ | assumption) ?_
          refine e_al1 100 rfl dX5_readSlots_99 ?_
          refine e_getR 103 rfl dX5_readSlots_100 f_X5_96 (by assumption) (by assumption) ?_
          refine e_il2 104 rfl dX5_readSlots_103 ?_
          refine e_il4 106 rfl dX5_readSlots_104 ?_
          refine e_bipush (nI 42) 108 rfl dX5_readSlots_106 bc_42 ?_
          refine e_cmp_eq 118 111 (by decide) rfl dX5_readSlots_108 (fun z1 => ?_) (fun z1 => ?_)
          · have e : rpt hw = true := hrp.mpr (Or.inl (q42.mp z1))
            refine e_iconst (nI 1) 119 rfl dX5_readSlots_118 ic_1 ?_
            refine e_goto 123 (by decide) dX5_readSlots_119 ?_
            rw [← bI_t e]
            first | refine e_bast 124 rfl dX5_readSlots_123 (by assumption) (by assumption) (by first | rfl | simp only [pk_mul, nI_add]) (by omega) (by omega) ?_ | refine e_zast 124 rfl dX5_readSlots_123 (by assumption) (by assumption) (by first | rfl | simp only [pk_mul, nI_add]) (by omega) (by omega) (by first | exact z0 | exact z1 | exact bI01 _ | assumption) ?_
            exact tail
          refine e_il4 113 rfl dX5_readSlots_111 ?_
          refine e_bipush (nI 43) 115 rfl dX5_readSlots_113 bc_43 ?_
          refine e_cmp_ne 122 118 (by decide) rfl dX5_readSlots_115 (fun z2 => ?_) (fun z2 => ?_)
          · have e : rpt hw = false := by
              cases y : rpt hw
              · rfl
              · rcases hrp.mp y with x | x
                · exact absurd (q42.mpr x) z1
                · exact absurd (q43.mpr x) z2
            refine e_iconst (nI 0) 123 rfl dX5_readSlots_122 ic_0 ?_
            rw [← bI_f e]
            first | refine e_bast 124 rfl dX5_readSlots_123 (by assumption) (by assumption) (by first | rfl | simp only [pk_mul, nI_add]) (by omega) (by omega) ?_ | refine e_zast 124 rfl dX5_readSlots_123 (by assumption) (by assumption) (by first | rfl | simp only [pk_mul, nI_add]) (by omega) (by omega) (by first | exact z0 | exact z1 | exact bI01 _ | assumption) ?_
            exact tail
          · have e : rpt hw = true := hrp.mpr (Or.inr (q43.mp z2))
            refine e_iconst (nI 1) 119 rfl dX5_readSlots_118 ic_1 ?_
            refine e_goto 123 (by decide) dX5_readSlots_119 ?_
            rw [← bI_t e]
            first | refine e_bast 124 rfl dX5_readSlots_123 (by assumption) (by assumption) (by first | rfl | simp only [pk_mul, nI_add]) (by omega) (by omega) ?_ | refine e_zast 124 rfl dX5_readSlots_123 (by assumption) (by assumption) (by first | rfl | simp only [pk_mul, nI_add]) (by omega) (by omega) (by first | exact z0 | exact z1 | exact bI01 _ | assumption) ?_
            exact tail
        refine e_is4 67 rfl dX5_readSlots_65 (by decide) rfl ?_
        refine e_al1 68 rfl dX5_readSlots_67 ?_
        refine e_getR 71 rfl dX5_readSlots_68 f_X5_89 (by assumption) (by assumption) ?_
        refine e_il2 72 rfl dX5_readSlots_71 ?_
        refine e_il3 73 rfl dX5_readSlots_72 ?_
        refine e_iast 74 rfl dX5_readSlots_73 (by assumption) (by assumption) (by first | rfl | simp only [pk_mul, nI_add]) (by omega) (by omega) ?_
        refine e_al1 75 rfl dX5_readSlots_74 ?_
        refine e_getR 78 rfl dX5_readSlots_75 f_X5_92 (by assumption) (by assumption) ?_
        refine e_il2 79 rfl dX5_readSlots_78 ?_
        refine e_il4 81 rfl dX5_readSlots_79 ?_
        refine e_bipush (nI 63) 83 rfl dX5_readSlots_81 bc_63 ?_
        refine e_cmp_eq 93 86 (by decide) rfl dX5_readSlots_83 (fun z1 => ?_) (fun z1 => ?_)
        · have e : skp hw = true := hsk.mpr (Or.inl (q63.mp z1))
          refine e_iconst (nI 1) 94 rfl dX5_readSlots_93 ic_1 ?_
          refine e_goto 98 (by decide) dX5_readSlots_94 ?_
          rw [← bI_t e]
          exact mid
        refine e_il4 88 rfl dX5_readSlots_86 ?_
        refine e_bipush (nI 42) 90 rfl dX5_readSlots_88 bc_42 ?_
        refine e_cmp_ne 97 93 (by decide) rfl dX5_readSlots_90 (fun z2 => ?_) (fun z2 => ?_)
        · have e : skp hw = false := by
            cases y : skp hw
            · rfl
            · rcases hsk.mp y with x | x
              · exact absurd (q63.mpr x) z1
              · exact absurd (q42.mpr x) z2
          refine e_iconst (nI 0) 98 rfl dX5_readSlots_97 ic_0 ?_
          rw [← bI_f e]
          exact mid
        · have e : skp hw = true := hsk.mpr (Or.inr (q42.mp z2))
          refine e_iconst (nI 1) 94 rfl dX5_readSlots_93 ic_1 ?_
          refine e_goto 98 (by decide) dX5_readSlots_94 ?_
          rw [← bI_t e]
          exact mid
  have gk := hg.1.1
  refine Cl.of0 3 pn_X5 (Nat.le_of_ble_eq_true rfl) ⟨rfl, rfl⟩ rfl ?_
  refine e_al1 1 rfl dX5_readSlots_0 ?_
  refine e_iconst (nI 0) 2 rfl dX5_readSlots_1 ic_0 ?_
  refine e_putI 5 rfl dX5_readSlots_2 f_X5_83 (by assumption) ?_
  refine e_iconst (nI 0) 6 rfl dX5_readSlots_5 ic_0 ?_
  refine e_is2 7 rfl dX5_readSlots_6 (by decide) rfl ?_
  have hF0 : Fr (fun q => q = s) μ (sF μ s 0 (nI 0)) := (Fr.rf (S := fun q => q = s)).sF rfl _ _
  refine loop 8 0 (by omega) 0 [] none none rfl rfl rfl _ (Fr.rf.sF S0 _ _) (fun f hf' => ?_) ?_ ?_ (hX.fr hF0 d0 (fun e => hdt 0 (by decide) e)) (by omega) ⟨by simp only [mN_sF, mK_sF, mL_sF, mF_sF, mB_sF, mA_sF, mJ_sF, mP_sF, mO_sF, mN_sB, mK_sB, mL_sB, mF_sB, mB_sB, mA_sB, mJ_sB, mP_sB, mO_sB, mN_sA, mK_sA, mL_sA, mF_sA, mB_sA, mA_sA, mJ_sA, mP_sA, mO_sA, mN_sJ, mK_sJ, mL_sJ, mF_sJ, mB_sJ, mA_sJ, mJ_sJ, mP_sJ, mO_sJ, mN_sP, mK_sP, mL_sP, mF_sP, mB_sP, mA_sP, mJ_sP, mP_sP, mO_sP, mN_sO, mK_sO, mL_sO, mF_sO, mB_sO, mA_sO, mJ_sO, mP_sO, mO_sO, up2, if_true, if_false, eq_self, ite_true, ite_false, reduceIte, Nat.add_left_cancel_iff, Nat.add_eq_left, Nat.left_eq_add, Nat.reduceEqDiff]; rfl, by simp, fun i x hx => by simp at hx⟩
  · show up2 _ s 0 _ s f = _
    rw [up2_k hf']
  · rw [(hF0.2.2.2.2.2 a d0).1]
  · rw [(hF0.2.2.2.2.2 a d0).1]
end SLOTS
