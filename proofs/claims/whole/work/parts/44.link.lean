/-! NameDesk$Shape.link -/
section LINK
variable {E : En} {μ : Mm} {K : Option Value → Mm → Prop}
theorem c_link {s : Nat} {sl : List Slot0} (hg : Sg μ s) (hs : Ss μ s sl) (k : ∀ μ', Fr (lS s) μ μ' → (∀ f, f ≠ 4 → mF μ' s f = mF μ s f) → Sk μ' s sl → K none μ') : Cl E M_X4_link [.ref s] μ K := by
  have S0 : lS s s := Or.inl rfl
  have S4 : lS s (s + 4) := Or.inr (Or.inl rfl)
  have S5 : lS s (s + 5) := Or.inr (Or.inr rfl)
  have n1 : ¬ lS s (s + 1) := by unfold lS; omega
  have n2 : ¬ lS s (s + 2) := by unfold lS; omega
  have n3 : ¬ lS s (s + 3) := by unfold lS; omega
  have s8 := hs.2.1
  -- the loop over the slots
  have loop2 : ∀ (fu i : Nat), i + fu = sl.length → ∀ μ', Fr (lS s) μ μ' → (∀ f, f ≠ 4 → mF μ' s f = mF μ s f) → (∃ v, mF μ' s 4 = nI v ∧ v < 512 ∧ ∀ q, v.testBit q = true ↔ Opn sl 0 q) → (∀ j, j < i → ∃ v, mA μ' (s + 4) j = nI v ∧ v < 512 ∧ ∀ q, v.testBit q = true ↔ Bhd sl j q) → (∀ c, c < 7 → ∃ v, mA μ' (s + 5) c = nI v ∧ v < 256 ∧ ∀ q, v.testBit q = true ↔ q < i ∧ ∃ x, sl[q]? = some x ∧ x.1 = c) → Ev E M_X4_link 0 0 32 [some (.ref s), some (.int (nI i))] [] μ' K := by
    intro fu
    induction fu with
    | zero =>
      intro i hi μ' hF hf h4 hB hK
      have hs' := hs.fr hF (hf 0 (by decide)) n1 n2 n3
      have gk' := (hg.fr hF).1.1
      have q0 := hs'.1
      refine e_il1 33 rfl dX4_link_32 ?_
      refine e_al0 34 rfl dX4_link_33 ?_
      first | refine e_getIv 37 rfl dX4_link_34 f_X4_9 (by assumption) (by first | assumption | (simp only [mN_sF, mK_sF, mL_sF, mF_sF, mB_sF, mA_sF, mJ_sF, mP_sF, mO_sF, mN_sB, mK_sB, mL_sB, mF_sB, mB_sB, mA_sB, mJ_sB, mP_sB, mO_sB, mN_sA, mK_sA, mL_sA, mF_sA, mB_sA, mA_sA, mJ_sA, mP_sA, mO_sA, mN_sJ, mK_sJ, mL_sJ, mF_sJ, mB_sJ, mA_sJ, mJ_sJ, mP_sJ, mO_sJ, mN_sP, mK_sP, mL_sP, mF_sP, mB_sP, mA_sP, mJ_sP, mP_sP, mO_sP, mN_sO, mK_sO, mL_sO, mF_sO, mB_sO, mA_sO, mJ_sO, mP_sO, mO_sO, up2, if_true, if_false, eq_self, ite_true, ite_false, reduceIte, Nat.add_left_cancel_iff, Nat.add_eq_left, Nat.left_eq_add, Nat.reduceEqDiff]; assumption) | (simp only [mN_sF, mK_sF, mL_sF, mF_sF, mB_sF, mA_sF, mJ_sF, mP_sF, mO_sF, mN_sB, mK_sB, mL_sB, mF_sB, mB_sB, mA_sB, mJ_sB, mP_sB, mO_sB, mN_sA, mK_sA, mL_sA, mF_sA, mB_sA, mA_sA, mJ_sA, mP_sA, mO_sA, mN_sJ, mK_sJ, mL_sJ, mF_sJ, mB_sJ, mA_sJ, mJ_sJ, mP_sJ, mO_sJ, mN_sP, mK_sP, mL_sP, mF_sP, mB_sP, mA_sP, mJ_sP, mP_sP, mO_sP, mN_sO, mK_sO, mL_sO, mF_sO, mB_sO, mA_sO, mJ_sO, mP_sO, mO_sO, up2, if_true, if_false, eq_self, ite_true, ite_false, reduceIte, Nat.add_left_cancel_iff, Nat.add_eq_left, Nat.left_eq_add, Nat.reduceEqDiff]; done)) ?_ | refine e_getI 37 rfl dX4_link_34 f_X4_9 (by assumption) ?_
      first | refine e_cmp_geN 93 40 (by decide) rfl dX4_link_37 rfl rfl (by omega) (by omega) (fun h1 => ?_) (fun h1 => ?_) | refine e_cmp_ge 93 40 (by decide) rfl dX4_link_37 (fun h1 => ?_) (fun h1 => ?_)
      rotate_left
      · omega
      refine e_ret dX4_link_93 rfl ?_
      refine k μ' hF hf ⟨h4, fun j hj => hB j (by omega), fun c hc => ?_⟩
      obtain ⟨v, v1, v2, v3⟩ := hK c hc
      refine ⟨v, v1, v2, fun q => ?_⟩
      rw [v3 q]
      constructor
      · exact fun h => h.2
      · rintro ⟨x, hx, e⟩; exact ⟨by have := (List.getElem?_eq_some_iff.mp hx).1; omega, x, hx, e⟩
    | succ fu ih =>
      intro i hi μ' hF hf h4 hB hK
      have hs' := hs.fr hF (hf 0 (by decide)) n1 n2 n3
      have hg' := hg.fr hF
      obtain ⟨⟨gk, g1, g2, g3, g5, g6, g7, g9, g11⟩, k1, l1, k2, l2, k3, l3, k4, l4, k5, l5, k6, l6, k7, l7, k8, l8⟩ := id hg'
      obtain ⟨s0, s8', sx⟩ := id hs'
      have hil : i < sl.length := by omega
      have hsi := List.getElem?_eq_getElem hil
      obtain ⟨x1, x2, x3, x4, x5⟩ := sx i _ hsi
      obtain ⟨v, v1, v2, v3⟩ := hK sl[i].1 x4
      refine e_il1 33 rfl dX4_link_32 ?_
      refine e_al0 34 rfl dX4_link_33 ?_
      first | refine e_getIv 37 rfl dX4_link_34 f_X4_9 (by assumption) (by first | assumption | (simp only [mN_sF, mK_sF, mL_sF, mF_sF, mB_sF, mA_sF, mJ_sF, mP_sF, mO_sF, mN_sB, mK_sB, mL_sB, mF_sB, mB_sB, mA_sB, mJ_sB, mP_sB, mO_sB, mN_sA, mK_sA, mL_sA, mF_sA, mB_sA, mA_sA, mJ_sA, mP_sA, mO_sA, mN_sJ, mK_sJ, mL_sJ, mF_sJ, mB_sJ, mA_sJ, mJ_sJ, mP_sJ, mO_sJ, mN_sP, mK_sP, mL_sP, mF_sP, mB_sP, mA_sP, mJ_sP, mP_sP, mO_sP, mN_sO, mK_sO, mL_sO, mF_sO, mB_sO, mA_sO, mJ_sO, mP_sO, mO_sO, up2, if_true, if_false, eq_self, ite_true, ite_false, reduceIte, Nat.add_left_cancel_iff, Nat.add_eq_left, Nat.left_eq_add, Nat.reduceEqDiff]; assumption) | (simp only [mN_sF, mK_sF, mL_sF, mF_sF, mB_sF, mA_sF, mJ_sF, mP_sF, mO_sF, mN_sB, mK_sB, mL_sB, mF_sB, mB_sB, mA_sB, mJ_sB, mP_sB, mO_sB, mN_sA, mK_sA, mL_sA, mF_sA, mB_sA, mA_sA, mJ_sA, mP_sA, mO_sA, mN_sJ, mK_sJ, mL_sJ, mF_sJ, mB_sJ, mA_sJ, mJ_sJ, mP_sJ, mO_sJ, mN_sP, mK_sP, mL_sP, mF_sP, mB_sP, mA_sP, mJ_sP, mP_sP, mO_sP, mN_sO, mK_sO, mL_sO, mF_sO, mB_sO, mA_sO, mJ_sO, mP_sO, mO_sO, up2, if_true, if_false, eq_self, ite_true, ite_false, reduceIte, Nat.add_left_cancel_iff, Nat.add_eq_left, Nat.left_eq_add, Nat.reduceEqDiff]; done)) ?_ | refine e_getI 37 rfl dX4_link_34 f_X4_9 (by assumption) ?_
      first | refine e_cmp_geN 93 40 (by decide) rfl dX4_link_37 rfl rfl (by omega) (by omega) (fun h1 => ?_) (fun h1 => ?_) | refine e_cmp_ge 93 40 (by decide) rfl dX4_link_37 (fun h1 => ?_) (fun h1 => ?_)
      · omega
      refine e_al0 41 rfl dX4_link_40 ?_
      refine e_getR 44 rfl dX4_link_41 f_X4_32 (by assumption) (by assumption) ?_
      refine e_al0 45 rfl dX4_link_44 ?_
      refine e_getR 48 rfl dX4_link_45 f_X4_15 (by assumption) (by assumption) ?_
      refine e_il1 49 rfl dX4_link_48 ?_
      first | refine e_ialdv 50 rfl dX4_link_49 (by assumption) (by assumption) (by first | rfl | simp only [pk_mul, nI_add]) (by omega) (by omega) (by first | assumption | (simp only [mN_sF, mK_sF, mL_sF, mF_sF, mB_sF, mA_sF, mJ_sF, mP_sF, mO_sF, mN_sB, mK_sB, mL_sB, mF_sB, mB_sB, mA_sB, mJ_sB, mP_sB, mO_sB, mN_sA, mK_sA, mL_sA, mF_sA, mB_sA, mA_sA, mJ_sA, mP_sA, mO_sA, mN_sJ, mK_sJ, mL_sJ, mF_sJ, mB_sJ, mA_sJ, mJ_sJ, mP_sJ, mO_sJ, mN_sP, mK_sP, mL_sP, mF_sP, mB_sP, mA_sP, mJ_sP, mP_sP, mO_sP, mN_sO, mK_sO, mL_sO, mF_sO, mB_sO, mA_sO, mJ_sO, mP_sO, mO_sO, up2, if_true, if_false, eq_self, ite_true, ite_false, reduceIte, Nat.add_left_cancel_iff, Nat.add_eq_left, Nat.left_eq_add, Nat.reduceEqDiff]; assumption) | (simp only [mN_sF, mK_sF, mL_sF, mF_sF, mB_sF, mA_sF, mJ_sF, mP_sF, mO_sF, mN_sB, mK_sB, mL_sB, mF_sB, mB_sB, mA_sB, mJ_sB, mP_sB, mO_sB, mN_sA, mK_sA, mL_sA, mF_sA, mB_sA, mA_sA, mJ_sA, mP_sA, mO_sA, mN_sJ, mK_sJ, mL_sJ, mF_sJ, mB_sJ, mA_sJ, mJ_sJ, mP_sJ, mO_sJ, mN_sP, mK_sP, mL_sP, mF_sP, mB_sP, mA_sP, mJ_sP, mP_sP, mO_sP, mN_sO, mK_sO, mL_sO, mF_sO, mB_sO, mA_sO, mJ_sO, mP_sO, mO_sO, up2, if_true, if_false, eq_self, ite_true, ite_false, reduceIte, Nat.add_left_cancel_iff, Nat.add_eq_left, Nat.left_eq_add, Nat.reduceEqDiff]; done)) ?_ | refine e_iald 50 rfl dX4_link_49 (by assumption) (by assumption) (by first | rfl | simp only [pk_mul, nI_add]) (by omega) (by omega) ?_
      refine e_dup2 51 rfl dX4_link_50 rfl rfl ?_
      first | refine e_ialdv 52 rfl dX4_link_51 (by assumption) (by assumption) (by first | rfl | simp only [pk_mul, nI_add]) (by omega) (by omega) (by first | assumption | (simp only [mN_sF, mK_sF, mL_sF, mF_sF, mB_sF, mA_sF, mJ_sF, mP_sF, mO_sF, mN_sB, mK_sB, mL_sB, mF_sB, mB_sB, mA_sB, mJ_sB, mP_sB, mO_sB, mN_sA, mK_sA, mL_sA, mF_sA, mB_sA, mA_sA, mJ_sA, mP_sA, mO_sA, mN_sJ, mK_sJ, mL_sJ, mF_sJ, mB_sJ, mA_sJ, mJ_sJ, mP_sJ, mO_sJ, mN_sP, mK_sP, mL_sP, mF_sP, mB_sP, mA_sP, mJ_sP, mP_sP, mO_sP, mN_sO, mK_sO, mL_sO, mF_sO, mB_sO, mA_sO, mJ_sO, mP_sO, mO_sO, up2, if_true, if_false, eq_self, ite_true, ite_false, reduceIte, Nat.add_left_cancel_iff, Nat.add_eq_left, Nat.left_eq_add, Nat.reduceEqDiff]; assumption) | (simp only [mN_sF, mK_sF, mL_sF, mF_sF, mB_sF, mA_sF, mJ_sF, mP_sF, mO_sF, mN_sB, mK_sB, mL_sB, mF_sB, mB_sB, mA_sB, mJ_sB, mP_sB, mO_sB, mN_sA, mK_sA, mL_sA, mF_sA, mB_sA, mA_sA, mJ_sA, mP_sA, mO_sA, mN_sJ, mK_sJ, mL_sJ, mF_sJ, mB_sJ, mA_sJ, mJ_sJ, mP_sJ, mO_sJ, mN_sP, mK_sP, mL_sP, mF_sP, mB_sP, mA_sP, mJ_sP, mP_sP, mO_sP, mN_sO, mK_sO, mL_sO, mF_sO, mB_sO, mA_sO, mJ_sO, mP_sO, mO_sO, up2, if_true, if_false, eq_self, ite_true, ite_false, reduceIte, Nat.add_left_cancel_iff, Nat.add_eq_left, Nat.left_eq_add, Nat.reduceEqDiff]; done)) ?_ | refine e_iald 52 rfl dX4_link_51 (by assumption) (by assumption) (by first | rfl | simp only [pk_mul, nI_add]) (by omega) (by omega) ?_
      refine e_iconst (nI 1) 53 rfl dX4_link_52 ic_1 ?_
      refine e_il1 54 rfl dX4_link_53 ?_
      refine e_ishl1 55 rfl dX4_link_54 rfl rfl (by omega) ?_
      refine e_iorN 56 rfl dX4_link_55 rfl rfl ?_
      refine e_iast 57 rfl dX4_link_56 (by assumption) (by assumption) (by first | rfl | simp only [pk_mul, nI_add]) (by omega) (by omega) ?_
      refine e_al0 58 rfl dX4_link_57 ?_
      refine e_getR 61 rfl dX4_link_58 f_X4_29 (by assumption) (by assumption) ?_
      refine e_il1 62 rfl dX4_link_61 ?_
      refine e_al0 63 rfl dX4_link_62 ?_
      refine e_il1 64 rfl dX4_link_63 ?_
      refine e_iconst (nI 1) 65 rfl dX4_link_64 ic_1 ?_
      first | refine e_iaddN 66 rfl dX4_link_65 rfl rfl ?_ | refine e_iadd 66 rfl dX4_link_65 ?_
      refine e_invV0 [_] 69 rfl dX4_link_66 k_X4_54 mo_X4_openFrom rm_X4_link_X4_openFrom ⟨rfl, rfl⟩ rfl rfl (by assumption) (Nat.le_of_ble_eq_true rfl) ?_
      have hF1 : Fr (lS s) μ' (sA μ' (s + 5) sl[i].1 (nI (v ||| 2 ^ i))) := Fr.rf.sA S5 _ _
      refine c_openFrom (i := i + 1) (hg'.fr hF1) (hs'.fr hF1 rfl n1 n2 n3) (by omega) (fun u u1 u2 => ?_)
      have hK5 : ∀ c, c < 7 → ∃ v', mA (sA μ' (s + 5) sl[i].1 (nI (v ||| 2 ^ i))) (s + 5) c = nI v' ∧ v' < 256 ∧ ∀ q, v'.testBit q = true ↔ q < i + 1 ∧ ∃ x, sl[q]? = some x ∧ x.1 = c := by
        intro c hc
        by_cases e : c = sl[i].1
        · refine ⟨v ||| 2 ^ i, ?_, or_lt (n := 8) v2 (pow_lt (by omega)), fun q => ?_⟩
          · show up2 _ (s + 5) _ _ (s + 5) c = _
            rw [e, up2_s]
          · rw [tb_or, v3 q, tb_pow, e]
            constructor
            · rintro (⟨q1, q2⟩ | q1)
              · exact ⟨by omega, q2⟩
              · subst q1; exact ⟨by omega, _, hsi, rfl⟩
            · rintro ⟨q1, q2⟩
              by_cases z : q = i
              · exact Or.inr z
              · exact Or.inl ⟨by omega, q2⟩
        · obtain ⟨w, w1, w2, w3⟩ := hK c hc
          refine ⟨w, ?_, w2, fun q => ?_⟩
          · show up2 _ (s + 5) _ _ (s + 5) c = _
            rw [up2_k e]; exact w1
          · rw [w3 q]
            constructor
            · rintro ⟨q1, q2⟩; exact ⟨by omega, q2⟩
            · rintro ⟨q1, x, q2, q3⟩
              by_cases z : q = i
              · subst z; rw [hsi] at q2; cases q2; exact absurd q3.symm e
              · exact ⟨by omega, x, q2, q3⟩
      have fin : ∀ w, w < 512 → (∀ q, w.testBit q = true ↔ Bhd sl i q) → Ev E M_X4_link 0 0 86 [some (.ref s), some (.int (nI i))] [.int (nI w), .int (nI i), .ref (s + 4)] (sA μ' (s + 5) sl[i].1 (nI (v ||| 2 ^ i))) K := by
        intro w hw1 hw2
        refine e_iast 87 rfl dX4_link_86 (by assumption) (by assumption) (by first | rfl | simp only [pk_mul, nI_add]) (by omega) (by omega) ?_
        refine e_ii1 (nI (_ + 1)) 90 rfl dX4_link_87 (ii1 _) rfl ?_
        refine e_goto 32 (by decide) dX4_link_90 ?_
        refine ih (i + 1) (by omega) _ ((hF.trans hF1).sA S4 _ _) (fun f hf' => hf f hf') h4 (fun j hj => ?_) (fun c hc => ?_)
        · by_cases z : j = i
          · refine ⟨w, ?_, hw1, by rw [z]; exact hw2⟩
            show up2 _ (s + 4) _ _ (s + 4) j = _
            rw [z, up2_s]
          · obtain ⟨y, y1, y2, y3⟩ := hB j (by omega)
            refine ⟨y, ?_, y2, y3⟩
            show up2 (up2 _ (s + 5) _ _) (s + 4) _ _ (s + 4) j = _
            rw [up2_k z, up2_a (by omega)]; exact y1
        · obtain ⟨y, y1, y2, y3⟩ := hK5 c hc
          refine ⟨y, ?_, y2, y3⟩
          show up2 _ (s + 4) _ _ (s + 5) c = _
          rw [up2_a (by omega)]; exact y1
      refine e_al0 70 rfl dX4_link_69 ?_
      refine e_getR 73 rfl dX4_link_70 f_X4_23 (by assumption) (by assumption) ?_
      refine e_il1 74 rfl dX4_link_73 ?_
      first | refine e_baldv 75 rfl dX4_link_74 (by assumption) (by assumption) (by first | rfl | simp only [pk_mul, nI_add]) (by omega) (by omega) (by first | assumption | (simp only [mN_sF, mK_sF, mL_sF, mF_sF, mB_sF, mA_sF, mJ_sF, mP_sF, mO_sF, mN_sB, mK_sB, mL_sB, mF_sB, mB_sB, mA_sB, mJ_sB, mP_sB, mO_sB, mN_sA, mK_sA, mL_sA, mF_sA, mB_sA, mA_sA, mJ_sA, mP_sA, mO_sA, mN_sJ, mK_sJ, mL_sJ, mF_sJ, mB_sJ, mA_sJ, mJ_sJ, mP_sJ, mO_sJ, mN_sP, mK_sP, mL_sP, mF_sP, mB_sP, mA_sP, mJ_sP, mP_sP, mO_sP, mN_sO, mK_sO, mL_sO, mF_sO, mB_sO, mA_sO, mJ_sO, mP_sO, mO_sO, up2, if_true, if_false, eq_self, ite_true, ite_false, reduceIte, Nat.add_left_cancel_iff, Nat.add_eq_left, Nat.left_eq_add, Nat.reduceEqDiff]; assumption) | (simp only [mN_sF, mK_sF, mL_sF, mF_sF, mB_sF, mA_sF, mJ_sF, mP_sF, mO_sF, mN_sB, mK_sB, mL_sB, mF_sB, mB_sB, mA_sB, mJ_sB, mP_sB, mO_sB, mN_sA, mK_sA, mL_sA, mF_sA, mB_sA, mA_sA, mJ_sA, mP_sA, mO_sA, mN_sJ, mK_sJ, mL_sJ, mF_sJ, mB_sJ, mA_sJ, mJ_sJ, mP_sJ, mO_sJ, mN_sP, mK_sP, mL_sP, mF_sP, mB_sP, mA_sP, mJ_sP, mP_sP, mO_sP, mN_sO, mK_sO, mL_sO, mF_sO, mB_sO, mA_sO, mJ_sO, mP_sO, mO_sO, up2, if_true, if_false, eq_self, ite_true, ite_false, reduceIte, Nat.add_left_cancel_iff, Nat.add_eq_left, Nat.left_eq_add, Nat.reduceEqDiff]; done)) ?_ | refine e_zaldv 75 rfl dX4_link_74 (by assumption) (by assumption) (by first | rfl | simp only [pk_mul, nI_add]) (by omega) (by omega) (by first | assumption | (simp only [mN_sF, mK_sF, mL_sF, mF_sF, mB_sF, mA_sF, mJ_sF, mP_sF, mO_sF, mN_sB, mK_sB, mL_sB, mF_sB, mB_sB, mA_sB, mJ_sB, mP_sB, mO_sB, mN_sA, mK_sA, mL_sA, mF_sA, mB_sA, mA_sA, mJ_sA, mP_sA, mO_sA, mN_sJ, mK_sJ, mL_sJ, mF_sJ, mB_sJ, mA_sJ, mJ_sJ, mP_sJ, mO_sJ, mN_sP, mK_sP, mL_sP, mF_sP, mB_sP, mA_sP, mJ_sP, mP_sP, mO_sP, mN_sO, mK_sO, mL_sO, mF_sO, mB_sO, mA_sO, mJ_sO, mP_sO, mO_sO, up2, if_true, if_false, eq_self, ite_true, ite_false, reduceIte, Nat.add_left_cancel_iff, Nat.add_eq_left, Nat.left_eq_add, Nat.reduceEqDiff]; assumption) | (simp only [mN_sF, mK_sF, mL_sF, mF_sF, mB_sF, mA_sF, mJ_sF, mP_sF, mO_sF, mN_sB, mK_sB, mL_sB, mF_sB, mB_sB, mA_sB, mJ_sB, mP_sB, mO_sB, mN_sA, mK_sA, mL_sA, mF_sA, mB_sA, mA_sA, mJ_sA, mP_sA, mO_sA, mN_sJ, mK_sJ, mL_sJ, mF_sJ, mB_sJ, mA_sJ, mJ_sJ, mP_sJ, mO_sJ, mN_sP, mK_sP, mL_sP, mF_sP, mB_sP, mA_sP, mJ_sP, mP_sP, mO_sP, mN_sO, mK_sO, mL_sO, mF_sO, mB_sO, mA_sO, mJ_sO, mP_sO, mO_sO, up2, if_true, if_false, eq_self, ite_true, ite_false, reduceIte, Nat.add_left_cancel_iff, Nat.add_eq_left, Nat.left_eq_add, Nat.reduceEqDiff]; done)) ?_ | refine e_bald 75 rfl dX4_link_74 (by assumption) (by assumption) (by first | rfl | simp only [pk_mul, nI_add]) (by omega) (by omega) ?_ | refine e_zald 75 rfl dX4_link_74 (by assumption) (by assumption) (by first | rfl | simp only [pk_mul, nI_add]) (by omega) (by omega) ?_
      first | refine e_if_eqB 84 78 (by decide) rfl dX4_link_75 rfl (fun h2 => ?_) (fun h2 => ?_) | refine e_if_eqN 84 78 (by decide) rfl dX4_link_75 rfl (by omega) (fun h2 => ?_) (fun h2 => ?_) | refine e_if_eq 84 78 (by decide) rfl dX4_link_75 (fun h2 => ?_) (fun h2 => ?_)
      · refine e_iconst (nI 0) 85 rfl dX4_link_84 ic_0 ?_
        refine e_iorN 86 rfl dX4_link_85 rfl rfl ?_
        refine fin _ (or_lt (n := 9) u1 (by decide)) (fun q => ?_)
        rw [tb_or, u2 q]
        unfold Bhd
        constructor
        · rintro (z | z)
          · exact Or.inl z
          · simp at z
        · rintro (z | ⟨z1, x, z2, z3⟩)
          · exact Or.inl z
          · rw [hsi] at z2; cases z2; rw [h2] at z3; cases z3
      · refine e_iconst (nI 1) 79 rfl dX4_link_78 ic_1 ?_
        refine e_il1 80 rfl dX4_link_79 ?_
        refine e_ishl1 81 rfl dX4_link_80 rfl rfl (by omega) ?_
        refine e_goto 85 (by decide) dX4_link_81 ?_
        refine e_iorN 86 rfl dX4_link_85 rfl rfl ?_
        refine fin _ (or_lt (n := 9) u1 (pow_lt (by omega))) (fun q => ?_)
        rw [tb_or, u2 q, tb_pow]
        unfold Bhd
        constructor
        · rintro (z | z)
          · exact Or.inl z
          · exact Or.inr ⟨z, _, hsi, h2⟩
        · rintro (z | ⟨z1, z2⟩)
          · exact Or.inl z
          · exact Or.inr z1
  have loop1 : ∀ (fu i : Nat), i + fu = 7 → ∀ μ', Fr (lS s) μ μ' → (∀ f, mF μ' s f = mF μ s f) → (∀ c, c < i → mA μ' (s + 5) c = nI 0) → Ev E M_X4_link 0 0 2 [some (.ref s), some (.int (nI i))] [] μ' K := by
    intro fu
    induction fu with
    | zero =>
      intro i hi μ' hF hf hz
      have hs' := hs.fr hF (hf 0) n1 n2 n3
      have hg' := hg.fr hF
      have gk := hg'.1.1
      refine e_il1 3 rfl dX4_link_2 ?_
      refine e_bipush (nI 7) 5 rfl dX4_link_3 bc_7 ?_
      first | refine e_cmp_geN 21 8 (by decide) rfl dX4_link_5 rfl rfl (by omega) (by omega) (fun h1 => ?_) (fun h1 => ?_) | refine e_cmp_ge 21 8 (by decide) rfl dX4_link_5 (fun h1 => ?_) (fun h1 => ?_)
      rotate_left
      · omega
      refine e_al0 22 rfl dX4_link_21 ?_
      refine e_al0 23 rfl dX4_link_22 ?_
      refine e_iconst (nI 0) 24 rfl dX4_link_23 ic_0 ?_
      refine e_invV0 [_] 27 rfl dX4_link_24 k_X4_54 mo_X4_openFrom rm_X4_link_X4_openFrom ⟨rfl, rfl⟩ rfl rfl (by assumption) (Nat.le_of_ble_eq_true rfl) ?_
      refine c_openFrom (i := 0) hg' hs' (by omega) (fun u u1 u2 => ?_)
      refine e_putI 30 rfl dX4_link_27 f_X4_26 (by assumption) ?_
      refine e_iconst (nI 0) 31 rfl dX4_link_30 ic_0 ?_
      refine e_is1 32 rfl dX4_link_31 (by decide) rfl ?_
      refine loop2 sl.length 0 (by omega) _ (hF.sF S0 _ _) (fun f hf' => ?_) ⟨u, by simp only [mN_sF, mK_sF, mL_sF, mF_sF, mB_sF, mA_sF, mJ_sF, mP_sF, mO_sF, mN_sB, mK_sB, mL_sB, mF_sB, mB_sB, mA_sB, mJ_sB, mP_sB, mO_sB, mN_sA, mK_sA, mL_sA, mF_sA, mB_sA, mA_sA, mJ_sA, mP_sA, mO_sA, mN_sJ, mK_sJ, mL_sJ, mF_sJ, mB_sJ, mA_sJ, mJ_sJ, mP_sJ, mO_sJ, mN_sP, mK_sP, mL_sP, mF_sP, mB_sP, mA_sP, mJ_sP, mP_sP, mO_sP, mN_sO, mK_sO, mL_sO, mF_sO, mB_sO, mA_sO, mJ_sO, mP_sO, mO_sO, up2, if_true, if_false, eq_self, ite_true, ite_false, reduceIte, Nat.add_left_cancel_iff, Nat.add_eq_left, Nat.left_eq_add, Nat.reduceEqDiff], u1, u2⟩ (fun j hj => by omega) (fun c hc => ⟨0, hz c (by omega), by decide, fun q => by simp⟩)
      show up2 _ s 4 _ s f = _
      rw [up2_k hf']; exact hf f
    | succ fu ih =>
      intro i hi μ' hF hf hz
      obtain ⟨⟨gk, g1, g2, g3, g5, g6, g7, g9, g11⟩, k1, l1, k2, l2, k3, l3, k4, l4, k5, l5, k6, l6, k7, l7, k8, l8⟩ := hg.fr hF
      refine e_il1 3 rfl dX4_link_2 ?_
      refine e_bipush (nI 7) 5 rfl dX4_link_3 bc_7 ?_
      first | refine e_cmp_geN 21 8 (by decide) rfl dX4_link_5 rfl rfl (by omega) (by omega) (fun h1 => ?_) (fun h1 => ?_) | refine e_cmp_ge 21 8 (by decide) rfl dX4_link_5 (fun h1 => ?_) (fun h1 => ?_)
      · omega
      refine e_al0 9 rfl dX4_link_8 ?_
      refine e_getR 12 rfl dX4_link_9 f_X4_32 (by assumption) (by assumption) ?_
      refine e_il1 13 rfl dX4_link_12 ?_
      refine e_iconst (nI 0) 14 rfl dX4_link_13 ic_0 ?_
      refine e_iast 15 rfl dX4_link_14 (by assumption) (by assumption) (by first | rfl | simp only [pk_mul, nI_add]) (by omega) (by omega) ?_
      refine e_ii1 (nI (_ + 1)) 18 rfl dX4_link_15 (ii1 _) rfl ?_
      refine e_goto 2 (by decide) dX4_link_18 ?_
      refine ih (i + 1) (by omega) _ (hF.sA S5 _ _) hf (fun c hc => ?_)
      show up2 _ (s + 5) _ _ (s + 5) c = _
      by_cases e : c = i
      · rw [e, up2_s]
      · rw [up2_k e]; exact hz c (by omega)
  refine Cl.of0 1 pn_X4 (Nat.le_of_ble_eq_true rfl) ⟨rfl, rfl⟩ rfl ?_
  refine e_iconst (nI 0) 1 rfl dX4_link_0 ic_0 ?_
  refine e_is1 2 rfl dX4_link_1 (by decide) rfl ?_
  exact loop1 7 0 (by omega) μ Fr.rf (fun f => rfl) (fun c hc => by omega)
end LINK
