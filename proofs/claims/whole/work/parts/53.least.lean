/-! NameDesk$Reader: leastFrom -/
section LEAST
variable {E : En} {μ : Mm} {K : Option Value → Mm → Prop}
def Lrow (μ : Mm) (r : Nat) (sl : List Slot0) (C : Nat → Nat → Nat) (n w : Nat) : Prop := ∀ i, i < sl.length → ∃ v, mA μ (r + 20 + w) i = nI v ∧ Mo (Rs sl C (n - w - 1) w i) v
theorem and256 (o : Nat) : o &&& 256 = 0 ↔ o.testBit 8 = false := by
  rw [show (256 : Nat) = 2 ^ 8 from rfl]
  constructor
  · intro h
    cases e : o.testBit 8
    · rfl
    · have : (o &&& 2 ^ 8).testBit 8 = true := by rw [tb_and, tb_pow]; exact ⟨e, rfl⟩
      rw [h] at this; simp at this
  · intro h
    refine no_bit (fun q => ?_)
    cases e : (o &&& 2 ^ 8).testBit q
    · rfl
    · rw [tb_and, tb_pow] at e
      rw [e.2, h] at e; cases e.1
theorem c_leastFrom {r n w o : Nat} {sl : List Slot0} {C : Nat → Nat → Nat} (hg : Rg μ r) (hn : mF μ r 1 = nI n) (hn8 : n ≤ 8) (hw : w ≤ n) (hs8 : sl.length ≤ 8) (h7 : ∀ x ∈ sl, x.1 < 7) (ho : Om sl o) (hL : w < n → Lrow μ r sl C n w) (k : ∀ v, Mo (Rn sl C (n - w) w o) v → K (some (.int (nI v))) μ) : Cl E M_X3_leastFrom [.ref r, .int (nI w), .int (nI o)] μ K := by
  obtain ⟨⟨gk, g2, g3, g7, k10, l10, k19, l19, k28, l28, k29, l29, k30, l30⟩, gw⟩ := hg
  have ho5 := ho.1
  refine Cl.of0 2 pn_X3 (Nat.le_of_ble_eq_true rfl) ⟨rfl, rfl⟩ rfl ?_
  refine e_il1 1 rfl dX3_leastFrom_0 ?_
  refine e_al0 2 rfl dX3_leastFrom_1 ?_
  first | refine e_getIv 5 rfl dX3_leastFrom_2 f_X3_18 (by assumption) (by first | assumption | (simp only [mN_sF, mK_sF, mL_sF, mF_sF, mB_sF, mA_sF, mJ_sF, mP_sF, mO_sF, mN_sB, mK_sB, mL_sB, mF_sB, mB_sB, mA_sB, mJ_sB, mP_sB, mO_sB, mN_sA, mK_sA, mL_sA, mF_sA, mB_sA, mA_sA, mJ_sA, mP_sA, mO_sA, mN_sJ, mK_sJ, mL_sJ, mF_sJ, mB_sJ, mA_sJ, mJ_sJ, mP_sJ, mO_sJ, mN_sP, mK_sP, mL_sP, mF_sP, mB_sP, mA_sP, mJ_sP, mP_sP, mO_sP, mN_sO, mK_sO, mL_sO, mF_sO, mB_sO, mA_sO, mJ_sO, mP_sO, mO_sO, up2, if_true, if_false, eq_self, ite_true, ite_false, reduceIte, Nat.add_left_cancel_iff, Nat.add_eq_left, Nat.left_eq_add, Nat.reduceEqDiff]; assumption) | (simp only [mN_sF, mK_sF, mL_sF, mF_sF, mB_sF, mA_sF, mJ_sF, mP_sF, mO_sF, mN_sB, mK_sB, mL_sB, mF_sB, mB_sB, mA_sB, mJ_sB, mP_sB, mO_sB, mN_sA, mK_sA, mL_sA, mF_sA, mB_sA, mA_sA, mJ_sA, mP_sA, mO_sA, mN_sJ, mK_sJ, mL_sJ, mF_sJ, mB_sJ, mA_sJ, mJ_sJ, mP_sJ, mO_sJ, mN_sP, mK_sP, mL_sP, mF_sP, mB_sP, mA_sP, mJ_sP, mP_sP, mO_sP, mN_sO, mK_sO, mL_sO, mF_sO, mB_sO, mA_sO, mJ_sO, mP_sO, mO_sO, up2, if_true, if_false, eq_self, ite_true, ite_false, reduceIte, Nat.add_left_cancel_iff, Nat.add_eq_left, Nat.left_eq_add, Nat.reduceEqDiff]; done)) ?_ | refine e_getI 5 rfl dX3_leastFrom_2 f_X3_18 (by assumption) ?_
  first | refine e_cmp_ltN 24 8 (by decide) rfl dX3_leastFrom_5 rfl rfl (by omega) (by omega) (fun h1 => ?_) (fun h1 => ?_) | refine e_cmp_lt 24 8 (by decide) rfl dX3_leastFrom_5 (fun h1 => ?_) (fun h1 => ?_)
  rotate_left
  · have e : n - w = 0 := by omega
    rw [e] at k
    refine e_il2 9 rfl dX3_leastFrom_8 ?_
    refine e_sipush (nI 256) 12 rfl dX3_leastFrom_9 sc_256 ?_
    refine e_iandN 13 rfl dX3_leastFrom_12 rfl rfl ?_
    refine e_if_eqN 20 16 (by decide) rfl dX3_leastFrom_13 rfl (Nat.lt_of_le_of_lt Nat.and_le_right (by decide)) (fun h2 => ?_) (fun h2 => ?_)
    · refine e_sipush (nI 1000) 23 rfl dX3_leastFrom_20 sc_1000 ?_
      refine e_iret dX3_leastFrom_23 rfl ?_
      exact k 1000 (Or.inl ⟨rfl, fun d q => by have := q.2; rw [(and256 o).mp h2] at this; cases this⟩)
    · refine e_iconst (nI 0) 17 rfl dX3_leastFrom_16 ic_0 ?_
      refine e_goto 23 (by decide) dX3_leastFrom_17 ?_
      refine e_iret dX3_leastFrom_23 rfl ?_
      refine k 0 (Or.inr ⟨by decide, ⟨rfl, ?_⟩, fun d q => Nat.zero_le _⟩)
      cases q : o.testBit 8
      · exact absurd ((and256 o).mpr q) h2
      · rfl
  have hL' := hL h1
  obtain ⟨w1, w2, w3, w4⟩ := gw w (by omega)
  obtain ⟨f, hf⟩ : ∃ f, n - w = f + 1 := ⟨n - w - 1, by omega⟩
  have hf1 : n - w - 1 = f := by omega
  unfold Lrow at hL'
  rw [hf1] at hL'
  rw [hf] at k
  have loop : ∀ (fu j b : Nat), j + fu = 8 → Mo (fun d => ∃ i, i < j ∧ o.testBit i = true ∧ Rs sl C f w i d) b → Ev E M_X3_leastFrom 0 0 31 [some (.ref r), some (.int (nI w)), some (.int (nI o)), some (.int (nI b)), some (.int (nI j))] [] μ K := by
    intro fu
    induction fu with
    | zero =>
      intro j b hj hb
      refine e_il4 33 rfl dX3_leastFrom_31 ?_
      refine e_bipush (nI 8) 35 rfl dX3_leastFrom_33 bc_8 ?_
      first | refine e_cmp_geN 67 38 (by decide) rfl dX3_leastFrom_35 rfl rfl (by omega) (by omega) (fun z1 => ?_) (fun z1 => ?_) | refine e_cmp_ge 67 38 (by decide) rfl dX3_leastFrom_35 (fun z1 => ?_) (fun z1 => ?_)
      rotate_left
      · omega
      refine e_il3 68 rfl dX3_leastFrom_67 ?_
      refine e_iret dX3_leastFrom_68 rfl ?_
      refine k b (hb.congr (fun d => ?_))
      rw [Rn_slots hs8 h7]
      constructor
      · rintro ⟨i, _, a⟩; exact ⟨i, a⟩
      · rintro ⟨i, a, x, b', c⟩
        exact ⟨i, by have := (List.getElem?_eq_some_iff.mp b').1; omega, a, x, b', c⟩
    | succ fu ih =>
      intro j b hj hb
      have hb1 := hb.le
      have next : ∀ b', Mo (fun d => ∃ i, i < j + 1 ∧ o.testBit i = true ∧ Rs sl C f w i d) b' → Ev E M_X3_leastFrom 0 0 61 [some (.ref r), some (.int (nI w)), some (.int (nI o)), some (.int (nI b')), some (.int (nI j))] [] μ K := by
        intro b' hb'
        refine e_ii4 (nI (_ + 1)) 64 rfl dX3_leastFrom_61 (ii1 _) rfl ?_
        refine e_goto 31 (by decide) dX3_leastFrom_64 ?_
        exact ih (j + 1) b' (by omega) hb'
      refine e_il4 33 rfl dX3_leastFrom_31 ?_
      refine e_bipush (nI 8) 35 rfl dX3_leastFrom_33 bc_8 ?_
      first | refine e_cmp_geN 67 38 (by decide) rfl dX3_leastFrom_35 rfl rfl (by omega) (by omega) (fun z1 => ?_) (fun z1 => ?_) | refine e_cmp_ge 67 38 (by decide) rfl dX3_leastFrom_35 (fun z1 => ?_) (fun z1 => ?_)
      · omega
      refine e_il2 39 rfl dX3_leastFrom_38 ?_
      refine e_il4 41 rfl dX3_leastFrom_39 ?_
      refine e_ishrN 42 rfl dX3_leastFrom_41 rfl rfl (by omega) (by omega) ?_
      refine e_iconst (nI 1) 43 rfl dX3_leastFrom_42 ic_1 ?_
      refine e_iandN 44 rfl dX3_leastFrom_43 rfl rfl ?_
      refine e_if_eqN 61 47 (by decide) rfl dX3_leastFrom_44 rfl (Nat.lt_of_le_of_lt Nat.and_le_right (by decide)) (fun z2 => ?_) (fun z2 => ?_)
      · have q := (bit1 o j).mp z2
        refine next b (hb.congr (fun d => ?_))
        constructor
        · rintro ⟨i, a, c⟩; exact ⟨i, by omega, c⟩
        · rintro ⟨i, a, c, e⟩
          by_cases y : i = j
          · subst y; rw [q] at c; cases c
          · exact ⟨i, by omega, c, e⟩
      · have q : o.testBit j = true := by cases q : o.testBit j; exact absurd ((bit1 o j).mpr q) z2; rfl
        have hjl : j < sl.length := by rcases ho.2 j q with y | y <;> omega
        obtain ⟨v, v1, v2⟩ := hL' j hjl
        have hv1 := v2.le
        refine e_il3 48 rfl dX3_leastFrom_47 ?_
        refine e_al0 49 rfl dX3_leastFrom_48 ?_
        refine e_getR 52 rfl dX3_leastFrom_49 f_X3_27 (by assumption) (by assumption) ?_
        refine e_il1 53 rfl dX3_leastFrom_52 ?_
        refine e_aald 54 rfl dX3_leastFrom_53 (by assumption) (by decide) (by assumption) (by first | rfl | simp only [pk_mul, nI_add]) (by omega) (by omega) (by assumption) ?_
        refine e_il4 56 rfl dX3_leastFrom_54 ?_
        first | refine e_ialdv 57 rfl dX3_leastFrom_56 (by assumption) (by assumption) (by first | rfl | simp only [pk_mul, nI_add]) (by omega) (by omega) (by first | assumption | (simp only [mN_sF, mK_sF, mL_sF, mF_sF, mB_sF, mA_sF, mJ_sF, mP_sF, mO_sF, mN_sB, mK_sB, mL_sB, mF_sB, mB_sB, mA_sB, mJ_sB, mP_sB, mO_sB, mN_sA, mK_sA, mL_sA, mF_sA, mB_sA, mA_sA, mJ_sA, mP_sA, mO_sA, mN_sJ, mK_sJ, mL_sJ, mF_sJ, mB_sJ, mA_sJ, mJ_sJ, mP_sJ, mO_sJ, mN_sP, mK_sP, mL_sP, mF_sP, mB_sP, mA_sP, mJ_sP, mP_sP, mO_sP, mN_sO, mK_sO, mL_sO, mF_sO, mB_sO, mA_sO, mJ_sO, mP_sO, mO_sO, up2, if_true, if_false, eq_self, ite_true, ite_false, reduceIte, Nat.add_left_cancel_iff, Nat.add_eq_left, Nat.left_eq_add, Nat.reduceEqDiff]; assumption) | (simp only [mN_sF, mK_sF, mL_sF, mF_sF, mB_sF, mA_sF, mJ_sF, mP_sF, mO_sF, mN_sB, mK_sB, mL_sB, mF_sB, mB_sB, mA_sB, mJ_sB, mP_sB, mO_sB, mN_sA, mK_sA, mL_sA, mF_sA, mB_sA, mA_sA, mJ_sA, mP_sA, mO_sA, mN_sJ, mK_sJ, mL_sJ, mF_sJ, mB_sJ, mA_sJ, mJ_sJ, mP_sJ, mO_sJ, mN_sP, mK_sP, mL_sP, mF_sP, mB_sP, mA_sP, mJ_sP, mP_sP, mO_sP, mN_sO, mK_sO, mL_sO, mF_sO, mB_sO, mA_sO, mJ_sO, mP_sO, mO_sO, up2, if_true, if_false, eq_self, ite_true, ite_false, reduceIte, Nat.add_left_cancel_iff, Nat.add_eq_left, Nat.left_eq_add, Nat.reduceEqDiff]; done)) ?_ | refine e_iald 57 rfl dX3_leastFrom_56 (by assumption) (by assumption) (by first | rfl | simp only [pk_mul, nI_add]) (by omega) (by omega) ?_
        first | refine e_minN 60 rfl dX3_leastFrom_57 k_X3_47 (Nat.le_of_ble_eq_true rfl) (Nat.le_of_ble_eq_true rfl) rfl rfl (by omega) (by omega) ?_ | refine e_min 60 rfl dX3_leastFrom_57 k_X3_47 (Nat.le_of_ble_eq_true rfl) (Nat.le_of_ble_eq_true rfl) ?_
        refine e_is3 61 rfl dX3_leastFrom_60 (by decide) rfl ?_
        refine next _ ((hb.or v2).congr (fun d => ?_))
        constructor
        · rintro (⟨i, a, c⟩ | a)
          · exact ⟨i, by omega, c⟩
          · exact ⟨j, by omega, q, a⟩
        · rintro ⟨i, a, c, e⟩
          by_cases y : i = j
          · subst y; exact Or.inr e
          · exact Or.inl ⟨i, by omega, c, e⟩
  refine e_sipush (nI 1000) 27 rfl dX3_leastFrom_24 sc_1000 ?_
  refine e_is3 28 rfl dX3_leastFrom_27 (by decide) rfl ?_
  refine e_iconst (nI 0) 29 rfl dX3_leastFrom_28 ic_0 ?_
  refine e_is4 31 rfl dX3_leastFrom_29 (by decide) rfl ?_
  exact loop 8 0 1000 (by omega) (Or.inl ⟨rfl, fun d ⟨i, a, _⟩ => by omega⟩)
end LEAST
