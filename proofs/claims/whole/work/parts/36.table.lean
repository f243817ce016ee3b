/-! NameDesk$Table -/
section TABLE
variable {E : En} {μ : Mm} {K : Option Value → Mm → Prop}
def Tg (μ : Mm) (a : Nat) : Prop := mK μ a = 7 ∧ mP μ a 0 = some (a + 1) ∧ mP μ a 1 = some (a + 2) ∧ mK μ (a + 1) = 12 ∧ mL μ (a + 1) = 78 ∧ mK μ (a + 2) = 13 ∧ mL μ (a + 2) = 26
theorem Tg.fr {S : Nat → Prop} {μ' : Mm} {a : Nat} (h : Tg μ a) (f : Fr S μ μ') : Tg μ' a := by unfold Tg; rw [f.2.1, f.2.2.1, f.2.2.2.1]; exact h
/-- the letters that the 26 letters become -/
def Tt (μ : Mm) (a : Nat) (tb : Nat → List Nat) : Prop := ∀ i, i < 26 → mA μ (a + 2) i = nI (tb i).length ∧ (tb i).length ≤ 3 ∧ Hd (fun j => mB μ (a + 1) (i * 3 + j)) (tb i) ∧ ∀ c ∈ tb i, 97 ≤ c ∧ c ≤ 122
theorem Tt.fr {S : Nat → Prop} {μ' : Mm} {a : Nat} {tb : Nat → List Nat} (h : Tt μ a tb) (f : Fr S μ μ') (h1 : ¬ S (a + 1)) (h2 : ¬ S (a + 2)) : Tt μ' a tb := by
  unfold Tt
  rw [(f.2.2.2.2.2 (a + 2) h2).2.2.1, (f.2.2.2.2.2 (a + 1) h1).2.1]
  exact h
theorem seg0 (f : Nat → Nat) (n : Nat) : seg f 0 n = (List.range n).map f := by simp [seg]
theorem c_change {a t n m : Nat} {x : Int32} {tx : Nat → Nat} {tb : Nat → List Nat} (ht : Tg μ a) (hc : Tt μ a tb) (hkt : mK μ t = 12) (hlt : mL μ t = n) (hn : n < 2 ^ 31) (htx : ∀ i, i < n → mB μ t i = sb_b (tx i) ∧ tx i < 256) (hne : ¬ wS a t) (hm : m ≤ n)
    (kf : ¬ (∃ i, i < 26 ∧ x = nI i ∧ m ≤ 3 ∧ (seg tx 0 m).all isSm = true) → K (some (.int (nI 0))) μ)
    (kt : ∀ i, i < 26 → x = nI i → m ≤ 3 → (seg tx 0 m).all isSm = true → ∀ μ', Fr (wS a) μ μ' → Tt μ' a (up1 tb i (seg tx 0 m)) → K (some (.int (nI 1))) μ') : Cl E M_X6_change [.ref a, .int x, .ref t, .int (nI m)] μ K := by
  have Sa1 : wS a (a + 1) := ⟨by omega, by omega⟩
  have Sa2 : wS a (a + 2) := ⟨by omega, by omega⟩
  obtain ⟨hk, h0, h1, hk1, hl1, hk2, hl2⟩ := id ht
  refine Cl.of0 1 pn_X6 (Nat.le_of_ble_eq_true rfl) ⟨rfl, rfl⟩ rfl ?_
  rcases pk_ix x (n := 26) (by omega) with q | q | ⟨i, hi, rfl⟩
  · refine e_il1 1 rfl dX6_change_0 ?_
    first | refine e_if_ltN 25 4 (by decide) rfl dX6_change_1 rfl (by omega) ?_ | refine e_if_lt 25 4 (by decide) rfl dX6_change_1 (fun g1 => ?_) (fun g1 => ?_)
    · refine e_iconst (nI 0) 26 rfl dX6_change_25 ic_0 ?_
      refine e_zret dX6_change_26 rfl (by first | exact z0 | exact z1 | exact bI01 _ | assumption) ?_
      exact kf (fun ⟨i, hi, e, _⟩ => by rw [e] at q; exact absurd q (nI_pos (by omega)))
    · exact absurd q g1
  · have q0 : ¬ x < 0 := fun h => absurd (Int32.lt_of_le_of_lt q h) (by decide)
    refine e_il1 1 rfl dX6_change_0 ?_
    first | refine e_if_ltN 25 4 (by decide) rfl dX6_change_1 rfl (by omega) ?_ | refine e_if_lt 25 4 (by decide) rfl dX6_change_1 (fun g1 => ?_) (fun g1 => ?_)
    · exact absurd g1 q0
    refine e_il1 5 rfl dX6_change_4 ?_
    refine e_bipush (nI 26) 7 rfl dX6_change_5 bc_26 ?_
    first | refine e_cmp_geN 25 10 (by decide) rfl dX6_change_7 rfl rfl (by omega) (by omega) (fun g2 => ?_) (fun g2 => ?_) | refine e_cmp_ge 25 10 (by decide) rfl dX6_change_7 (fun g2 => ?_) (fun g2 => ?_)
    · refine e_iconst (nI 0) 26 rfl dX6_change_25 ic_0 ?_
      refine e_zret dX6_change_26 rfl (by first | exact z0 | exact z1 | exact bI01 _ | assumption) ?_
      exact kf (fun ⟨i, hi, e, _⟩ => by rw [e] at q; have := (nI_leI (a := 26) (b := i) (by omega) (by omega)).mp q; omega)
    · exact absurd q g2
  refine e_il1 1 rfl dX6_change_0 ?_
  first | refine e_if_ltN 25 4 (by decide) rfl dX6_change_1 rfl (by omega) ?_ | refine e_if_lt 25 4 (by decide) rfl dX6_change_1 (fun h => ?_) (fun h => ?_)
  refine e_il1 5 rfl dX6_change_4 ?_
  refine e_bipush (nI 26) 7 rfl dX6_change_5 bc_26 ?_
  first | refine e_cmp_geN 25 10 (by decide) rfl dX6_change_7 rfl rfl (by omega) (by omega) (fun g2 => ?_) (fun g2 => ?_) | refine e_cmp_ge 25 10 (by decide) rfl dX6_change_7 (fun g2 => ?_) (fun g2 => ?_)
  · omega
  refine e_il3 11 rfl dX6_change_10 ?_
  first | refine e_if_ltN 25 14 (by decide) rfl dX6_change_11 rfl (by omega) ?_ | refine e_if_lt 25 14 (by decide) rfl dX6_change_11 (fun h => ?_) (fun h => ?_)
  refine e_il3 15 rfl dX6_change_14 ?_
  refine e_iconst (nI 3) 16 rfl dX6_change_15 ic_3 ?_
  first | refine e_cmp_gtN 25 19 (by decide) rfl dX6_change_16 rfl rfl (by omega) (by omega) (fun g3 => ?_) (fun g3 => ?_) | refine e_cmp_gt 25 19 (by decide) rfl dX6_change_16 (fun g3 => ?_) (fun g3 => ?_)
  · refine e_iconst (nI 0) 26 rfl dX6_change_25 ic_0 ?_
    refine e_zret dX6_change_26 rfl (by first | exact z0 | exact z1 | exact bI01 _ | assumption) ?_
    exact kf (fun ⟨i, hi, e, h, _⟩ => by omega)
  refine e_il3 20 rfl dX6_change_19 ?_
  refine e_al2 21 rfl dX6_change_20 ?_
  refine e_alen 22 rfl dX6_change_21 (by first | exact Or.inl (by assumption) | exact Or.inr (Or.inl (by assumption)) | exact Or.inr (Or.inr (by assumption))) (by assumption) ?_
  first | refine e_cmp_leN 27 25 (by decide) rfl dX6_change_22 rfl rfl (by omega) (by omega) (fun g4 => ?_) (fun g4 => ?_) | refine e_cmp_le 27 25 (by decide) rfl dX6_change_22 (fun g4 => ?_) (fun g4 => ?_)
  rotate_left
  · omega
  refine e_iconst (nI 0) 28 rfl dX6_change_27 ic_0 ?_
  refine e_is4 30 rfl dX6_change_28 (by decide) rfl ?_
  have loop2 : (seg tx 0 m).all isSm = true → ∀ (fu j : Nat), j + fu = m → ∀ μ', Fr (wS a) μ μ' → (∀ r, mA μ' (a + 2) r = mA μ (a + 2) r) → (∀ r, r < j → mB μ' (a + 1) (i * 3 + r) = nI (tx r)) → (∀ r, (r < i * 3 ∨ i * 3 + j ≤ r) → mB μ' (a + 1) r = mB μ (a + 1) r) → Ev E M_X6_change 0 0 57 [some (.ref a), some (.int (nI i)), some (.ref t), some (.int (nI m)), some (.int (nI j))] [] μ' K := by
    intro hall fu
    induction fu with
    | zero =>
      intro j hj μ' hF hA hB1 hB2
      obtain ⟨hk', h0', h1', hk1', hl1', hk2', hl2'⟩ := ht.fr hF
      have ej : j = m := by omega
      subst ej
      refine e_il4 59 rfl dX6_change_57 ?_
      refine e_il3 60 rfl dX6_change_59 ?_
      first | refine e_cmp_geN 84 63 (by decide) rfl dX6_change_60 rfl rfl (by omega) (by omega) (fun g5 => ?_) (fun g5 => ?_) | refine e_cmp_ge 84 63 (by decide) rfl dX6_change_60 (fun g5 => ?_) (fun g5 => ?_)
      · refine e_al0 85 rfl dX6_change_84 ?_
        refine e_getR 88 rfl dX6_change_85 f_X6_15 (by assumption) (by assumption) ?_
        refine e_il1 89 rfl dX6_change_88 ?_
        refine e_il3 90 rfl dX6_change_89 ?_
        refine e_iast 91 rfl dX6_change_90 (by assumption) (by assumption) (by first | rfl | simp only [pk_mul, nI_add]) (by omega) (by omega) ?_
        refine e_iconst (nI 1) 92 rfl dX6_change_91 ic_1 ?_
        refine e_zret dX6_change_92 rfl (by first | exact z0 | exact z1 | exact bI01 _ | assumption) ?_
        refine kt i hi rfl g3 hall _ (hF.sA Sa2 _ _) (fun r hr => ?_)
        by_cases e : r = i
        · subst e
          rw [up1_s, seg_len]
          refine ⟨by show up2 _ (a + 2) _ _ (a + 2) _ = _; rw [up2_s]; rfl, by omega, fun s c hs => ?_, fun c hc' => ?_⟩
          · have hs1 : s < j := by have := (List.getElem?_eq_some_iff.mp hs).1; rw [seg_len] at this; omega
            rw [seg_get tx (by omega)] at hs
            have e2 := Option.some.inj hs
            show mB μ' (a + 1) (r * 3 + s) = _
            rw [hB1 s hs1, ← e2, Nat.zero_add]
          · have := List.all_eq_true.mp hall c hc'
            simpa [isSm] using this
        · rw [up1_n e]
          obtain ⟨c1, c2, c3, c4⟩ := hc r hr
          refine ⟨by show up2 _ (a + 2) _ _ (a + 2) _ = _; rw [up2_k e, hA]; exact c1, c2, fun s c hs => ?_, c4⟩
          have hs1 : s < (tb r).length := (List.getElem?_eq_some_iff.mp hs).1
          show mB μ' (a + 1) (r * 3 + s) = _
          rw [hB2 _ (by omega)]
          exact c3 s c hs
      · omega
    | succ fu ih =>
      intro j hj μ' hF hA hB1 hB2
      obtain ⟨hk', h0', h1', hk1', hl1', hk2', hl2'⟩ := ht.fr hF
      have hkt' : mK μ' t = 12 := by rw [hF.2.1]; exact hkt
      have hlt' : mL μ' t = n := by rw [hF.2.2.1]; exact hlt
      have hB : mB μ' t j = sb_b (tx j) := by rw [(hF.2.2.2.2.2 t hne).2.1]; exact (htx j (by omega)).1
      have hsm : isSm (tx j) = true := by
        refine List.all_eq_true.mp hall _ ?_
        have := seg_get tx (s := 0) (e := m) (i := j) (by omega)
        rw [Nat.zero_add] at this
        exact List.mem_of_getElem? this
      have hv : (sb_b (tx j)).toInt8.toInt32 = nI (tx j) := (sm_fold _ (htx j (by omega)).2 hsm).2
      refine e_il4 59 rfl dX6_change_57 ?_
      refine e_il3 60 rfl dX6_change_59 ?_
      first | refine e_cmp_geN 84 63 (by decide) rfl dX6_change_60 rfl rfl (by omega) (by omega) (fun g5 => ?_) (fun g5 => ?_) | refine e_cmp_ge 84 63 (by decide) rfl dX6_change_60 (fun g5 => ?_) (fun g5 => ?_)
      · omega
      refine e_al0 64 rfl dX6_change_63 ?_
      refine e_getR 67 rfl dX6_change_64 f_X6_9 (by assumption) (by assumption) ?_
      refine e_il1 68 rfl dX6_change_67 ?_
      refine e_iconst (nI 3) 69 rfl dX6_change_68 ic_3 ?_
      first | refine e_imulN 70 rfl dX6_change_69 rfl rfl ?_ | refine e_imul 70 rfl dX6_change_69 ?_
      refine e_il4 72 rfl dX6_change_70 ?_
      first | refine e_iaddN 73 rfl dX6_change_72 rfl rfl ?_ | refine e_iadd 73 rfl dX6_change_72 ?_
      refine e_al2 74 rfl dX6_change_73 ?_
      refine e_il4 76 rfl dX6_change_74 ?_
      first | refine e_baldv 77 rfl dX6_change_76 (by assumption) (by assumption) (by first | rfl | simp only [pk_mul, nI_add]) (by omega) (by omega) (by first | assumption | (simp only [mN_sF, mK_sF, mL_sF, mF_sF, mB_sF, mA_sF, mJ_sF, mP_sF, mO_sF, mN_sB, mK_sB, mL_sB, mF_sB, mB_sB, mA_sB, mJ_sB, mP_sB, mO_sB, mN_sA, mK_sA, mL_sA, mF_sA, mB_sA, mA_sA, mJ_sA, mP_sA, mO_sA, mN_sJ, mK_sJ, mL_sJ, mF_sJ, mB_sJ, mA_sJ, mJ_sJ, mP_sJ, mO_sJ, mN_sP, mK_sP, mL_sP, mF_sP, mB_sP, mA_sP, mJ_sP, mP_sP, mO_sP, mN_sO, mK_sO, mL_sO, mF_sO, mB_sO, mA_sO, mJ_sO, mP_sO, mO_sO, up2, if_true, if_false, eq_self, ite_true, ite_false, reduceIte, Nat.add_left_cancel_iff, Nat.add_eq_left, Nat.left_eq_add, Nat.reduceEqDiff]; assumption) | (simp only [mN_sF, mK_sF, mL_sF, mF_sF, mB_sF, mA_sF, mJ_sF, mP_sF, mO_sF, mN_sB, mK_sB, mL_sB, mF_sB, mB_sB, mA_sB, mJ_sB, mP_sB, mO_sB, mN_sA, mK_sA, mL_sA, mF_sA, mB_sA, mA_sA, mJ_sA, mP_sA, mO_sA, mN_sJ, mK_sJ, mL_sJ, mF_sJ, mB_sJ, mA_sJ, mJ_sJ, mP_sJ, mO_sJ, mN_sP, mK_sP, mL_sP, mF_sP, mB_sP, mA_sP, mJ_sP, mP_sP, mO_sP, mN_sO, mK_sO, mL_sO, mF_sO, mB_sO, mA_sO, mJ_sO, mP_sO, mO_sO, up2, if_true, if_false, eq_self, ite_true, ite_false, reduceIte, Nat.add_left_cancel_iff, Nat.add_eq_left, Nat.left_eq_add, Nat.reduceEqDiff]; done)) ?_ | refine e_zaldv 77 rfl dX6_change_76 (by assumption) (by assumption) (by first | rfl | simp only [pk_mul, nI_add]) (by omega) (by omega) (by first | assumption | (simp only [mN_sF, mK_sF, mL_sF, mF_sF, mB_sF, mA_sF, mJ_sF, mP_sF, mO_sF, mN_sB, mK_sB, mL_sB, mF_sB, mB_sB, mA_sB, mJ_sB, mP_sB, mO_sB, mN_sA, mK_sA, mL_sA, mF_sA, mB_sA, mA_sA, mJ_sA, mP_sA, mO_sA, mN_sJ, mK_sJ, mL_sJ, mF_sJ, mB_sJ, mA_sJ, mJ_sJ, mP_sJ, mO_sJ, mN_sP, mK_sP, mL_sP, mF_sP, mB_sP, mA_sP, mJ_sP, mP_sP, mO_sP, mN_sO, mK_sO, mL_sO, mF_sO, mB_sO, mA_sO, mJ_sO, mP_sO, mO_sO, up2, if_true, if_false, eq_self, ite_true, ite_false, reduceIte, Nat.add_left_cancel_iff, Nat.add_eq_left, Nat.left_eq_add, Nat.reduceEqDiff]; assumption) | (simp only [mN_sF, mK_sF, mL_sF, mF_sF, mB_sF, mA_sF, mJ_sF, mP_sF, mO_sF, mN_sB, mK_sB, mL_sB, mF_sB, mB_sB, mA_sB, mJ_sB, mP_sB, mO_sB, mN_sA, mK_sA, mL_sA, mF_sA, mB_sA, mA_sA, mJ_sA, mP_sA, mO_sA, mN_sJ, mK_sJ, mL_sJ, mF_sJ, mB_sJ, mA_sJ, mJ_sJ, mP_sJ, mO_sJ, mN_sP, mK_sP, mL_sP, mF_sP, mB_sP, mA_sP, mJ_sP, mP_sP, mO_sP, mN_sO, mK_sO, mL_sO, mF_sO, mB_sO, mA_sO, mJ_sO, mP_sO, mO_sO, up2, if_true, if_false, eq_self, ite_true, ite_false, reduceIte, Nat.add_left_cancel_iff, Nat.add_eq_left, Nat.left_eq_add, Nat.reduceEqDiff]; done)) ?_ | refine e_bald 77 rfl dX6_change_76 (by assumption) (by assumption) (by first | rfl | simp only [pk_mul, nI_add]) (by omega) (by omega) ?_ | refine e_zald 77 rfl dX6_change_76 (by assumption) (by assumption) (by first | rfl | simp only [pk_mul, nI_add]) (by omega) (by omega) ?_
      first | refine e_bast 78 rfl dX6_change_77 (by assumption) (by assumption) (by first | rfl | simp only [pk_mul, nI_add]) (by omega) (by omega) ?_ | refine e_zast 78 rfl dX6_change_77 (by assumption) (by assumption) (by first | rfl | simp only [pk_mul, nI_add]) (by omega) (by omega) (by first | exact z0 | exact z1 | exact bI01 _ | assumption) ?_
      refine e_ii4 (nI (_ + 1)) 81 rfl dX6_change_78 (ii1 _) rfl ?_
      refine e_goto 57 (by decide) dX6_change_81 ?_
      refine ih (j + 1) (by omega) _ (hF.sB Sa1 _ _) hA (fun r hr => ?_) (fun r hr => ?_)
      · show up2 _ (a + 1) _ _ (a + 1) _ = _
        by_cases e : r = j
        · subst e; rw [up2_s]; exact hv
        · rw [up2_k (by omega)]; exact hB1 r (by omega)
      · show up2 _ (a + 1) _ _ (a + 1) _ = _
        rw [up2_k (by omega)]
        exact hB2 r (by omega)
  have loop1 : ∀ (fu j : Nat), j + fu = m → (seg tx 0 j).all isSm = true → Ev E M_X6_change 0 0 30 [some (.ref a), some (.int (nI i)), some (.ref t), some (.int (nI m)), some (.int (nI j))] [] μ K := by
    intro fu
    induction fu with
    | zero =>
      intro j hj hall
      have ej : j = m := by omega
      subst ej
      refine e_il4 32 rfl dX6_change_30 ?_
      refine e_il3 33 rfl dX6_change_32 ?_
      first | refine e_cmp_geN 54 36 (by decide) rfl dX6_change_33 rfl rfl (by omega) (by omega) (fun g5 => ?_) (fun g5 => ?_) | refine e_cmp_ge 54 36 (by decide) rfl dX6_change_33 (fun g5 => ?_) (fun g5 => ?_)
      · refine e_iconst (nI 0) 55 rfl dX6_change_54 ic_0 ?_
        refine e_is4 57 rfl dX6_change_55 (by decide) rfl ?_
        exact loop2 hall j 0 (by omega) μ Fr.rf (fun r => rfl) (fun r hr => by omega) (fun r hr => rfl)
      · omega
    | succ fu ih =>
      intro j hj hall
      have hB : mB μ t j = sb_b (tx j) := (htx j (by omega)).1
      refine e_il4 32 rfl dX6_change_30 ?_
      refine e_il3 33 rfl dX6_change_32 ?_
      first | refine e_cmp_geN 54 36 (by decide) rfl dX6_change_33 rfl rfl (by omega) (by omega) (fun g5 => ?_) (fun g5 => ?_) | refine e_cmp_ge 54 36 (by decide) rfl dX6_change_33 (fun g5 => ?_) (fun g5 => ?_)
      · omega
      refine e_al2 37 rfl dX6_change_36 ?_
      refine e_il4 39 rfl dX6_change_37 ?_
      first | refine e_baldv 40 rfl dX6_change_39 (by assumption) (by assumption) (by first | rfl | simp only [pk_mul, nI_add]) (by omega) (by omega) (by first | assumption | (simp only [mN_sF, mK_sF, mL_sF, mF_sF, mB_sF, mA_sF, mJ_sF, mP_sF, mO_sF, mN_sB, mK_sB, mL_sB, mF_sB, mB_sB, mA_sB, mJ_sB, mP_sB, mO_sB, mN_sA, mK_sA, mL_sA, mF_sA, mB_sA, mA_sA, mJ_sA, mP_sA, mO_sA, mN_sJ, mK_sJ, mL_sJ, mF_sJ, mB_sJ, mA_sJ, mJ_sJ, mP_sJ, mO_sJ, mN_sP, mK_sP, mL_sP, mF_sP, mB_sP, mA_sP, mJ_sP, mP_sP, mO_sP, mN_sO, mK_sO, mL_sO, mF_sO, mB_sO, mA_sO, mJ_sO, mP_sO, mO_sO, up2, if_true, if_false, eq_self, ite_true, ite_false, reduceIte, Nat.add_left_cancel_iff, Nat.add_eq_left, Nat.left_eq_add, Nat.reduceEqDiff]; assumption) | (simp only [mN_sF, mK_sF, mL_sF, mF_sF, mB_sF, mA_sF, mJ_sF, mP_sF, mO_sF, mN_sB, mK_sB, mL_sB, mF_sB, mB_sB, mA_sB, mJ_sB, mP_sB, mO_sB, mN_sA, mK_sA, mL_sA, mF_sA, mB_sA, mA_sA, mJ_sA, mP_sA, mO_sA, mN_sJ, mK_sJ, mL_sJ, mF_sJ, mB_sJ, mA_sJ, mJ_sJ, mP_sJ, mO_sJ, mN_sP, mK_sP, mL_sP, mF_sP, mB_sP, mA_sP, mJ_sP, mP_sP, mO_sP, mN_sO, mK_sO, mL_sO, mF_sO, mB_sO, mA_sO, mJ_sO, mP_sO, mO_sO, up2, if_true, if_false, eq_self, ite_true, ite_false, reduceIte, Nat.add_left_cancel_iff, Nat.add_eq_left, Nat.left_eq_add, Nat.reduceEqDiff]; done)) ?_ | refine e_zaldv 40 rfl dX6_change_39 (by assumption) (by assumption) (by first | rfl | simp only [pk_mul, nI_add]) (by omega) (by omega) (by first | assumption | (simp only [mN_sF, mK_sF, mL_sF, mF_sF, mB_sF, mA_sF, mJ_sF, mP_sF, mO_sF, mN_sB, mK_sB, mL_sB, mF_sB, mB_sB, mA_sB, mJ_sB, mP_sB, mO_sB, mN_sA, mK_sA, mL_sA, mF_sA, mB_sA, mA_sA, mJ_sA, mP_sA, mO_sA, mN_sJ, mK_sJ, mL_sJ, mF_sJ, mB_sJ, mA_sJ, mJ_sJ, mP_sJ, mO_sJ, mN_sP, mK_sP, mL_sP, mF_sP, mB_sP, mA_sP, mJ_sP, mP_sP, mO_sP, mN_sO, mK_sO, mL_sO, mF_sO, mB_sO, mA_sO, mJ_sO, mP_sO, mO_sO, up2, if_true, if_false, eq_self, ite_true, ite_false, reduceIte, Nat.add_left_cancel_iff, Nat.add_eq_left, Nat.left_eq_add, Nat.reduceEqDiff]; assumption) | (simp only [mN_sF, mK_sF, mL_sF, mF_sF, mB_sF, mA_sF, mJ_sF, mP_sF, mO_sF, mN_sB, mK_sB, mL_sB, mF_sB, mB_sB, mA_sB, mJ_sB, mP_sB, mO_sB, mN_sA, mK_sA, mL_sA, mF_sA, mB_sA, mA_sA, mJ_sA, mP_sA, mO_sA, mN_sJ, mK_sJ, mL_sJ, mF_sJ, mB_sJ, mA_sJ, mJ_sJ, mP_sJ, mO_sJ, mN_sP, mK_sP, mL_sP, mF_sP, mB_sP, mA_sP, mJ_sP, mP_sP, mO_sP, mN_sO, mK_sO, mL_sO, mF_sO, mB_sO, mA_sO, mJ_sO, mP_sO, mO_sO, up2, if_true, if_false, eq_self, ite_true, ite_false, reduceIte, Nat.add_left_cancel_iff, Nat.add_eq_left, Nat.left_eq_add, Nat.reduceEqDiff]; done)) ?_ | refine e_bald 40 rfl dX6_change_39 (by assumption) (by assumption) (by first | rfl | simp only [pk_mul, nI_add]) (by omega) (by omega) ?_ | refine e_zald 40 rfl dX6_change_39 (by assumption) (by assumption) (by first | rfl | simp only [pk_mul, nI_add]) (by omega) (by omega) ?_
      refine e_invSN0 [_] 43 rfl dX6_change_40 k_X6_19 mo_X9_isSmall rm_X6_change_X9_isSmall ⟨rfl, rfl⟩ rfl rfl (Nat.le_of_ble_eq_true rfl) ?_
      refine c_isSmall (isSm (tx j)) (sb_sm _ (htx j (by omega)).2).symm ?_
      first | refine e_if_neB 48 46 (by decide) rfl dX6_change_43 rfl (fun g6 => ?_) (fun g6 => ?_) | refine e_if_neN 48 46 (by decide) rfl dX6_change_43 rfl (by omega) (fun g6 => ?_) (fun g6 => ?_) | refine e_if_ne 48 46 (by decide) rfl dX6_change_43 (fun g6 => ?_) (fun g6 => ?_)
      · refine e_ii4 (nI (_ + 1)) 51 rfl dX6_change_48 (ii1 _) rfl ?_
        refine e_goto 30 (by decide) dX6_change_51 ?_
        exact ih (j + 1) (by omega) (by rw [seg_succ tx (Nat.zero_le j), List.all_append, hall]; simp [g6])
      · refine e_iconst (nI 0) 47 rfl dX6_change_46 ic_0 ?_
        refine e_zret dX6_change_47 rfl (by first | exact z0 | exact z1 | exact bI01 _ | assumption) ?_
        refine kf (fun ⟨i', hi', e, h3, hall'⟩ => ?_)
        have := seg_get tx (s := 0) (e := m) (i := j) (by omega)
        rw [Nat.zero_add] at this
        have := List.all_eq_true.mp hall' _ (List.mem_of_getElem? this)
        rw [g6] at this
        cases this
  exact loop1 m 0 (by omega) rfl
/-- what a word's letters become -/
def putL (tb : Nat → List Nat) (w : List Nat) : List Nat := w.flatMap (fun c => tb (c - 97))
theorem putL_len {tb : Nat → List Nat} {w : List Nat} (h : ∀ c ∈ w, (tb (c - 97)).length ≤ 3) : (putL tb w).length ≤ 3 * w.length := by
  induction w with
  | nil => simp [putL]
  | cons c w ih =>
    have h1 := h c List.mem_cons_self
    have h2 := ih (fun d hd => h d (List.mem_cons_of_mem _ hd))
    simp only [putL, List.flatMap_cons, List.length_append, List.length_cons] at h2 ⊢
    omega
theorem c_putOver {a g r ah : Nat} {tb : Nat → List Nat} {w l : List Nat} (ht : Tg μ a) (hc : Tt μ a tb) (hw : Wd μ g) (hwl : Wl μ g w) (hws : ∀ c ∈ w, 97 ≤ c ∧ c ≤ 122) (hr : Ln μ r) (hrl : Lc μ r l) (hah : ah < 2 ^ 31) (hd1 : ¬ s2 r (a + 1)) (hd2 : ¬ s2 r (a + 2)) (hd3 : ¬ s2 r g) (hd4 : ¬ s2 r (g + 2)) (hlen : l.length + 1 + 3 * w.length ≤ 488)
    (k : ∀ μ', Fr (s2 r) μ μ' → Lc μ' r (l ++ bl ah ++ putL tb w) → K none μ') : Cl E M_X6_putOver [.ref a, .ref g, .int (nI ah), .ref r] μ K := by
  have hbl : (bl ah).length ≤ 1 := by unfold bl; split <;> simp
  have htb : ∀ c ∈ w, (tb (c - 97)).length ≤ 3 := fun c hc' => (hc (c - 97) (by have := hws c hc'; omega)).2.1
  have inner : ∀ (i : Nat) (hi : i < w.length), (∀ μ', Fr (s2 r) μ μ' → Lc μ' r (l ++ bl ah ++ putL tb (w.take (i + 1))) → Ev E M_X6_putOver 0 0 83 [some (.ref a), some (.ref g), some (.int (nI ah)), some (.ref r), some (.int (nI i)), some (.int (nI (w[i] - 97))), some (.int (nI (tb (w[i] - 97)).length))] [] μ' K) →
      ∀ (fu j : Nat), j + fu = (tb (w[i] - 97)).length → ∀ μ', Fr (s2 r) μ μ' → Lc μ' r (l ++ bl ah ++ putL tb (w.take i) ++ (tb (w[i] - 97)).take j) → Ev E M_X6_putOver 0 0 49 [some (.ref a), some (.ref g), some (.int (nI ah)), some (.ref r), some (.int (nI i)), some (.int (nI (w[i] - 97))), some (.int (nI j))] [] μ' K := by
    intro i hi next fu
    have hci := hws _ (List.getElem_mem hi)
    have hn26 : w[i] - 97 < 26 := by omega
    have hp : putL tb (w.take (i + 1)) = putL tb (w.take i) ++ tb (w[i] - 97) := by
      rw [List.take_succ_eq_append_getElem hi, putL, List.flatMap_append, List.flatMap_singleton]; rfl
    have hle := putL_len (tb := tb) (w := w.take i) (fun c hc' => htb c (List.mem_of_mem_take hc'))
    rw [List.length_take, Nat.min_eq_left (by omega)] at hle
    have h3 := htb _ (List.getElem_mem hi)
    generalize hd : w[i] - 97 = d at *
    induction fu with
    | zero =>
      intro j hj μ' hF hL
      obtain ⟨hk', h0', h1', hk1', hl1', hk2', hl2'⟩ := ht.fr hF
      have hA : mA μ' (a + 2) d = nI (tb d).length := (hc.fr hF hd1 hd2 d hn26).1
      have ej : j = (tb d).length := by omega
      subst ej
      refine e_il6 51 rfl dX6_putOver_49 ?_
      refine e_al0 52 rfl dX6_putOver_51 ?_
      refine e_getR 55 rfl dX6_putOver_52 f_X6_15 (by assumption) (by assumption) ?_
      refine e_il5 57 rfl dX6_putOver_55 ?_
      first | refine e_ialdv 58 rfl dX6_putOver_57 (by assumption) (by assumption) (by first | rfl | simp only [pk_mul, nI_add]) (by omega) (by omega) (by first | assumption | (simp only [mN_sF, mK_sF, mL_sF, mF_sF, mB_sF, mA_sF, mJ_sF, mP_sF, mO_sF, mN_sB, mK_sB, mL_sB, mF_sB, mB_sB, mA_sB, mJ_sB, mP_sB, mO_sB, mN_sA, mK_sA, mL_sA, mF_sA, mB_sA, mA_sA, mJ_sA, mP_sA, mO_sA, mN_sJ, mK_sJ, mL_sJ, mF_sJ, mB_sJ, mA_sJ, mJ_sJ, mP_sJ, mO_sJ, mN_sP, mK_sP, mL_sP, mF_sP, mB_sP, mA_sP, mJ_sP, mP_sP, mO_sP, mN_sO, mK_sO, mL_sO, mF_sO, mB_sO, mA_sO, mJ_sO, mP_sO, mO_sO, up2, if_true, if_false, eq_self, ite_true, ite_false, reduceIte, Nat.add_left_cancel_iff, Nat.add_eq_left, Nat.left_eq_add, Nat.reduceEqDiff]; assumption) | (simp only [mN_sF, mK_sF, mL_sF, mF_sF, mB_sF, mA_sF, mJ_sF, mP_sF, mO_sF, mN_sB, mK_sB, mL_sB, mF_sB, mB_sB, mA_sB, mJ_sB, mP_sB, mO_sB, mN_sA, mK_sA, mL_sA, mF_sA, mB_sA, mA_sA, mJ_sA, mP_sA, mO_sA, mN_sJ, mK_sJ, mL_sJ, mF_sJ, mB_sJ, mA_sJ, mJ_sJ, mP_sJ, mO_sJ, mN_sP, mK_sP, mL_sP, mF_sP, mB_sP, mA_sP, mJ_sP, mP_sP, mO_sP, mN_sO, mK_sO, mL_sO, mF_sO, mB_sO, mA_sO, mJ_sO, mP_sO, mO_sO, up2, if_true, if_false, eq_self, ite_true, ite_false, reduceIte, Nat.add_left_cancel_iff, Nat.add_eq_left, Nat.left_eq_add, Nat.reduceEqDiff]; done)) ?_ | refine e_iald 58 rfl dX6_putOver_57 (by assumption) (by assumption) (by first | rfl | simp only [pk_mul, nI_add]) (by omega) (by omega) ?_
      first | refine e_cmp_geN 83 61 (by decide) rfl dX6_putOver_58 rfl rfl (by omega) (by omega) (fun g1 => ?_) (fun g1 => ?_) | refine e_cmp_ge 83 61 (by decide) rfl dX6_putOver_58 (fun g1 => ?_) (fun g1 => ?_)
      · refine next μ' hF ?_
        rw [hp, ← List.append_assoc]
        rw [List.take_of_length_le (Nat.le_refl _)] at hL
        exact hL
      · omega
    | succ fu ih =>
      intro j hj μ' hF hL
      obtain ⟨hk', h0', h1', hk1', hl1', hk2', hl2'⟩ := ht.fr hF
      obtain ⟨c1, c2, c3, c4⟩ := hc.fr hF hd1 hd2 d hn26
      have hkr : mK μ' r = 2 := (hr.fr hF).1
      have hB : mB μ' (a + 1) (d * 3 + j) = nI ((tb d)[j]'(by omega)) := c3.at (i := j) (by omega)
      have hcj := c4 _ (List.getElem_mem (show j < (tb d).length by omega))
      refine e_il6 51 rfl dX6_putOver_49 ?_
      refine e_al0 52 rfl dX6_putOver_51 ?_
      refine e_getR 55 rfl dX6_putOver_52 f_X6_15 (by assumption) (by assumption) ?_
      refine e_il5 57 rfl dX6_putOver_55 ?_
      first | refine e_ialdv 58 rfl dX6_putOver_57 (by assumption) (by assumption) (by first | rfl | simp only [pk_mul, nI_add]) (by omega) (by omega) (by first | assumption | (simp only [mN_sF, mK_sF, mL_sF, mF_sF, mB_sF, mA_sF, mJ_sF, mP_sF, mO_sF, mN_sB, mK_sB, mL_sB, mF_sB, mB_sB, mA_sB, mJ_sB, mP_sB, mO_sB, mN_sA, mK_sA, mL_sA, mF_sA, mB_sA, mA_sA, mJ_sA, mP_sA, mO_sA, mN_sJ, mK_sJ, mL_sJ, mF_sJ, mB_sJ, mA_sJ, mJ_sJ, mP_sJ, mO_sJ, mN_sP, mK_sP, mL_sP, mF_sP, mB_sP, mA_sP, mJ_sP, mP_sP, mO_sP, mN_sO, mK_sO, mL_sO, mF_sO, mB_sO, mA_sO, mJ_sO, mP_sO, mO_sO, up2, if_true, if_false, eq_self, ite_true, ite_false, reduceIte, Nat.add_left_cancel_iff, Nat.add_eq_left, Nat.left_eq_add, Nat.reduceEqDiff]; assumption) | (simp only [mN_sF, mK_sF, mL_sF, mF_sF, mB_sF, mA_sF, mJ_sF, mP_sF, mO_sF, mN_sB, mK_sB, mL_sB, mF_sB, mB_sB, mA_sB, mJ_sB, mP_sB, mO_sB, mN_sA, mK_sA, mL_sA, mF_sA, mB_sA, mA_sA, mJ_sA, mP_sA, mO_sA, mN_sJ, mK_sJ, mL_sJ, mF_sJ, mB_sJ, mA_sJ, mJ_sJ, mP_sJ, mO_sJ, mN_sP, mK_sP, mL_sP, mF_sP, mB_sP, mA_sP, mJ_sP, mP_sP, mO_sP, mN_sO, mK_sO, mL_sO, mF_sO, mB_sO, mA_sO, mJ_sO, mP_sO, mO_sO, up2, if_true, if_false, eq_self, ite_true, ite_false, reduceIte, Nat.add_left_cancel_iff, Nat.add_eq_left, Nat.left_eq_add, Nat.reduceEqDiff]; done)) ?_ | refine e_iald 58 rfl dX6_putOver_57 (by assumption) (by assumption) (by first | rfl | simp only [pk_mul, nI_add]) (by omega) (by omega) ?_
      first | refine e_cmp_geN 83 61 (by decide) rfl dX6_putOver_58 rfl rfl (by omega) (by omega) (fun g1 => ?_) (fun g1 => ?_) | refine e_cmp_ge 83 61 (by decide) rfl dX6_putOver_58 (fun g1 => ?_) (fun g1 => ?_)
      · omega
      refine e_al3 62 rfl dX6_putOver_61 ?_
      refine e_al0 63 rfl dX6_putOver_62 ?_
      refine e_getR 66 rfl dX6_putOver_63 f_X6_9 (by assumption) (by assumption) ?_
      refine e_il5 68 rfl dX6_putOver_66 ?_
      refine e_iconst (nI 3) 69 rfl dX6_putOver_68 ic_3 ?_
      first | refine e_imulN 70 rfl dX6_putOver_69 rfl rfl ?_ | refine e_imul 70 rfl dX6_putOver_69 ?_
      refine e_il6 72 rfl dX6_putOver_70 ?_
      first | refine e_iaddN 73 rfl dX6_putOver_72 rfl rfl ?_ | refine e_iadd 73 rfl dX6_putOver_72 ?_
      first | refine e_baldv 74 rfl dX6_putOver_73 (by assumption) (by assumption) (by first | rfl | simp only [pk_mul, nI_add]) (by omega) (by omega) (by first | assumption | (simp only [mN_sF, mK_sF, mL_sF, mF_sF, mB_sF, mA_sF, mJ_sF, mP_sF, mO_sF, mN_sB, mK_sB, mL_sB, mF_sB, mB_sB, mA_sB, mJ_sB, mP_sB, mO_sB, mN_sA, mK_sA, mL_sA, mF_sA, mB_sA, mA_sA, mJ_sA, mP_sA, mO_sA, mN_sJ, mK_sJ, mL_sJ, mF_sJ, mB_sJ, mA_sJ, mJ_sJ, mP_sJ, mO_sJ, mN_sP, mK_sP, mL_sP, mF_sP, mB_sP, mA_sP, mJ_sP, mP_sP, mO_sP, mN_sO, mK_sO, mL_sO, mF_sO, mB_sO, mA_sO, mJ_sO, mP_sO, mO_sO, up2, if_true, if_false, eq_self, ite_true, ite_false, reduceIte, Nat.add_left_cancel_iff, Nat.add_eq_left, Nat.left_eq_add, Nat.reduceEqDiff]; assumption) | (simp only [mN_sF, mK_sF, mL_sF, mF_sF, mB_sF, mA_sF, mJ_sF, mP_sF, mO_sF, mN_sB, mK_sB, mL_sB, mF_sB, mB_sB, mA_sB, mJ_sB, mP_sB, mO_sB, mN_sA, mK_sA, mL_sA, mF_sA, mB_sA, mA_sA, mJ_sA, mP_sA, mO_sA, mN_sJ, mK_sJ, mL_sJ, mF_sJ, mB_sJ, mA_sJ, mJ_sJ, mP_sJ, mO_sJ, mN_sP, mK_sP, mL_sP, mF_sP, mB_sP, mA_sP, mJ_sP, mP_sP, mO_sP, mN_sO, mK_sO, mL_sO, mF_sO, mB_sO, mA_sO, mJ_sO, mP_sO, mO_sO, up2, if_true, if_false, eq_self, ite_true, ite_false, reduceIte, Nat.add_left_cancel_iff, Nat.add_eq_left, Nat.left_eq_add, Nat.reduceEqDiff]; done)) ?_ | refine e_zaldv 74 rfl dX6_putOver_73 (by assumption) (by assumption) (by first | rfl | simp only [pk_mul, nI_add]) (by omega) (by omega) (by first | assumption | (simp only [mN_sF, mK_sF, mL_sF, mF_sF, mB_sF, mA_sF, mJ_sF, mP_sF, mO_sF, mN_sB, mK_sB, mL_sB, mF_sB, mB_sB, mA_sB, mJ_sB, mP_sB, mO_sB, mN_sA, mK_sA, mL_sA, mF_sA, mB_sA, mA_sA, mJ_sA, mP_sA, mO_sA, mN_sJ, mK_sJ, mL_sJ, mF_sJ, mB_sJ, mA_sJ, mJ_sJ, mP_sJ, mO_sJ, mN_sP, mK_sP, mL_sP, mF_sP, mB_sP, mA_sP, mJ_sP, mP_sP, mO_sP, mN_sO, mK_sO, mL_sO, mF_sO, mB_sO, mA_sO, mJ_sO, mP_sO, mO_sO, up2, if_true, if_false, eq_self, ite_true, ite_false, reduceIte, Nat.add_left_cancel_iff, Nat.add_eq_left, Nat.left_eq_add, Nat.reduceEqDiff]; assumption) | (simp only [mN_sF, mK_sF, mL_sF, mF_sF, mB_sF, mA_sF, mJ_sF, mP_sF, mO_sF, mN_sB, mK_sB, mL_sB, mF_sB, mB_sB, mA_sB, mJ_sB, mP_sB, mO_sB, mN_sA, mK_sA, mL_sA, mF_sA, mB_sA, mA_sA, mJ_sA, mP_sA, mO_sA, mN_sJ, mK_sJ, mL_sJ, mF_sJ, mB_sJ, mA_sJ, mJ_sJ, mP_sJ, mO_sJ, mN_sP, mK_sP, mL_sP, mF_sP, mB_sP, mA_sP, mJ_sP, mP_sP, mO_sP, mN_sO, mK_sO, mL_sO, mF_sO, mB_sO, mA_sO, mJ_sO, mP_sO, mO_sO, up2, if_true, if_false, eq_self, ite_true, ite_false, reduceIte, Nat.add_left_cancel_iff, Nat.add_eq_left, Nat.left_eq_add, Nat.reduceEqDiff]; done)) ?_ | refine e_bald 74 rfl dX6_putOver_73 (by assumption) (by assumption) (by first | rfl | simp only [pk_mul, nI_add]) (by omega) (by omega) ?_ | refine e_zald 74 rfl dX6_putOver_73 (by assumption) (by assumption) (by first | rfl | simp only [pk_mul, nI_add]) (by omega) (by omega) ?_
      refine e_invV0 [_] 77 rfl dX6_putOver_74 k_X6_23 mo_X1_add rm_X6_putOver_X1_add ⟨rfl, rfl⟩ rfl rfl (by assumption) (Nat.le_of_ble_eq_true rfl) ?_
      refine c_ladd (hr.fr hF) hL (by simp; omega) (by omega) (fun μ2 hF2 hL2 => ?_)
      refine e_ii6 (nI (_ + 1)) 80 rfl dX6_putOver_77 (ii1 _) rfl ?_
      refine e_goto 49 (by decide) dX6_putOver_80 ?_
      refine ih (j + 1) (by omega) μ2 (hF.trans hF2) ?_
      rw [List.take_succ_eq_append_getElem (by omega), ← List.append_assoc]
      exact hL2
  have outer : ∀ (fu i : Nat), i + fu = w.length → ∀ (y5 y6 : Option Value) (_ : nl y5 = true) μ', Fr (s2 r) μ μ' → Lc μ' r (l ++ bl ah ++ putL tb (w.take i)) → Ev E M_X6_putOver 0 0 13 [some (.ref a), some (.ref g), some (.int (nI ah)), some (.ref r), some (.int (nI i)), y5, y6] [] μ' K := by
    intro fu
    induction fu with
    | zero =>
      intro i hi y5 y6 hy μ' hF hL
      have hk' := (hw.fr hF).1
      have h3' := (hwl.fr hF hd3 hd4).1
      have hwl20 := hwl.2.2.1
      refine e_il4 15 rfl dX6_putOver_13 ?_
      refine e_al1 16 rfl dX6_putOver_15 ?_
      first | refine e_getIv 19 rfl dX6_putOver_16 f_X6_29 (by assumption) (by first | assumption | (simp only [mN_sF, mK_sF, mL_sF, mF_sF, mB_sF, mA_sF, mJ_sF, mP_sF, mO_sF, mN_sB, mK_sB, mL_sB, mF_sB, mB_sB, mA_sB, mJ_sB, mP_sB, mO_sB, mN_sA, mK_sA, mL_sA, mF_sA, mB_sA, mA_sA, mJ_sA, mP_sA, mO_sA, mN_sJ, mK_sJ, mL_sJ, mF_sJ, mB_sJ, mA_sJ, mJ_sJ, mP_sJ, mO_sJ, mN_sP, mK_sP, mL_sP, mF_sP, mB_sP, mA_sP, mJ_sP, mP_sP, mO_sP, mN_sO, mK_sO, mL_sO, mF_sO, mB_sO, mA_sO, mJ_sO, mP_sO, mO_sO, up2, if_true, if_false, eq_self, ite_true, ite_false, reduceIte, Nat.add_left_cancel_iff, Nat.add_eq_left, Nat.left_eq_add, Nat.reduceEqDiff]; assumption) | (simp only [mN_sF, mK_sF, mL_sF, mF_sF, mB_sF, mA_sF, mJ_sF, mP_sF, mO_sF, mN_sB, mK_sB, mL_sB, mF_sB, mB_sB, mA_sB, mJ_sB, mP_sB, mO_sB, mN_sA, mK_sA, mL_sA, mF_sA, mB_sA, mA_sA, mJ_sA, mP_sA, mO_sA, mN_sJ, mK_sJ, mL_sJ, mF_sJ, mB_sJ, mA_sJ, mJ_sJ, mP_sJ, mO_sJ, mN_sP, mK_sP, mL_sP, mF_sP, mB_sP, mA_sP, mJ_sP, mP_sP, mO_sP, mN_sO, mK_sO, mL_sO, mF_sO, mB_sO, mA_sO, mJ_sO, mP_sO, mO_sO, up2, if_true, if_false, eq_self, ite_true, ite_false, reduceIte, Nat.add_left_cancel_iff, Nat.add_eq_left, Nat.left_eq_add, Nat.reduceEqDiff]; done)) ?_ | refine e_getI 19 rfl dX6_putOver_16 f_X6_29 (by assumption) ?_
      first | refine e_cmp_geN 89 22 (by decide) rfl dX6_putOver_19 rfl rfl (by omega) (by omega) (fun g1 => ?_) (fun g1 => ?_) | refine e_cmp_ge 89 22 (by decide) rfl dX6_putOver_19 (fun g1 => ?_) (fun g1 => ?_)
      · refine e_ret dX6_putOver_89 rfl ?_
        refine k μ' hF ?_
        rw [List.take_of_length_le (by omega)] at hL
        exact hL
      · omega
    | succ fu ih =>
      intro i hi y5 y6 hy μ' hF hL
      obtain ⟨wk, w0, w2, wk1, wl1, wk2, wl2⟩ := hw.fr hF
      obtain ⟨l3, lf, l20, lc⟩ := hwl.fr hF hd3 hd4
      have hi' : i < w.length := by omega
      have hB : mB μ' (g + 2) i = nI w[i] := lf.at hi'
      have hci := hws _ (List.getElem_mem hi')
      refine e_il4 15 rfl dX6_putOver_13 ?_
      refine e_al1 16 rfl dX6_putOver_15 ?_
      first | refine e_getIv 19 rfl dX6_putOver_16 f_X6_29 (by assumption) (by first | assumption | (simp only [mN_sF, mK_sF, mL_sF, mF_sF, mB_sF, mA_sF, mJ_sF, mP_sF, mO_sF, mN_sB, mK_sB, mL_sB, mF_sB, mB_sB, mA_sB, mJ_sB, mP_sB, mO_sB, mN_sA, mK_sA, mL_sA, mF_sA, mB_sA, mA_sA, mJ_sA, mP_sA, mO_sA, mN_sJ, mK_sJ, mL_sJ, mF_sJ, mB_sJ, mA_sJ, mJ_sJ, mP_sJ, mO_sJ, mN_sP, mK_sP, mL_sP, mF_sP, mB_sP, mA_sP, mJ_sP, mP_sP, mO_sP, mN_sO, mK_sO, mL_sO, mF_sO, mB_sO, mA_sO, mJ_sO, mP_sO, mO_sO, up2, if_true, if_false, eq_self, ite_true, ite_false, reduceIte, Nat.add_left_cancel_iff, Nat.add_eq_left, Nat.left_eq_add, Nat.reduceEqDiff]; assumption) | (simp only [mN_sF, mK_sF, mL_sF, mF_sF, mB_sF, mA_sF, mJ_sF, mP_sF, mO_sF, mN_sB, mK_sB, mL_sB, mF_sB, mB_sB, mA_sB, mJ_sB, mP_sB, mO_sB, mN_sA, mK_sA, mL_sA, mF_sA, mB_sA, mA_sA, mJ_sA, mP_sA, mO_sA, mN_sJ, mK_sJ, mL_sJ, mF_sJ, mB_sJ, mA_sJ, mJ_sJ, mP_sJ, mO_sJ, mN_sP, mK_sP, mL_sP, mF_sP, mB_sP, mA_sP, mJ_sP, mP_sP, mO_sP, mN_sO, mK_sO, mL_sO, mF_sO, mB_sO, mA_sO, mJ_sO, mP_sO, mO_sO, up2, if_true, if_false, eq_self, ite_true, ite_false, reduceIte, Nat.add_left_cancel_iff, Nat.add_eq_left, Nat.left_eq_add, Nat.reduceEqDiff]; done)) ?_ | refine e_getI 19 rfl dX6_putOver_16 f_X6_29 (by assumption) ?_
      first | refine e_cmp_geN 89 22 (by decide) rfl dX6_putOver_19 rfl rfl (by omega) (by omega) (fun g1 => ?_) (fun g1 => ?_) | refine e_cmp_ge 89 22 (by decide) rfl dX6_putOver_19 (fun g1 => ?_) (fun g1 => ?_)
      · omega
      refine e_al1 23 rfl dX6_putOver_22 ?_
      refine e_getR 26 rfl dX6_putOver_23 f_X6_35 (by assumption) (by assumption) ?_
      refine e_il4 28 rfl dX6_putOver_26 ?_
      first | refine e_baldv 29 rfl dX6_putOver_28 (by assumption) (by assumption) (by first | rfl | simp only [pk_mul, nI_add]) (by omega) (by omega) (by first | assumption | (simp only [mN_sF, mK_sF, mL_sF, mF_sF, mB_sF, mA_sF, mJ_sF, mP_sF, mO_sF, mN_sB, mK_sB, mL_sB, mF_sB, mB_sB, mA_sB, mJ_sB, mP_sB, mO_sB, mN_sA, mK_sA, mL_sA, mF_sA, mB_sA, mA_sA, mJ_sA, mP_sA, mO_sA, mN_sJ, mK_sJ, mL_sJ, mF_sJ, mB_sJ, mA_sJ, mJ_sJ, mP_sJ, mO_sJ, mN_sP, mK_sP, mL_sP, mF_sP, mB_sP, mA_sP, mJ_sP, mP_sP, mO_sP, mN_sO, mK_sO, mL_sO, mF_sO, mB_sO, mA_sO, mJ_sO, mP_sO, mO_sO, up2, if_true, if_false, eq_self, ite_true, ite_false, reduceIte, Nat.add_left_cancel_iff, Nat.add_eq_left, Nat.left_eq_add, Nat.reduceEqDiff]; assumption) | (simp only [mN_sF, mK_sF, mL_sF, mF_sF, mB_sF, mA_sF, mJ_sF, mP_sF, mO_sF, mN_sB, mK_sB, mL_sB, mF_sB, mB_sB, mA_sB, mJ_sB, mP_sB, mO_sB, mN_sA, mK_sA, mL_sA, mF_sA, mB_sA, mA_sA, mJ_sA, mP_sA, mO_sA, mN_sJ, mK_sJ, mL_sJ, mF_sJ, mB_sJ, mA_sJ, mJ_sJ, mP_sJ, mO_sJ, mN_sP, mK_sP, mL_sP, mF_sP, mB_sP, mA_sP, mJ_sP, mP_sP, mO_sP, mN_sO, mK_sO, mL_sO, mF_sO, mB_sO, mA_sO, mJ_sO, mP_sO, mO_sO, up2, if_true, if_false, eq_self, ite_true, ite_false, reduceIte, Nat.add_left_cancel_iff, Nat.add_eq_left, Nat.left_eq_add, Nat.reduceEqDiff]; done)) ?_ | refine e_zaldv 29 rfl dX6_putOver_28 (by assumption) (by assumption) (by first | rfl | simp only [pk_mul, nI_add]) (by omega) (by omega) (by first | assumption | (simp only [mN_sF, mK_sF, mL_sF, mF_sF, mB_sF, mA_sF, mJ_sF, mP_sF, mO_sF, mN_sB, mK_sB, mL_sB, mF_sB, mB_sB, mA_sB, mJ_sB, mP_sB, mO_sB, mN_sA, mK_sA, mL_sA, mF_sA, mB_sA, mA_sA, mJ_sA, mP_sA, mO_sA, mN_sJ, mK_sJ, mL_sJ, mF_sJ, mB_sJ, mA_sJ, mJ_sJ, mP_sJ, mO_sJ, mN_sP, mK_sP, mL_sP, mF_sP, mB_sP, mA_sP, mJ_sP, mP_sP, mO_sP, mN_sO, mK_sO, mL_sO, mF_sO, mB_sO, mA_sO, mJ_sO, mP_sO, mO_sO, up2, if_true, if_false, eq_self, ite_true, ite_false, reduceIte, Nat.add_left_cancel_iff, Nat.add_eq_left, Nat.left_eq_add, Nat.reduceEqDiff]; assumption) | (simp only [mN_sF, mK_sF, mL_sF, mF_sF, mB_sF, mA_sF, mJ_sF, mP_sF, mO_sF, mN_sB, mK_sB, mL_sB, mF_sB, mB_sB, mA_sB, mJ_sB, mP_sB, mO_sB, mN_sA, mK_sA, mL_sA, mF_sA, mB_sA, mA_sA, mJ_sA, mP_sA, mO_sA, mN_sJ, mK_sJ, mL_sJ, mF_sJ, mB_sJ, mA_sJ, mJ_sJ, mP_sJ, mO_sJ, mN_sP, mK_sP, mL_sP, mF_sP, mB_sP, mA_sP, mJ_sP, mP_sP, mO_sP, mN_sO, mK_sO, mL_sO, mF_sO, mB_sO, mA_sO, mJ_sO, mP_sO, mO_sO, up2, if_true, if_false, eq_self, ite_true, ite_false, reduceIte, Nat.add_left_cancel_iff, Nat.add_eq_left, Nat.left_eq_add, Nat.reduceEqDiff]; done)) ?_ | refine e_bald 29 rfl dX6_putOver_28 (by assumption) (by assumption) (by first | rfl | simp only [pk_mul, nI_add]) (by omega) (by omega) ?_ | refine e_zald 29 rfl dX6_putOver_28 (by assumption) (by assumption) (by first | rfl | simp only [pk_mul, nI_add]) (by omega) (by omega) ?_
      refine e_bipush (nI 97) 31 rfl dX6_putOver_29 bc_97 ?_
      first | refine e_isubN 32 rfl dX6_putOver_31 rfl rfl (by omega) ?_ | refine e_isub 32 rfl dX6_putOver_31 ?_
      refine e_is5 34 rfl dX6_putOver_32 (by decide) rfl ?_
      refine e_il5 36 rfl dX6_putOver_34 ?_
      first | refine e_if_ltN 83 39 (by decide) rfl dX6_putOver_36 rfl (by omega) ?_ | refine e_if_lt 83 39 (by decide) rfl dX6_putOver_36 (fun h => ?_) (fun h => ?_)
      refine e_il5 41 rfl dX6_putOver_39 ?_
      refine e_bipush (nI 26) 43 rfl dX6_putOver_41 bc_26 ?_
      first | refine e_cmp_geN 83 46 (by decide) rfl dX6_putOver_43 rfl rfl (by omega) (by omega) (fun g2 => ?_) (fun g2 => ?_) | refine e_cmp_ge 83 46 (by decide) rfl dX6_putOver_43 (fun g2 => ?_) (fun g2 => ?_)
      · omega
      refine e_iconst (nI 0) 47 rfl dX6_putOver_46 ic_0 ?_
      refine e_is6 49 rfl dX6_putOver_47 (by decide) rfl ?_
      refine inner i hi' (fun μ2 hF2 hL2 => ?_) (tb (w[i] - 97)).length 0 (by omega) μ' hF (by simpa using hL)
      refine e_ii4 (nI (_ + 1)) 86 rfl dX6_putOver_83 (ii1 _) rfl ?_
      refine e_goto 13 (by decide) dX6_putOver_86 ?_
      exact ih (i + 1) (by omega) _ _ rfl μ2 hF2 hL2
  have hkr := hr.1
  refine Cl.of0 3 pn_X6 (Nat.le_of_ble_eq_true rfl) ⟨rfl, rfl⟩ rfl ?_
  refine e_il2 1 rfl dX6_putOver_0 ?_
  first | refine e_if_leN 10 4 (by decide) rfl dX6_putOver_1 rfl (by omega) (fun g0 => ?_) (fun g0 => ?_) | refine e_if_le 10 4 (by decide) rfl dX6_putOver_1 (fun g0 => ?_) (fun g0 => ?_)
  · refine e_iconst (nI 0) 11 rfl dX6_putOver_10 ic_0 ?_
    refine e_is4 13 rfl dX6_putOver_11 (by decide) rfl ?_
    refine outer w.length 0 (by omega) none none rfl μ Fr.rf ?_
    simpa [bl, g0, putL] using hrl
  · refine e_al3 5 rfl dX6_putOver_4 ?_
    refine e_bipush (nI 32) 7 rfl dX6_putOver_5 bc_32 ?_
    refine e_invV0 [_] 10 rfl dX6_putOver_7 k_X6_23 mo_X1_add rm_X6_putOver_X1_add ⟨rfl, rfl⟩ rfl rfl (by assumption) (Nat.le_of_ble_eq_true rfl) ?_
    refine c_ladd hr hrl (by omega) (by decide) (fun μ2 hF2 hL2 => ?_)
    refine e_iconst (nI 0) 11 rfl dX6_putOver_10 ic_0 ?_
    refine e_is4 13 rfl dX6_putOver_11 (by decide) rfl ?_
    refine outer w.length 0 (by omega) none none rfl μ2 hF2 ?_
    simpa [bl, Nat.ne_of_gt g0, putL] using hL2
end TABLE
