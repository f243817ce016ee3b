/-! NameDesk$ShapeText: readLetters, readEnding -/
section LETTERS
variable {E : En} {μ : Mm} {K : Option Value → Mm → Prop}
/-- the letters of SORT or CALL -/
def pLt (l : List Nat) : Nat → Nat → List Nat → (Nat × Nat) ⊕ (Nat × List Nat)
  | f, p, acc => match kAt l p with
    | none => if acc ≠ [] ∧ l[p]? = some 59 then .inr (p + 1, acc) else .inl (1, p)
    | some k => if k ∈ acc then .inl (3, p) else match f with
      | 0 => .inl (3, p)
      | f + 1 => pLt l f (p + 1) (acc ++ [k])
theorem pLt_eq (l : List Nat) (f p : Nat) (acc : List Nat) : pLt l f p acc = match kAt l p with
    | none => if acc ≠ [] ∧ l[p]? = some 59 then .inr (p + 1, acc) else .inl (1, p)
    | some k => if k ∈ acc then .inl (3, p) else match f with
      | 0 => .inl (3, p)
      | f + 1 => pLt l f (p + 1) (acc ++ [k]) := by
  cases f <;> rw [pLt]
theorem c_readLetters (KH : KHere E) {a t u p0 : Nat} {l : List Nat} (hX : Xt μ a t l p0) (hp0 : p0 ≤ 401) (hku : mK μ u = 13) (hlu : mL μ u = 7)
    (kt : ∀ p ks, pLt l 7 p0 [] = .inr (p, ks) → ∀ μ', Fr (fun q => q = a ∨ q = u) μ μ' → mF μ' a 3 = mF μ a 3 → mF μ' a 4 = mF μ a 4 → Xt μ' a t l p → Hd (mA μ' u) ks → K (some (.int (nI ks.length))) μ')
    (kf : ∀ f p, pLt l 7 p0 [] = .inl (f, p) → ∀ μ', Fr (fun q => q = a ∨ q = u) μ μ' → Flt μ' a f p → K (some (.int (-1))) μ') : Cl E M_X5_readLetters [.ref a, .ref u] μ K := by
  have hau : a ≠ u := fun e => by have := hX.1.1; rw [e, hku] at this; cases this
  have htu : t ≠ u := fun e => by have := hX.1.2.2.1; rw [e, hku] at this; cases this
  have onlya : ∀ {μ1 μ2 : Mm}, Fr (fun q => q = a) μ1 μ2 → Fr (fun q => q = a ∨ q = u) μ1 μ2 := fun h => h.mono (fun q e => Or.inl e)
  have twice : ∀ (p : Nat) μ' (ls : List (Option Value)), pLt l 7 p0 [] = .inl (3, p) → Fr (fun q => q = a ∨ q = u) μ μ' → Xt μ' a t l p → ∀ x1 x2 x3 x4 x5, ls = [some (.ref a), x1, x2, x3, x4, x5] → Ev E M_X5_readLetters 0 0 101 ls [] μ' K := by
    intro p μ' ls he hF hX' x1 x2 x3 x4 x5 els
    subst els
    have ak := hX'.1.1
    refine e_al0 102 rfl dX5_readLetters_101 ?_
    refine e_iconst (nI 3) 103 rfl dX5_readLetters_102 ic_3 ?_
    refine e_invV0 [_] 106 rfl dX5_readLetters_103 k_X5_64 mo_X5_stopWith rm_X5_readLetters_X5_stopWith ⟨rfl, rfl⟩ rfl rfl (by assumption) (Nat.le_of_ble_eq_true rfl) ?_
    refine c_stopWith hX' (fun μ2 hF2 hfl hX2 => ?_)
    refine e_pop 107 rfl dX5_readLetters_106 rfl ?_
    refine e_iconst (-1) 108 rfl dX5_readLetters_107 ic_m1 ?_
    refine e_iret dX5_readLetters_108 rfl ?_
    exact kf _ _ he μ2 (hF.trans (onlya hF2)) hfl
  have loop : ∀ (fu i : Nat), i + fu = 7 → ∀ (p v : Nat) (acc : List Nat) (y4 y5 : Option Value), nl y4 = true → acc.length = i → v < 128 → (∀ k, v.testBit k = true ↔ k ∈ acc) → pLt l 7 p0 [] = pLt l fu p acc → ∀ μ', Fr (fun q => q = a ∨ q = u) μ μ' → mF μ' a 3 = mF μ a 3 → mF μ' a 4 = mF μ a 4 → Xt μ' a t l p → p ≤ 401 → Hd (mA μ' u) acc → Ev E M_X5_readLetters 0 0 4 [some (.ref a), some (.ref u), some (.int (nI v)), some (.int (nI i)), y4, y5] [] μ' K := by
    intro fu
    induction fu with
    | zero =>
      intro i hi p v acc y4 y5 hy hacc hv hb he μ' hF h3 h4 hX' hp hH
      have e7 : i = 7 := by omega
      subst e7
      have ak := hX'.1.1
      have hku' : mK μ' u = 13 := by rw [hF.2.1]; exact hku
      have hlu' : mL μ' u = 7 := by rw [hF.2.2.1]; exact hlu
      have hane : acc ≠ [] := fun q => by rw [q] at hacc; cases hacc
      rw [pLt_eq l 0 p acc] at he
      refine e_il3 5 rfl dX5_readLetters_4 ?_
      refine e_al1 6 rfl dX5_readLetters_5 ?_
      refine e_alen 7 rfl dX5_readLetters_6 (by first | exact Or.inl (by assumption) | exact Or.inr (Or.inl (by assumption)) | exact Or.inr (Or.inr (by assumption))) (by assumption) ?_
      refine e_iconst (nI 1) 8 rfl dX5_readLetters_7 ic_1 ?_
      first | refine e_iaddN 9 rfl dX5_readLetters_8 rfl rfl ?_ | refine e_iadd 9 rfl dX5_readLetters_8 ?_
      first | refine e_cmp_geN 101 12 (by decide) rfl dX5_readLetters_9 rfl rfl (by omega) (by omega) (fun g1 => ?_) (fun g1 => ?_) | refine e_cmp_ge 101 12 (by decide) rfl dX5_readLetters_9 (fun g1 => ?_) (fun g1 => ?_)
      · omega
      refine e_al0 13 rfl dX5_readLetters_12 ?_
      refine e_invV0 [] 16 rfl dX5_readLetters_13 k_X5_86 mo_X5_kindHere rm_X5_readLetters_X5_kindHere ⟨rfl, rfl⟩ rfl rfl (by assumption) (Nat.le_of_ble_eq_true rfl) ?_
      refine KH hX' ?_
      cases hk : kAt l p with
      | none =>
        rw [hk] at he
        refine e_is4 18 rfl dX5_readLetters_16 (by decide) rfl ?_
        refine e_il4 20 rfl dX5_readLetters_18 ?_
        refine e_iconst (-1) 21 rfl dX5_readLetters_20 ic_m1 ?_
        refine e_cmp_ne 55 24 (by decide) rfl dX5_readLetters_21 (fun g2 => ?_) (fun g2 => ?_)
        · exact absurd rfl g2
        refine e_il3 25 rfl dX5_readLetters_24 ?_
        first | refine e_if_leN 37 28 (by decide) rfl dX5_readLetters_25 rfl (by omega) (fun g3 => ?_) (fun g3 => ?_) | refine e_if_le 37 28 (by decide) rfl dX5_readLetters_25 (fun g3 => ?_) (fun g3 => ?_)
        · omega
        refine e_al0 29 rfl dX5_readLetters_28 ?_
        refine e_bipush (nI 59) 31 rfl dX5_readLetters_29 bc_59 ?_
        refine e_invV0 [_] 34 rfl dX5_readLetters_31 k_X5_60 mo_X5_pass rm_X5_readLetters_X5_pass ⟨rfl, rfl⟩ rfl rfl (by assumption) (Nat.le_of_ble_eq_true rfl) ?_
        refine c_pass hX' (by decide) hp (fun hs μ2 hF2 q3 q4 hX2 => ?_) (fun hs μ2 hF2 hfl hX2 => ?_)
        · refine e_goto 42 (by decide) dX5_readLetters_34 ?_
          refine e_is5 44 rfl dX5_readLetters_42 (by decide) rfl ?_
          refine e_il5 46 rfl dX5_readLetters_44 ?_
          first | refine e_if_eqB 53 49 (by decide) rfl dX5_readLetters_46 rfl (fun g4 => ?_) (fun g4 => ?_) | refine e_if_eqN 53 49 (by decide) rfl dX5_readLetters_46 rfl (by omega) (fun g4 => ?_) (fun g4 => ?_) | refine e_if_eq 53 49 (by decide) rfl dX5_readLetters_46 (fun g4 => ?_) (fun g4 => ?_)
          · omega
          refine e_il3 50 rfl dX5_readLetters_49 ?_
          refine e_goto 54 (by decide) dX5_readLetters_50 ?_
          refine e_iret dX5_readLetters_54 rfl ?_
          rw [if_pos ⟨hane, hs⟩] at he
          rw [← hacc]
          refine kt _ _ he μ2 (hF.trans (onlya hF2)) (q3.trans h3) (q4.trans h4) hX2 ?_
          rw [(hF2.2.2.2.2.2 u (fun e => hau e.symm)).2.2.1]; exact hH
        · refine e_goto 42 (by decide) dX5_readLetters_34 ?_
          refine e_is5 44 rfl dX5_readLetters_42 (by decide) rfl ?_
          refine e_il5 46 rfl dX5_readLetters_44 ?_
          first | refine e_if_eqB 53 49 (by decide) rfl dX5_readLetters_46 rfl (fun g4 => ?_) (fun g4 => ?_) | refine e_if_eqN 53 49 (by decide) rfl dX5_readLetters_46 rfl (by omega) (fun g4 => ?_) (fun g4 => ?_) | refine e_if_eq 53 49 (by decide) rfl dX5_readLetters_46 (fun g4 => ?_) (fun g4 => ?_)
          rotate_left
          · omega
          refine e_iconst (-1) 54 rfl dX5_readLetters_53 ic_m1 ?_
          refine e_iret dX5_readLetters_54 rfl ?_
          rw [if_neg (fun q => hs q.2)] at he
          exact kf _ _ he μ2 (hF.trans (onlya hF2)) hfl
      | some kd =>
        rw [hk] at he
        have hkd := kAt_lt hk
        have he2 : pLt l 7 p0 [] = .inl (3, p) := by rw [he]; show (if kd ∈ acc then _ else _) = _; split <;> rfl
        refine e_is4 18 rfl dX5_readLetters_16 (by decide) rfl ?_
        refine e_il4 20 rfl dX5_readLetters_18 ?_
        refine e_iconst (-1) 21 rfl dX5_readLetters_20 ic_m1 ?_
        refine e_cmp_ne 55 24 (by decide) rfl dX5_readLetters_21 (fun g2 => ?_) (fun g2 => ?_)
        rotate_left
        · exact absurd ((seeI_m1 (o := some kd) (fun c hc => by cases hc; omega)).mp g2) (by simp)
        refine e_il2 56 rfl dX5_readLetters_55 ?_
        refine e_il4 58 rfl dX5_readLetters_56 ?_
        refine e_ishrN 59 rfl dX5_readLetters_58 rfl rfl (by omega) (by omega) ?_
        refine e_iconst (nI 1) 60 rfl dX5_readLetters_59 ic_1 ?_
        refine e_iandN 61 rfl dX5_readLetters_60 rfl rfl ?_
        refine e_if_neN 101 64 (by decide) rfl dX5_readLetters_61 rfl (Nat.lt_of_le_of_lt Nat.and_le_right (by decide)) (fun g3 => ?_) (fun g3 => ?_)
        · exact twice p μ' _ he2 hF hX' _ _ _ _ _ rfl
        refine e_il3 65 rfl dX5_readLetters_64 ?_
        refine e_al1 66 rfl dX5_readLetters_65 ?_
        refine e_alen 67 rfl dX5_readLetters_66 (by first | exact Or.inl (by assumption) | exact Or.inr (Or.inl (by assumption)) | exact Or.inr (Or.inr (by assumption))) (by assumption) ?_
        first | refine e_cmp_ltN 73 70 (by decide) rfl dX5_readLetters_67 rfl rfl (by omega) (by omega) (fun g4 => ?_) (fun g4 => ?_) | refine e_cmp_lt 73 70 (by decide) rfl dX5_readLetters_67 (fun g4 => ?_) (fun g4 => ?_)
        · omega
        refine e_goto 101 (by decide) dX5_readLetters_70 ?_
        exact twice p μ' _ he2 hF hX' _ _ _ _ _ rfl
    | succ fu ih =>
      intro i hi p v acc y4 y5 hy hacc hv hb he μ' hF h3 h4 hX' hp hH
      have ak := hX'.1.1
      have a2 := hX'.2.2.1
      have hku' : mK μ' u = 13 := by rw [hF.2.1]; exact hku
      have hlu' : mL μ' u = 7 := by rw [hF.2.2.1]; exact hlu
      rw [pLt_eq l (fu + 1) p acc] at he
      refine e_il3 5 rfl dX5_readLetters_4 ?_
      refine e_al1 6 rfl dX5_readLetters_5 ?_
      refine e_alen 7 rfl dX5_readLetters_6 (by first | exact Or.inl (by assumption) | exact Or.inr (Or.inl (by assumption)) | exact Or.inr (Or.inr (by assumption))) (by assumption) ?_
      refine e_iconst (nI 1) 8 rfl dX5_readLetters_7 ic_1 ?_
      first | refine e_iaddN 9 rfl dX5_readLetters_8 rfl rfl ?_ | refine e_iadd 9 rfl dX5_readLetters_8 ?_
      first | refine e_cmp_geN 101 12 (by decide) rfl dX5_readLetters_9 rfl rfl (by omega) (by omega) (fun g1 => ?_) (fun g1 => ?_) | refine e_cmp_ge 101 12 (by decide) rfl dX5_readLetters_9 (fun g1 => ?_) (fun g1 => ?_)
      · omega
      refine e_al0 13 rfl dX5_readLetters_12 ?_
      refine e_invV0 [] 16 rfl dX5_readLetters_13 k_X5_86 mo_X5_kindHere rm_X5_readLetters_X5_kindHere ⟨rfl, rfl⟩ rfl rfl (by assumption) (Nat.le_of_ble_eq_true rfl) ?_
      refine KH hX' ?_
      cases hk : kAt l p with
      | none =>
        rw [hk] at he
        refine e_is4 18 rfl dX5_readLetters_16 (by decide) rfl ?_
        refine e_il4 20 rfl dX5_readLetters_18 ?_
        refine e_iconst (-1) 21 rfl dX5_readLetters_20 ic_m1 ?_
        refine e_cmp_ne 55 24 (by decide) rfl dX5_readLetters_21 (fun g2 => ?_) (fun g2 => ?_)
        · exact absurd rfl g2
        refine e_il3 25 rfl dX5_readLetters_24 ?_
        first | refine e_if_leN 37 28 (by decide) rfl dX5_readLetters_25 rfl (by omega) (fun g3 => ?_) (fun g3 => ?_) | refine e_if_le 37 28 (by decide) rfl dX5_readLetters_25 (fun g3 => ?_) (fun g3 => ?_)
        · refine e_al0 38 rfl dX5_readLetters_37 ?_
          refine e_iconst (nI 1) 39 rfl dX5_readLetters_38 ic_1 ?_
          refine e_invV0 [_] 42 rfl dX5_readLetters_39 k_X5_64 mo_X5_stopWith rm_X5_readLetters_X5_stopWith ⟨rfl, rfl⟩ rfl rfl (by assumption) (Nat.le_of_ble_eq_true rfl) ?_
          refine c_stopWith hX' (fun μ2 hF2 hfl hX2 => ?_)
          refine e_is5 44 rfl dX5_readLetters_42 (by decide) rfl ?_
          refine e_il5 46 rfl dX5_readLetters_44 ?_
          first | refine e_if_eqB 53 49 (by decide) rfl dX5_readLetters_46 rfl (fun g4 => ?_) (fun g4 => ?_) | refine e_if_eqN 53 49 (by decide) rfl dX5_readLetters_46 rfl (by omega) (fun g4 => ?_) (fun g4 => ?_) | refine e_if_eq 53 49 (by decide) rfl dX5_readLetters_46 (fun g4 => ?_) (fun g4 => ?_)
          rotate_left
          · omega
          refine e_iconst (-1) 54 rfl dX5_readLetters_53 ic_m1 ?_
          refine e_iret dX5_readLetters_54 rfl ?_
          rw [if_neg (fun q => q.1 (List.eq_nil_of_length_eq_zero (by omega)))] at he
          exact kf _ _ he μ2 (hF.trans (onlya hF2)) hfl
        have hane : acc ≠ [] := fun q => by rw [q] at hacc; simp at hacc; omega
        refine e_al0 29 rfl dX5_readLetters_28 ?_
        refine e_bipush (nI 59) 31 rfl dX5_readLetters_29 bc_59 ?_
        refine e_invV0 [_] 34 rfl dX5_readLetters_31 k_X5_60 mo_X5_pass rm_X5_readLetters_X5_pass ⟨rfl, rfl⟩ rfl rfl (by assumption) (Nat.le_of_ble_eq_true rfl) ?_
        refine c_pass hX' (by decide) hp (fun hs μ2 hF2 q3 q4 hX2 => ?_) (fun hs μ2 hF2 hfl hX2 => ?_)
        · refine e_goto 42 (by decide) dX5_readLetters_34 ?_
          refine e_is5 44 rfl dX5_readLetters_42 (by decide) rfl ?_
          refine e_il5 46 rfl dX5_readLetters_44 ?_
          first | refine e_if_eqB 53 49 (by decide) rfl dX5_readLetters_46 rfl (fun g4 => ?_) (fun g4 => ?_) | refine e_if_eqN 53 49 (by decide) rfl dX5_readLetters_46 rfl (by omega) (fun g4 => ?_) (fun g4 => ?_) | refine e_if_eq 53 49 (by decide) rfl dX5_readLetters_46 (fun g4 => ?_) (fun g4 => ?_)
          · omega
          refine e_il3 50 rfl dX5_readLetters_49 ?_
          refine e_goto 54 (by decide) dX5_readLetters_50 ?_
          refine e_iret dX5_readLetters_54 rfl ?_
          rw [if_pos ⟨hane, hs⟩] at he
          rw [← hacc]
          refine kt _ _ he μ2 (hF.trans (onlya hF2)) (q3.trans h3) (q4.trans h4) hX2 ?_
          rw [(hF2.2.2.2.2.2 u (fun e => hau e.symm)).2.2.1]; exact hH
        · refine e_goto 42 (by decide) dX5_readLetters_34 ?_
          refine e_is5 44 rfl dX5_readLetters_42 (by decide) rfl ?_
          refine e_il5 46 rfl dX5_readLetters_44 ?_
          first | refine e_if_eqB 53 49 (by decide) rfl dX5_readLetters_46 rfl (fun g4 => ?_) (fun g4 => ?_) | refine e_if_eqN 53 49 (by decide) rfl dX5_readLetters_46 rfl (by omega) (fun g4 => ?_) (fun g4 => ?_) | refine e_if_eq 53 49 (by decide) rfl dX5_readLetters_46 (fun g4 => ?_) (fun g4 => ?_)
          rotate_left
          · omega
          refine e_iconst (-1) 54 rfl dX5_readLetters_53 ic_m1 ?_
          refine e_iret dX5_readLetters_54 rfl ?_
          rw [if_neg (fun q => hs q.2)] at he
          exact kf _ _ he μ2 (hF.trans (onlya hF2)) hfl
      | some kd =>
        rw [hk] at he
        have hkd := kAt_lt hk
        have hl4 := hX'.2.2.2.2.1
        refine e_is4 18 rfl dX5_readLetters_16 (by decide) rfl ?_
        refine e_il4 20 rfl dX5_readLetters_18 ?_
        refine e_iconst (-1) 21 rfl dX5_readLetters_20 ic_m1 ?_
        refine e_cmp_ne 55 24 (by decide) rfl dX5_readLetters_21 (fun g2 => ?_) (fun g2 => ?_)
        rotate_left
        · exact absurd ((seeI_m1 (o := some kd) (fun c hc => by cases hc; omega)).mp g2) (by simp)
        refine e_il2 56 rfl dX5_readLetters_55 ?_
        refine e_il4 58 rfl dX5_readLetters_56 ?_
        refine e_ishrN 59 rfl dX5_readLetters_58 rfl rfl (by omega) (by omega) ?_
        refine e_iconst (nI 1) 60 rfl dX5_readLetters_59 ic_1 ?_
        refine e_iandN 61 rfl dX5_readLetters_60 rfl rfl ?_
        refine e_if_neN 101 64 (by decide) rfl dX5_readLetters_61 rfl (Nat.lt_of_le_of_lt Nat.and_le_right (by decide)) (fun g3 => ?_) (fun g3 => ?_)
        · have hin : kd ∈ acc := (hb kd).mp (by cases q : v.testBit kd; exact absurd ((bit1 _ _).mpr q) g3; rfl)
          have he2 : pLt l 7 p0 [] = .inl (3, p) := by rw [he]; show (if kd ∈ acc then _ else _) = _; rw [if_pos hin]
          exact twice p μ' _ he2 hF hX' _ _ _ _ _ rfl
        have hnin : kd ∉ acc := fun q => by have := (hb kd).mpr q; rw [(bit1 _ _).mp g3] at this; cases this
        have he2 : pLt l 7 p0 [] = pLt l fu (p + 1) (acc ++ [kd]) := by rw [he]; show (if kd ∈ acc then _ else _) = _; rw [if_neg hnin]
        refine e_il3 65 rfl dX5_readLetters_64 ?_
        refine e_al1 66 rfl dX5_readLetters_65 ?_
        refine e_alen 67 rfl dX5_readLetters_66 (by first | exact Or.inl (by assumption) | exact Or.inr (Or.inl (by assumption)) | exact Or.inr (Or.inr (by assumption))) (by assumption) ?_
        first | refine e_cmp_ltN 73 70 (by decide) rfl dX5_readLetters_67 rfl rfl (by omega) (by omega) (fun g4 => ?_) (fun g4 => ?_) | refine e_cmp_lt 73 70 (by decide) rfl dX5_readLetters_67 (fun g4 => ?_) (fun g4 => ?_)
        rotate_left
        · omega
        have hlen : (acc ++ [kd]).length = i + 1 := by simp [hacc]
        have a2' : mF (sA μ' u i (nI kd)) a 2 = nI p := a2
        refine e_il2 74 rfl dX5_readLetters_73 ?_
        refine e_iconst (nI 1) 75 rfl dX5_readLetters_74 ic_1 ?_
        refine e_il4 77 rfl dX5_readLetters_75 ?_
        refine e_ishl1 78 rfl dX5_readLetters_77 rfl rfl (by omega) ?_
        refine e_iorN 79 rfl dX5_readLetters_78 rfl rfl ?_
        refine e_is2 80 rfl dX5_readLetters_79 (by decide) rfl ?_
        refine e_al1 81 rfl dX5_readLetters_80 ?_
        refine e_il3 82 rfl dX5_readLetters_81 ?_
        refine e_il4 84 rfl dX5_readLetters_82 ?_
        refine e_iast 85 rfl dX5_readLetters_84 (by assumption) (by assumption) (by first | rfl | simp only [pk_mul, nI_add]) (by omega) (by omega) ?_
        refine e_al0 86 rfl dX5_readLetters_85 ?_
        refine e_dup 87 rfl dX5_readLetters_86 rfl ?_
        first | refine e_getIv 90 rfl dX5_readLetters_87 f_X5_19 (by assumption) (by first | assumption | (simp only [mN_sF, mK_sF, mL_sF, mF_sF, mB_sF, mA_sF, mJ_sF, mP_sF, mO_sF, mN_sB, mK_sB, mL_sB, mF_sB, mB_sB, mA_sB, mJ_sB, mP_sB, mO_sB, mN_sA, mK_sA, mL_sA, mF_sA, mB_sA, mA_sA, mJ_sA, mP_sA, mO_sA, mN_sJ, mK_sJ, mL_sJ, mF_sJ, mB_sJ, mA_sJ, mJ_sJ, mP_sJ, mO_sJ, mN_sP, mK_sP, mL_sP, mF_sP, mB_sP, mA_sP, mJ_sP, mP_sP, mO_sP, mN_sO, mK_sO, mL_sO, mF_sO, mB_sO, mA_sO, mJ_sO, mP_sO, mO_sO, up2, if_true, if_false, eq_self, ite_true, ite_false, reduceIte, Nat.add_left_cancel_iff, Nat.add_eq_left, Nat.left_eq_add, Nat.reduceEqDiff]; assumption) | (simp only [mN_sF, mK_sF, mL_sF, mF_sF, mB_sF, mA_sF, mJ_sF, mP_sF, mO_sF, mN_sB, mK_sB, mL_sB, mF_sB, mB_sB, mA_sB, mJ_sB, mP_sB, mO_sB, mN_sA, mK_sA, mL_sA, mF_sA, mB_sA, mA_sA, mJ_sA, mP_sA, mO_sA, mN_sJ, mK_sJ, mL_sJ, mF_sJ, mB_sJ, mA_sJ, mJ_sJ, mP_sJ, mO_sJ, mN_sP, mK_sP, mL_sP, mF_sP, mB_sP, mA_sP, mJ_sP, mP_sP, mO_sP, mN_sO, mK_sO, mL_sO, mF_sO, mB_sO, mA_sO, mJ_sO, mP_sO, mO_sO, up2, if_true, if_false, eq_self, ite_true, ite_false, reduceIte, Nat.add_left_cancel_iff, Nat.add_eq_left, Nat.left_eq_add, Nat.reduceEqDiff]; done)) ?_ | refine e_getI 90 rfl dX5_readLetters_87 f_X5_19 (by assumption) ?_
        refine e_iconst (nI 1) 91 rfl dX5_readLetters_90 ic_1 ?_
        first | refine e_iaddN 92 rfl dX5_readLetters_91 rfl rfl ?_ | refine e_iadd 92 rfl dX5_readLetters_91 ?_
        refine e_putI 95 rfl dX5_readLetters_92 f_X5_19 (by assumption) ?_
        refine e_ii3 (nI (_ + 1)) 98 rfl dX5_readLetters_95 (ii1 _) rfl ?_
        refine e_goto 4 (by decide) dX5_readLetters_98 ?_
        have hFu : Fr (fun q => q = u) μ' (sA μ' u i (nI kd)) := (Fr.rf (S := fun q => q = u)).sA rfl _ _
        have hXu := hX'.fr hFu hau htu
        refine ih (i + 1) (by omega) (p + 1) _ (acc ++ [kd]) _ _ rfl hlen (or_lt (n := 7) hv (pow_lt hkd.1)) (fun k => ?_) he2 _ ((hF.sA (Or.inr rfl) _ _).sF (Or.inl rfl) _ _) ?_ ?_ (hXu.step (by omega)) (by omega) (hH.push (fun j hj => ?_) ?_)
        · rw [tb_or, hb k, tb_pow]; simp
        · simp only [mN_sF, mK_sF, mL_sF, mF_sF, mB_sF, mA_sF, mJ_sF, mP_sF, mO_sF, mN_sB, mK_sB, mL_sB, mF_sB, mB_sB, mA_sB, mJ_sB, mP_sB, mO_sB, mN_sA, mK_sA, mL_sA, mF_sA, mB_sA, mA_sA, mJ_sA, mP_sA, mO_sA, mN_sJ, mK_sJ, mL_sJ, mF_sJ, mB_sJ, mA_sJ, mJ_sJ, mP_sJ, mO_sJ, mN_sP, mK_sP, mL_sP, mF_sP, mB_sP, mA_sP, mJ_sP, mP_sP, mO_sP, mN_sO, mK_sO, mL_sO, mF_sO, mB_sO, mA_sO, mJ_sO, mP_sO, mO_sO, up2, if_true, if_false, eq_self, ite_true, ite_false, reduceIte, Nat.add_left_cancel_iff, Nat.add_eq_left, Nat.left_eq_add, Nat.reduceEqDiff]; exact h3
        · simp only [mN_sF, mK_sF, mL_sF, mF_sF, mB_sF, mA_sF, mJ_sF, mP_sF, mO_sF, mN_sB, mK_sB, mL_sB, mF_sB, mB_sB, mA_sB, mJ_sB, mP_sB, mO_sB, mN_sA, mK_sA, mL_sA, mF_sA, mB_sA, mA_sA, mJ_sA, mP_sA, mO_sA, mN_sJ, mK_sJ, mL_sJ, mF_sJ, mB_sJ, mA_sJ, mJ_sJ, mP_sJ, mO_sJ, mN_sP, mK_sP, mL_sP, mF_sP, mB_sP, mA_sP, mJ_sP, mP_sP, mO_sP, mN_sO, mK_sO, mL_sO, mF_sO, mB_sO, mA_sO, mJ_sO, mP_sO, mO_sO, up2, if_true, if_false, eq_self, ite_true, ite_false, reduceIte, Nat.add_left_cancel_iff, Nat.add_eq_left, Nat.left_eq_add, Nat.reduceEqDiff]; exact h4
        · show up2 _ u _ _ u j = _
          rw [up2_k (by omega)]
        · show up2 _ u _ _ u _ = _
          rw [hacc, up2_s]; rfl
  refine Cl.of0 4 pn_X5 (Nat.le_of_ble_eq_true rfl) ⟨rfl, rfl⟩ rfl ?_
  refine e_iconst (nI 0) 1 rfl dX5_readLetters_0 ic_0 ?_
  refine e_is2 2 rfl dX5_readLetters_1 (by decide) rfl ?_
  refine e_iconst (nI 0) 3 rfl dX5_readLetters_2 ic_0 ?_
  refine e_is3 4 rfl dX5_readLetters_3 (by decide) rfl ?_
  exact loop 7 0 (by omega) p0 0 [] none none rfl rfl (by decide) (fun k => by simp) rfl μ Fr.rf rfl rfl hX hp0 Hd.nil
/-- the ending -/
def smAt (l : List Nat) (p : Nat) : Option Nat := match l[p]? with
  | some c => if isSm c then some c else none
  | none => none
def pEn (l : List Nat) : Nat → Nat → List Nat → (Nat × Nat) ⊕ (Nat × List Nat)
  | f, p, acc => match smAt l p with
    | none => if acc ≠ [] then .inr (p, acc) else .inl (1, p)
    | some c => match f with
      | 0 => .inl (2, p)
      | f + 1 => pEn l f (p + 1) (acc ++ [c])
theorem pEn_eq (l : List Nat) (f p : Nat) (acc : List Nat) : pEn l f p acc = match smAt l p with
    | none => if acc ≠ [] then .inr (p, acc) else .inl (1, p)
    | some c => match f with
      | 0 => .inl (2, p)
      | f + 1 => pEn l f (p + 1) (acc ++ [c]) := by
  cases f <;> rw [pEn]
def pEnd (l : List Nat) (p : Nat) : (Nat × Nat) ⊕ (Nat × List Nat) := if l[p]? = some 45 then .inr (p + 1, []) else pEn l 6 p []
theorem see_sm {l : List Nat} {p : Nat} (hl : ∀ c, l[p]? = some c → c < 256) : (nI 97 ≤ seeI l[p]? ∧ seeI l[p]? ≤ nI 122) ↔ (smAt l p).isSome = true := by
  unfold smAt
  cases h : l[p]? with
  | none => constructor
            · intro q; exact absurd q.1 (by decide)
            · intro q; cases q
  | some c =>
    have := hl c h
    show (nI 97 ≤ nI c ∧ nI c ≤ nI 122) ↔ _
    rw [nI_leI (by decide) (by omega), nI_leI (by omega) (by decide)]
    by_cases q : isSm c = true
    · simp only [q, if_true]
      simp [isSm] at q
      simp [q]
    · simp only [q]
      simp [isSm] at q
      simp
      omega
theorem smAt_some {l : List Nat} {p c : Nat} (h : smAt l p = some c) : l[p]? = some c ∧ 97 ≤ c ∧ c ≤ 122 ∧ p < l.length := by
  unfold smAt at h
  cases q : l[p]? with
  | none => rw [q] at h; cases h
  | some d =>
    rw [q] at h
    by_cases r : isSm d = true
    · simp [r] at h
      subst h
      simp [isSm] at r
      exact ⟨rfl, r.1, r.2, (List.getElem?_eq_some_iff.mp q).1⟩
    · simp [r] at h
theorem seeI_some (c : Nat) : seeI (some c) = nI c := rfl
def eS (a s : Nat) : Nat → Prop := fun q => q = a ∨ q = s ∨ q = s + 8
theorem c_readEnding {a t s p0 : Nat} {l : List Nat} (hX : Xt μ a t l p0) (hp0 : p0 ≤ 401) (hg : Sg μ s) (hda : ∀ q, q ≤ 8 → a ≠ s + q) (hdt : ∀ q, q ≤ 8 → t ≠ s + q)
    (kt : ∀ p en, pEnd l p0 = .inr (p, en) → ∀ μ', Fr (eS a s) μ μ' → (∀ f, f ≠ 12 → mF μ' s f = mF μ s f) → mF μ' a 3 = mF μ a 3 → mF μ' a 4 = mF μ a 4 → Xt μ' a t l p → p ≤ 401 → Se μ' s en → K (some (.int (nI 1))) μ')
    (kf : ∀ f p, pEnd l p0 = .inl (f, p) → ∀ μ', Fr (eS a s) μ μ' → Flt μ' a f p → K (some (.int (nI 0))) μ') : Cl E M_X5_readEnding [.ref a, .ref s] μ K := by
  have Sa : eS a s a := Or.inl rfl
  have S0 : eS a s s := Or.inr (Or.inl rfl)
  have S8 : eS a s (s + 8) := Or.inr (Or.inr rfl)
  have d0 : a ≠ s := hda 0 (by decide)
  have d8 : a ≠ s + 8 := hda 8 (by decide)
  have t0 : t ≠ s := hdt 0 (by decide)
  have t8 : t ≠ s + 8 := hdt 8 (by decide)
  have onlya : ∀ {μ1 μ2 : Mm}, Fr (fun q => q = a) μ1 μ2 → Fr (eS a s) μ1 μ2 := fun h => h.mono (fun q e => Or.inl e)
  have gk := hg.1.1
  have hF0 : Fr (fun q => q = s) μ (sF μ s 12 (nI 0)) := (Fr.rf (S := fun q => q = s)).sF rfl _ _
  have hX0 := hX.fr hF0 d0 t0
  have h30 : mF (sF μ s 12 (nI 0)) a 3 = mF μ a 3 := by rw [(hF0.2.2.2.2.2 a d0).1]
  have h40 : mF (sF μ s 12 (nI 0)) a 4 = mF μ a 4 := by rw [(hF0.2.2.2.2.2 a d0).1]
  have hf0 : ∀ f, f ≠ 12 → mF (sF μ s 12 (nI 0)) s f = mF μ s f := fun f hf => by show up2 _ s 12 _ s f = _; rw [up2_k hf]
  have hE0 : Se (sF μ s 12 (nI 0)) s [] := ⟨by simp only [mN_sF, mK_sF, mL_sF, mF_sF, mB_sF, mA_sF, mJ_sF, mP_sF, mO_sF, mN_sB, mK_sB, mL_sB, mF_sB, mB_sB, mA_sB, mJ_sB, mP_sB, mO_sB, mN_sA, mK_sA, mL_sA, mF_sA, mB_sA, mA_sA, mJ_sA, mP_sA, mO_sA, mN_sJ, mK_sJ, mL_sJ, mF_sJ, mB_sJ, mA_sJ, mJ_sJ, mP_sJ, mO_sJ, mN_sP, mK_sP, mL_sP, mF_sP, mB_sP, mA_sP, mJ_sP, mP_sP, mO_sP, mN_sO, mK_sO, mL_sO, mF_sO, mB_sO, mA_sO, mJ_sO, mP_sO, mO_sO, up2, if_true, if_false, eq_self, ite_true, ite_false, reduceIte, Nat.add_left_cancel_iff, Nat.add_eq_left, Nat.left_eq_add, Nat.reduceEqDiff]; rfl, by simp, Hd.nil, fun c hc => by simp at hc⟩
  have hFe : Fr (eS a s) μ (sF μ s 12 (nI 0)) := Fr.rf.sF S0 _ _
  refine Cl.of0 1 pn_X5 (Nat.le_of_ble_eq_true rfl) ⟨rfl, rfl⟩ rfl ?_
  refine e_al1 1 rfl dX5_readEnding_0 ?_
  refine e_iconst (nI 0) 2 rfl dX5_readEnding_1 ic_0 ?_
  refine e_putI 5 rfl dX5_readEnding_2 f_X5_99 (by assumption) ?_
  generalize sF μ s 12 (nI 0) = μ0 at hX0 h30 h40 hf0 hE0 hFe ⊢
  have ak0 := hX0.1.1
  have a20 := hX0.2.2.1
  refine e_al0 6 rfl dX5_readEnding_5 ?_
  refine e_invV0 [] 9 rfl dX5_readEnding_6 k_X5_71 mo_X5_here rm_X5_readEnding_X5_here ⟨rfl, rfl⟩ rfl rfl (by assumption) (Nat.le_of_ble_eq_true rfl) ?_
  refine c_here hX0 ?_
  have q45 := seeI_eq (fun c hc => hX0.lt p0 c hc) (d := 45) (by decide)
  refine e_bipush (nI 45) 11 rfl dX5_readEnding_9 bc_45 ?_
  refine e_cmp_ne 26 14 (by decide) rfl dX5_readEnding_11 (fun g1 => ?_) (fun g1 => ?_)
  rotate_left
  · -- no ending
    have e45 := q45.mp g1
    have hlt := (List.getElem?_eq_some_iff.mp e45).1
    have hl4 := hX0.2.2.2.2.1
    refine e_al0 15 rfl dX5_readEnding_14 ?_
    refine e_dup 16 rfl dX5_readEnding_15 rfl ?_
    first | refine e_getIv 19 rfl dX5_readEnding_16 f_X5_19 (by assumption) (by first | assumption | (simp only [mN_sF, mK_sF, mL_sF, mF_sF, mB_sF, mA_sF, mJ_sF, mP_sF, mO_sF, mN_sB, mK_sB, mL_sB, mF_sB, mB_sB, mA_sB, mJ_sB, mP_sB, mO_sB, mN_sA, mK_sA, mL_sA, mF_sA, mB_sA, mA_sA, mJ_sA, mP_sA, mO_sA, mN_sJ, mK_sJ, mL_sJ, mF_sJ, mB_sJ, mA_sJ, mJ_sJ, mP_sJ, mO_sJ, mN_sP, mK_sP, mL_sP, mF_sP, mB_sP, mA_sP, mJ_sP, mP_sP, mO_sP, mN_sO, mK_sO, mL_sO, mF_sO, mB_sO, mA_sO, mJ_sO, mP_sO, mO_sO, up2, if_true, if_false, eq_self, ite_true, ite_false, reduceIte, Nat.add_left_cancel_iff, Nat.add_eq_left, Nat.left_eq_add, Nat.reduceEqDiff]; assumption) | (simp only [mN_sF, mK_sF, mL_sF, mF_sF, mB_sF, mA_sF, mJ_sF, mP_sF, mO_sF, mN_sB, mK_sB, mL_sB, mF_sB, mB_sB, mA_sB, mJ_sB, mP_sB, mO_sB, mN_sA, mK_sA, mL_sA, mF_sA, mB_sA, mA_sA, mJ_sA, mP_sA, mO_sA, mN_sJ, mK_sJ, mL_sJ, mF_sJ, mB_sJ, mA_sJ, mJ_sJ, mP_sJ, mO_sJ, mN_sP, mK_sP, mL_sP, mF_sP, mB_sP, mA_sP, mJ_sP, mP_sP, mO_sP, mN_sO, mK_sO, mL_sO, mF_sO, mB_sO, mA_sO, mJ_sO, mP_sO, mO_sO, up2, if_true, if_false, eq_self, ite_true, ite_false, reduceIte, Nat.add_left_cancel_iff, Nat.add_eq_left, Nat.left_eq_add, Nat.reduceEqDiff]; done)) ?_ | refine e_getI 19 rfl dX5_readEnding_16 f_X5_19 (by assumption) ?_
    refine e_iconst (nI 1) 20 rfl dX5_readEnding_19 ic_1 ?_
    first | refine e_iaddN 21 rfl dX5_readEnding_20 rfl rfl ?_ | refine e_iadd 21 rfl dX5_readEnding_20 ?_
    refine e_putI 24 rfl dX5_readEnding_21 f_X5_19 (by assumption) ?_
    refine e_iconst (nI 1) 25 rfl dX5_readEnding_24 ic_1 ?_
    refine e_zret dX5_readEnding_25 rfl (by first | exact z0 | exact z1 | exact bI01 _ | assumption) ?_
    have hF9 : Fr (fun q => q = a) μ0 (sF μ0 a 2 (nI (p0 + 1))) := (Fr.rf (S := fun q => q = a)).sF rfl _ _
    refine kt (p0 + 1) [] (by unfold pEnd; rw [if_pos e45]) _ (hFe.trans (onlya hF9)) (fun f hf => ?_) ?_ ?_ (hX0.step (by omega)) (by omega) ?_
    · rw [(hF9.2.2.2.2.2 s (fun e => d0 e.symm)).1]; exact hf0 f hf
    · simp only [mN_sF, mK_sF, mL_sF, mF_sF, mB_sF, mA_sF, mJ_sF, mP_sF, mO_sF, mN_sB, mK_sB, mL_sB, mF_sB, mB_sB, mA_sB, mJ_sB, mP_sB, mO_sB, mN_sA, mK_sA, mL_sA, mF_sA, mB_sA, mA_sA, mJ_sA, mP_sA, mO_sA, mN_sJ, mK_sJ, mL_sJ, mF_sJ, mB_sJ, mA_sJ, mJ_sJ, mP_sJ, mO_sJ, mN_sP, mK_sP, mL_sP, mF_sP, mB_sP, mA_sP, mJ_sP, mP_sP, mO_sP, mN_sO, mK_sO, mL_sO, mF_sO, mB_sO, mA_sO, mJ_sO, mP_sO, mO_sO, up2, if_true, if_false, eq_self, ite_true, ite_false, reduceIte, Nat.add_left_cancel_iff, Nat.add_eq_left, Nat.left_eq_add, Nat.reduceEqDiff]; exact h30
    · simp only [mN_sF, mK_sF, mL_sF, mF_sF, mB_sF, mA_sF, mJ_sF, mP_sF, mO_sF, mN_sB, mK_sB, mL_sB, mF_sB, mB_sB, mA_sB, mJ_sB, mP_sB, mO_sB, mN_sA, mK_sA, mL_sA, mF_sA, mB_sA, mA_sA, mJ_sA, mP_sA, mO_sA, mN_sJ, mK_sJ, mL_sJ, mF_sJ, mB_sJ, mA_sJ, mJ_sJ, mP_sJ, mO_sJ, mN_sP, mK_sP, mL_sP, mF_sP, mB_sP, mA_sP, mJ_sP, mP_sP, mO_sP, mN_sO, mK_sO, mL_sO, mF_sO, mB_sO, mA_sO, mJ_sO, mP_sO, mO_sO, up2, if_true, if_false, eq_self, ite_true, ite_false, reduceIte, Nat.add_left_cancel_iff, Nat.add_eq_left, Nat.left_eq_add, Nat.reduceEqDiff]; exact h40
    · unfold Se
      rw [(hF9.2.2.2.2.2 s (fun e => d0 e.symm)).1, (hF9.2.2.2.2.2 (s + 8) (fun e => d8 e.symm)).2.1]
      exact hE0
  have hpe : pEnd l p0 = pEn l 6 p0 [] := by unfold pEnd; rw [if_neg (fun q => g1 (q45.mpr q))]
  refine e_iconst (nI 0) 27 rfl dX5_readEnding_26 ic_0 ?_
  refine e_is2 28 rfl dX5_readEnding_27 (by decide) rfl ?_
  have loop : ∀ (fu i : Nat), i + fu = 6 → ∀ (p : Nat) (acc : List Nat), acc.length = i → pEnd l p0 = pEn l fu p acc → ∀ μ', Fr (eS a s) μ μ' → (∀ f, f ≠ 12 → mF μ' s f = mF μ s f) → mF μ' a 3 = mF μ a 3 → mF μ' a 4 = mF μ a 4 → Xt μ' a t l p → p ≤ 401 → Se μ' s acc → Ev E M_X5_readEnding 0 0 28 [some (.ref a), some (.ref s), some (.int (nI i))] [] μ' K := by
    intro fu
    induction fu with
    | zero =>
      intro i hi p acc hacc he μ' hF hf h3 h4 hX' hp hE
      have e6 : i = 6 := by omega
      subst e6
      have ak := hX'.1.1
      have hane : acc ≠ [] := fun q => by rw [q] at hacc; cases hacc
      rw [pEn_eq l 0 p acc] at he
      refine e_il2 29 rfl dX5_readEnding_28 ?_
      refine e_bipush (nI 6) 31 rfl dX5_readEnding_29 bc_6 ?_
      first | refine e_cmp_geN 99 34 (by decide) rfl dX5_readEnding_31 rfl rfl (by omega) (by omega) (fun g2 => ?_) (fun g2 => ?_) | refine e_cmp_ge 99 34 (by decide) rfl dX5_readEnding_31 (fun g2 => ?_) (fun g2 => ?_)
      rotate_left
      · omega
      refine e_al0 100 rfl dX5_readEnding_99 ?_
      refine e_invV0 [] 103 rfl dX5_readEnding_100 k_X5_71 mo_X5_here rm_X5_readEnding_X5_here ⟨rfl, rfl⟩ rfl rfl (by assumption) (Nat.le_of_ble_eq_true rfl) ?_
      refine c_here hX' ?_
      refine e_invSN0 [_] 106 rfl dX5_readEnding_103 k_X5_102 mo_X9_isSmall rm_X5_readEnding_X9_isSmall ⟨rfl, rfl⟩ rfl rfl (Nat.le_of_ble_eq_true rfl) ?_
      refine c_isSmall (smAt l p).isSome (see_sm (fun c hc => hX'.lt p c hc)).symm ?_
      cases hq : smAt l p with
      | none =>
        rw [hq] at he
        first | refine e_if_eqB 117 109 (by decide) rfl dX5_readEnding_106 rfl (fun g3 => ?_) (fun g3 => ?_) | refine e_if_eqN 117 109 (by decide) rfl dX5_readEnding_106 rfl (by omega) (fun g3 => ?_) (fun g3 => ?_) | refine e_if_eq 117 109 (by decide) rfl dX5_readEnding_106 (fun g3 => ?_) (fun g3 => ?_)
        rotate_left
        · cases g3
        refine e_iconst (nI 1) 118 rfl dX5_readEnding_117 ic_1 ?_
        refine e_goto 122 (by decide) dX5_readEnding_118 ?_
        refine e_zret dX5_readEnding_122 rfl (by first | exact z0 | exact z1 | exact bI01 _ | assumption) ?_
        rw [if_pos hane] at he
        exact kt _ _ he μ' hF hf h3 h4 hX' hp hE
      | some c =>
        rw [hq] at he
        first | refine e_if_eqB 117 109 (by decide) rfl dX5_readEnding_106 rfl (fun g3 => ?_) (fun g3 => ?_) | refine e_if_eqN 117 109 (by decide) rfl dX5_readEnding_106 rfl (by omega) (fun g3 => ?_) (fun g3 => ?_) | refine e_if_eq 117 109 (by decide) rfl dX5_readEnding_106 (fun g3 => ?_) (fun g3 => ?_)
        · cases g3
        refine e_al0 110 rfl dX5_readEnding_109 ?_
        refine e_iconst (nI 2) 111 rfl dX5_readEnding_110 ic_2 ?_
        refine e_invV0 [_] 114 rfl dX5_readEnding_111 k_X5_64 mo_X5_stopWith rm_X5_readEnding_X5_stopWith ⟨rfl, rfl⟩ rfl rfl (by assumption) (Nat.le_of_ble_eq_true rfl) ?_
        refine c_stopWith hX' (fun μ2 hF2 hfl hX2 => ?_)
        first | refine e_if_eqB 121 117 (by decide) rfl dX5_readEnding_114 rfl (fun g4 => ?_) (fun g4 => ?_) | refine e_if_eqN 121 117 (by decide) rfl dX5_readEnding_114 rfl (by omega) (fun g4 => ?_) (fun g4 => ?_) | refine e_if_eq 121 117 (by decide) rfl dX5_readEnding_114 (fun g4 => ?_) (fun g4 => ?_)
        rotate_left
        · omega
        refine e_iconst (nI 0) 122 rfl dX5_readEnding_121 ic_0 ?_
        refine e_zret dX5_readEnding_122 rfl (by first | exact z0 | exact z1 | exact bI01 _ | assumption) ?_
        exact kf _ _ he μ2 (hF.trans (onlya hF2)) hfl
    | succ fu ih =>
      intro i hi p acc hacc he μ' hF hf h3 h4 hX' hp hE
      have ak := hX'.1.1
      have a2 := hX'.2.2.1
      have hg' := hg.fr hF
      obtain ⟨⟨gk', g1', g2', g3', g5, g6, g7, g9, g11⟩, k1, l1, k2, l2, k3, l3, k4, l4, k5, l5, k6, l6, k7, l7, k8, l8⟩ := id hg'
      rw [pEn_eq l (fu + 1) p acc] at he
      refine e_il2 29 rfl dX5_readEnding_28 ?_
      refine e_bipush (nI 6) 31 rfl dX5_readEnding_29 bc_6 ?_
      first | refine e_cmp_geN 99 34 (by decide) rfl dX5_readEnding_31 rfl rfl (by omega) (by omega) (fun g2 => ?_) (fun g2 => ?_) | refine e_cmp_ge 99 34 (by decide) rfl dX5_readEnding_31 (fun g2 => ?_) (fun g2 => ?_)
      · omega
      refine e_al0 35 rfl dX5_readEnding_34 ?_
      refine e_invV0 [] 38 rfl dX5_readEnding_35 k_X5_71 mo_X5_here rm_X5_readEnding_X5_here ⟨rfl, rfl⟩ rfl rfl (by assumption) (Nat.le_of_ble_eq_true rfl) ?_
      refine c_here hX' ?_
      refine e_invSN0 [_] 41 rfl dX5_readEnding_38 k_X5_102 mo_X9_isSmall rm_X5_readEnding_X9_isSmall ⟨rfl, rfl⟩ rfl rfl (Nat.le_of_ble_eq_true rfl) ?_
      refine c_isSmall (smAt l p).isSome (see_sm (fun c hc => hX'.lt p c hc)).symm ?_
      cases hq : smAt l p with
      | none =>
        rw [hq] at he
        first | refine e_if_neB 62 44 (by decide) rfl dX5_readEnding_41 rfl (fun g3 => ?_) (fun g3 => ?_) | refine e_if_neN 62 44 (by decide) rfl dX5_readEnding_41 rfl (by omega) (fun g3 => ?_) (fun g3 => ?_) | refine e_if_ne 62 44 (by decide) rfl dX5_readEnding_41 (fun g3 => ?_) (fun g3 => ?_)
        · cases g3
        refine e_il2 45 rfl dX5_readEnding_44 ?_
        first | refine e_if_gtN 56 48 (by decide) rfl dX5_readEnding_45 rfl (by omega) (fun g4 => ?_) (fun g4 => ?_) | refine e_if_gt 56 48 (by decide) rfl dX5_readEnding_45 (fun g4 => ?_) (fun g4 => ?_)
        · -- an end
          refine e_iconst (nI 1) 57 rfl dX5_readEnding_56 ic_1 ?_
          refine e_goto 61 (by decide) dX5_readEnding_57 ?_
          refine e_zret dX5_readEnding_61 rfl (by first | exact z0 | exact z1 | exact bI01 _ | assumption) ?_
          rw [if_pos (fun q => by rw [q] at hacc; simp at hacc; omega)] at he
          exact kt _ _ he μ' hF hf h3 h4 hX' hp hE
        refine e_al0 49 rfl dX5_readEnding_48 ?_
        refine e_iconst (nI 1) 50 rfl dX5_readEnding_49 ic_1 ?_
        refine e_invV0 [_] 53 rfl dX5_readEnding_50 k_X5_64 mo_X5_stopWith rm_X5_readEnding_X5_stopWith ⟨rfl, rfl⟩ rfl rfl (by assumption) (Nat.le_of_ble_eq_true rfl) ?_
        refine c_stopWith hX' (fun μ2 hF2 hfl hX2 => ?_)
        first | refine e_if_eqB 60 56 (by decide) rfl dX5_readEnding_53 rfl (fun g5 => ?_) (fun g5 => ?_) | refine e_if_eqN 60 56 (by decide) rfl dX5_readEnding_53 rfl (by omega) (fun g5 => ?_) (fun g5 => ?_) | refine e_if_eq 60 56 (by decide) rfl dX5_readEnding_53 (fun g5 => ?_) (fun g5 => ?_)
        rotate_left
        · omega
        refine e_iconst (nI 0) 61 rfl dX5_readEnding_60 ic_0 ?_
        refine e_zret dX5_readEnding_61 rfl (by first | exact z0 | exact z1 | exact bI01 _ | assumption) ?_
        rw [if_neg (fun q => q (List.eq_nil_of_length_eq_zero (by omega)))] at he
        exact kf _ _ he μ2 (hF.trans (onlya hF2)) hfl
      | some c =>
        rw [hq] at he
        obtain ⟨c1, c2, c3, c4⟩ := smAt_some hq
        have hl4 := hX'.2.2.2.2.1
        have e12 := hE.1
        rw [hacc] at e12
        first | refine e_if_neB 62 44 (by decide) rfl dX5_readEnding_41 rfl (fun g3 => ?_) (fun g3 => ?_) | refine e_if_neN 62 44 (by decide) rfl dX5_readEnding_41 rfl (by omega) (fun g3 => ?_) (fun g3 => ?_) | refine e_if_ne 62 44 (by decide) rfl dX5_readEnding_41 (fun g3 => ?_) (fun g3 => ?_)
        rotate_left
        · cases g3
        refine e_al1 63 rfl dX5_readEnding_62 ?_
        refine e_getR 66 rfl dX5_readEnding_63 f_X5_105 (by assumption) (by assumption) ?_
        refine e_il2 67 rfl dX5_readEnding_66 ?_
        refine e_al0 68 rfl dX5_readEnding_67 ?_
        refine e_invV0 [] 71 rfl dX5_readEnding_68 k_X5_71 mo_X5_here rm_X5_readEnding_X5_here ⟨rfl, rfl⟩ rfl rfl (by assumption) (Nat.le_of_ble_eq_true rfl) ?_
        refine c_here hX' ?_
        rw [c1, seeI_some]
        have hc8 : (nI c).toInt8.toInt32.toInt8.toInt32 = nI c := by rw [nI_b8 c (by omega), nI_b8 c (by omega)]
        have hlen : (acc ++ [c]).length = i + 1 := by simp [hacc]
        have a2' : mF (sF (sB μ' (s + 8) i (nI c).toInt8.toInt32.toInt8.toInt32) s 12 (nI (i + 1))) a 2 = nI p := by show up2 _ s 12 _ a 2 = _; rw [up2_a d0]; exact a2
        refine e_i2b 72 rfl dX5_readEnding_71 ?_
        first | refine e_bast 73 rfl dX5_readEnding_72 (by assumption) (by assumption) (by first | rfl | simp only [pk_mul, nI_add]) (by omega) (by omega) ?_ | refine e_zast 73 rfl dX5_readEnding_72 (by assumption) (by assumption) (by first | rfl | simp only [pk_mul, nI_add]) (by omega) (by omega) (by first | exact z0 | exact z1 | exact bI01 _ | assumption) ?_
        refine e_al1 74 rfl dX5_readEnding_73 ?_
        refine e_dup 75 rfl dX5_readEnding_74 rfl ?_
        first | refine e_getIv 78 rfl dX5_readEnding_75 f_X5_99 (by assumption) (by first | assumption | (simp only [mN_sF, mK_sF, mL_sF, mF_sF, mB_sF, mA_sF, mJ_sF, mP_sF, mO_sF, mN_sB, mK_sB, mL_sB, mF_sB, mB_sB, mA_sB, mJ_sB, mP_sB, mO_sB, mN_sA, mK_sA, mL_sA, mF_sA, mB_sA, mA_sA, mJ_sA, mP_sA, mO_sA, mN_sJ, mK_sJ, mL_sJ, mF_sJ, mB_sJ, mA_sJ, mJ_sJ, mP_sJ, mO_sJ, mN_sP, mK_sP, mL_sP, mF_sP, mB_sP, mA_sP, mJ_sP, mP_sP, mO_sP, mN_sO, mK_sO, mL_sO, mF_sO, mB_sO, mA_sO, mJ_sO, mP_sO, mO_sO, up2, if_true, if_false, eq_self, ite_true, ite_false, reduceIte, Nat.add_left_cancel_iff, Nat.add_eq_left, Nat.left_eq_add, Nat.reduceEqDiff]; assumption) | (simp only [mN_sF, mK_sF, mL_sF, mF_sF, mB_sF, mA_sF, mJ_sF, mP_sF, mO_sF, mN_sB, mK_sB, mL_sB, mF_sB, mB_sB, mA_sB, mJ_sB, mP_sB, mO_sB, mN_sA, mK_sA, mL_sA, mF_sA, mB_sA, mA_sA, mJ_sA, mP_sA, mO_sA, mN_sJ, mK_sJ, mL_sJ, mF_sJ, mB_sJ, mA_sJ, mJ_sJ, mP_sJ, mO_sJ, mN_sP, mK_sP, mL_sP, mF_sP, mB_sP, mA_sP, mJ_sP, mP_sP, mO_sP, mN_sO, mK_sO, mL_sO, mF_sO, mB_sO, mA_sO, mJ_sO, mP_sO, mO_sO, up2, if_true, if_false, eq_self, ite_true, ite_false, reduceIte, Nat.add_left_cancel_iff, Nat.add_eq_left, Nat.left_eq_add, Nat.reduceEqDiff]; done)) ?_ | refine e_getI 78 rfl dX5_readEnding_75 f_X5_99 (by assumption) ?_
        refine e_iconst (nI 1) 79 rfl dX5_readEnding_78 ic_1 ?_
        first | refine e_iaddN 80 rfl dX5_readEnding_79 rfl rfl ?_ | refine e_iadd 80 rfl dX5_readEnding_79 ?_
        refine e_putI 83 rfl dX5_readEnding_80 f_X5_99 (by assumption) ?_
        refine e_al0 84 rfl dX5_readEnding_83 ?_
        refine e_dup 85 rfl dX5_readEnding_84 rfl ?_
        first | refine e_getIv 88 rfl dX5_readEnding_85 f_X5_19 (by assumption) (by first | assumption | (simp only [mN_sF, mK_sF, mL_sF, mF_sF, mB_sF, mA_sF, mJ_sF, mP_sF, mO_sF, mN_sB, mK_sB, mL_sB, mF_sB, mB_sB, mA_sB, mJ_sB, mP_sB, mO_sB, mN_sA, mK_sA, mL_sA, mF_sA, mB_sA, mA_sA, mJ_sA, mP_sA, mO_sA, mN_sJ, mK_sJ, mL_sJ, mF_sJ, mB_sJ, mA_sJ, mJ_sJ, mP_sJ, mO_sJ, mN_sP, mK_sP, mL_sP, mF_sP, mB_sP, mA_sP, mJ_sP, mP_sP, mO_sP, mN_sO, mK_sO, mL_sO, mF_sO, mB_sO, mA_sO, mJ_sO, mP_sO, mO_sO, up2, if_true, if_false, eq_self, ite_true, ite_false, reduceIte, Nat.add_left_cancel_iff, Nat.add_eq_left, Nat.left_eq_add, Nat.reduceEqDiff]; assumption) | (simp only [mN_sF, mK_sF, mL_sF, mF_sF, mB_sF, mA_sF, mJ_sF, mP_sF, mO_sF, mN_sB, mK_sB, mL_sB, mF_sB, mB_sB, mA_sB, mJ_sB, mP_sB, mO_sB, mN_sA, mK_sA, mL_sA, mF_sA, mB_sA, mA_sA, mJ_sA, mP_sA, mO_sA, mN_sJ, mK_sJ, mL_sJ, mF_sJ, mB_sJ, mA_sJ, mJ_sJ, mP_sJ, mO_sJ, mN_sP, mK_sP, mL_sP, mF_sP, mB_sP, mA_sP, mJ_sP, mP_sP, mO_sP, mN_sO, mK_sO, mL_sO, mF_sO, mB_sO, mA_sO, mJ_sO, mP_sO, mO_sO, up2, if_true, if_false, eq_self, ite_true, ite_false, reduceIte, Nat.add_left_cancel_iff, Nat.add_eq_left, Nat.left_eq_add, Nat.reduceEqDiff]; done)) ?_ | refine e_getI 88 rfl dX5_readEnding_85 f_X5_19 (by assumption) ?_
        refine e_iconst (nI 1) 89 rfl dX5_readEnding_88 ic_1 ?_
        first | refine e_iaddN 90 rfl dX5_readEnding_89 rfl rfl ?_ | refine e_iadd 90 rfl dX5_readEnding_89 ?_
        refine e_putI 93 rfl dX5_readEnding_90 f_X5_19 (by assumption) ?_
        refine e_ii2 (nI (_ + 1)) 96 rfl dX5_readEnding_93 (ii1 _) rfl ?_
        refine e_goto 28 (by decide) dX5_readEnding_96 ?_
        have hFs : Fr (fun q => q = s ∨ q = s + 8) μ' (sF (sB μ' (s + 8) i (nI c).toInt8.toInt32.toInt8.toInt32) s 12 (nI (i + 1))) := ((Fr.rf (S := fun q => q = s ∨ q = s + 8)).sB (Or.inr rfl) _ _).sF (Or.inl rfl) _ _
        have hXs := hX'.fr hFs (by omega) (by omega)
        have hF9 : Fr (fun q => q = a) (sF (sB μ' (s + 8) i (nI c).toInt8.toInt32.toInt8.toInt32) s 12 (nI (i + 1))) (sF (sF (sB μ' (s + 8) i (nI c).toInt8.toInt32.toInt8.toInt32) s 12 (nI (i + 1))) a 2 (nI (p + 1))) := (Fr.rf (S := fun q => q = a)).sF rfl _ _
        refine ih (i + 1) (by omega) (p + 1) (acc ++ [c]) hlen he _ (((hF.sB S8 _ _).sF S0 _ _).sF Sa _ _) (fun f hf' => ?_) ?_ ?_ (hXs.step (by omega)) (by omega) ⟨?_, by omega, ?_, fun d hd => ?_⟩
        · rw [(hF9.2.2.2.2.2 s (fun e => d0 e.symm)).1]
          show up2 _ s 12 _ s f = _
          rw [up2_k hf']; exact hf f hf'
        · simp only [mN_sF, mK_sF, mL_sF, mF_sF, mB_sF, mA_sF, mJ_sF, mP_sF, mO_sF, mN_sB, mK_sB, mL_sB, mF_sB, mB_sB, mA_sB, mJ_sB, mP_sB, mO_sB, mN_sA, mK_sA, mL_sA, mF_sA, mB_sA, mA_sA, mJ_sA, mP_sA, mO_sA, mN_sJ, mK_sJ, mL_sJ, mF_sJ, mB_sJ, mA_sJ, mJ_sJ, mP_sJ, mO_sJ, mN_sP, mK_sP, mL_sP, mF_sP, mB_sP, mA_sP, mJ_sP, mP_sP, mO_sP, mN_sO, mK_sO, mL_sO, mF_sO, mB_sO, mA_sO, mJ_sO, mP_sO, mO_sO, up2, if_true, if_false, eq_self, ite_true, ite_false, reduceIte, Nat.add_left_cancel_iff, Nat.add_eq_left, Nat.left_eq_add, Nat.reduceEqDiff]; rw [if_neg d0]; exact h3
        · simp only [mN_sF, mK_sF, mL_sF, mF_sF, mB_sF, mA_sF, mJ_sF, mP_sF, mO_sF, mN_sB, mK_sB, mL_sB, mF_sB, mB_sB, mA_sB, mJ_sB, mP_sB, mO_sB, mN_sA, mK_sA, mL_sA, mF_sA, mB_sA, mA_sA, mJ_sA, mP_sA, mO_sA, mN_sJ, mK_sJ, mL_sJ, mF_sJ, mB_sJ, mA_sJ, mJ_sJ, mP_sJ, mO_sJ, mN_sP, mK_sP, mL_sP, mF_sP, mB_sP, mA_sP, mJ_sP, mP_sP, mO_sP, mN_sO, mK_sO, mL_sO, mF_sO, mB_sO, mA_sO, mJ_sO, mP_sO, mO_sO, up2, if_true, if_false, eq_self, ite_true, ite_false, reduceIte, Nat.add_left_cancel_iff, Nat.add_eq_left, Nat.left_eq_add, Nat.reduceEqDiff]; rw [if_neg d0]; exact h4
        · rw [(hF9.2.2.2.2.2 s (fun e => d0 e.symm)).1, hlen]
          show up2 _ s 12 _ s 12 = _
          rw [up2_s]
        · rw [(hF9.2.2.2.2.2 (s + 8) (fun e => d8 e.symm)).2.1]
          refine hE.2.2.1.push (fun j hj => ?_) ?_
          · show up2 _ (s + 8) _ _ (s + 8) j = _
            rw [up2_k (by omega)]
          · show up2 _ (s + 8) _ _ (s + 8) _ = _
            rw [hacc, up2_s]; exact hc8
        · rcases List.mem_append.mp hd with q | q
          · exact hE.2.2.2 d q
          · simp at q; omega
  exact loop 6 0 (by omega) p0 [] rfl hpe μ0 hFe hf0 h30 h40 hX0 hp0 hE0
end LETTERS
