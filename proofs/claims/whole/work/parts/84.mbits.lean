/-! NameDeskModel: places in a shape -/
section MBITS
variable {E : En} {μ : Mm} {K : Option Value → Mm → Prop}
/-- the rows of a land's slots -/
def mSl (μ : Mm) (m l : Nat) (sl : List Slot0) : Prop := mA μ (m + 7) l = nI sl.length ∧ ∀ i s, sl[i]? = some s → mA μ (m + 8) (8 * l + i) = nI s.1 ∧ mA μ (m + 9) (8 * l + i) = nI s.2
theorem bit1' (v s : Nat) : (v >>> s) &&& 1 = 1 ↔ v.testBit s = true := by
  have h := bit1 v s
  have h2 : (v >>> s) &&& 1 < 2 := by rw [Nat.and_one_is_mod]; exact Nat.mod_lt _ (by decide)
  cases e : v.testBit s with
  | true => rw [e] at h; simp at h; simp; omega
  | false => rw [e] at h; simp at h; simp; omega
def skT (sl : List Slot0) (i j : Nat) : Prop := ∀ t, i ≤ t → t < j → ∀ x, sl[t]? = some x → skp x.2 = true
/-- what can be reached with no word -/
def Slp (sl : List Slot0) (b n j : Nat) : Prop := b.testBit j = true ∨ ∃ i, i < j ∧ j ≤ n ∧ b.testBit i = true ∧ skT sl i j
theorem c_slips {m l b : Nat} {sl : List Slot0} (hg : Mg μ m) (hl : l < 6) (hs : mSl μ m l sl) (h8 : sl.length ≤ 8) (hw : ∀ s ∈ sl, s.1 < 7 ∧ s.2 < 4) (hb : b < 2 ^ 18) (k : ∀ v, v < 2 ^ 18 → (∀ j, v.testBit j = true ↔ Slp sl b sl.length j) → K (some (.int (nI v))) μ) : Cl E M_X10_slips [.ref m, .int (nI l), .int (nI b)] μ K := by
  have mk := hg.1
  obtain ⟨ps, ks, ls⟩ := hg.slots
  obtain ⟨ph, kh, lh⟩ := hg.slotHow
  have n0 := hs.1
  have loop : ∀ (fu s v : Nat), s + fu = sl.length → v < 2 ^ 18 → (∀ j, v.testBit j = true ↔ Slp sl b s j) → ∀ l5, Ev E M_X10_slips 0 0 5 [some (.ref m), some (.int (nI l)), some (.int (nI b)), some (.int (nI v)), some (.int (nI s)), l5] [] μ K := by
    intro fu
    induction fu with
    | zero =>
      intro s v hsf hv hbit l5
      refine e_il4 7 rfl dX10_slips_5 ?_
      refine e_al0 8 rfl dX10_slips_7 ?_
      refine e_getR 11 rfl dX10_slips_8 f_X10_29 (by assumption) (by assumption) ?_
      refine e_il1 12 rfl dX10_slips_11 ?_
      first | refine e_ialdv 13 rfl dX10_slips_12 (by assumption) (by assumption) (by first | rfl | simp only [pk_mul, nI_add]) (by omega) (by omega) (by first | assumption | (simp only [mN_sF, mK_sF, mL_sF, mF_sF, mB_sF, mA_sF, mJ_sF, mP_sF, mO_sF, mN_sB, mK_sB, mL_sB, mF_sB, mB_sB, mA_sB, mJ_sB, mP_sB, mO_sB, mN_sA, mK_sA, mL_sA, mF_sA, mB_sA, mA_sA, mJ_sA, mP_sA, mO_sA, mN_sJ, mK_sJ, mL_sJ, mF_sJ, mB_sJ, mA_sJ, mJ_sJ, mP_sJ, mO_sJ, mN_sP, mK_sP, mL_sP, mF_sP, mB_sP, mA_sP, mJ_sP, mP_sP, mO_sP, mN_sO, mK_sO, mL_sO, mF_sO, mB_sO, mA_sO, mJ_sO, mP_sO, mO_sO, up2, if_true, if_false, eq_self, ite_true, ite_false, reduceIte, Nat.add_left_cancel_iff, Nat.add_eq_left, Nat.left_eq_add, Nat.reduceEqDiff]; assumption) | (simp only [mN_sF, mK_sF, mL_sF, mF_sF, mB_sF, mA_sF, mJ_sF, mP_sF, mO_sF, mN_sB, mK_sB, mL_sB, mF_sB, mB_sB, mA_sB, mJ_sB, mP_sB, mO_sB, mN_sA, mK_sA, mL_sA, mF_sA, mB_sA, mA_sA, mJ_sA, mP_sA, mO_sA, mN_sJ, mK_sJ, mL_sJ, mF_sJ, mB_sJ, mA_sJ, mJ_sJ, mP_sJ, mO_sJ, mN_sP, mK_sP, mL_sP, mF_sP, mB_sP, mA_sP, mJ_sP, mP_sP, mO_sP, mN_sO, mK_sO, mL_sO, mF_sO, mB_sO, mA_sO, mJ_sO, mP_sO, mO_sO, up2, if_true, if_false, eq_self, ite_true, ite_false, reduceIte, Nat.add_left_cancel_iff, Nat.add_eq_left, Nat.left_eq_add, Nat.reduceEqDiff]; done)) ?_ | refine e_iald 13 rfl dX10_slips_12 (by assumption) (by assumption) (by first | rfl | simp only [pk_mul, nI_add]) (by omega) (by omega) ?_
      first | refine e_cmp_geN 67 16 (by decide) rfl dX10_slips_13 rfl rfl (by omega) (by omega) (fun y1 => ?_) (fun y1 => ?_) | refine e_cmp_ge 67 16 (by decide) rfl dX10_slips_13 (fun y1 => ?_) (fun y1 => ?_)
      rotate_left
      · omega
      refine e_il3 68 rfl dX10_slips_67 ?_
      refine e_iret dX10_slips_68 rfl ?_
      exact k v hv (by rw [show sl.length = s by omega]; exact hbit)
    | succ fu ih =>
      intro s v hsf hv hbit l5
      have hsl : s < sl.length := by omega
      obtain ⟨x, hx⟩ : ∃ x, sl[s]? = some x := ⟨_, List.getElem?_eq_getElem hsl⟩
      have vh := (hs.2 s x hx).2
      have hx4 := (hw x (List.mem_of_getElem? hx)).2
      have hv31 : v < 2 ^ 31 := Nat.lt_trans hv (by decide)
      have skip : (v.testBit s = false ∨ skp x.2 = false) → ∀ l5, Ev E M_X10_slips 0 0 61 [some (.ref m), some (.int (nI l)), some (.int (nI b)), some (.int (nI v)), some (.int (nI s)), l5] [] μ K := by
        intro hor l5
        refine e_ii4 (nI (_ + 1)) 64 rfl dX10_slips_61 (ii1 _) rfl ?_
        refine e_goto 5 (by decide) dX10_slips_64 ?_
        refine ih (s + 1) v (by omega) hv (fun j => ?_) _
        rw [hbit j]
        constructor
        · rintro (h | ⟨i, h1, h2, h3, h4⟩)
          · exact Or.inl h
          · exact Or.inr ⟨i, h1, by omega, h3, h4⟩
        · rintro (h | ⟨i, h1, h2, h3, h4⟩)
          · exact Or.inl h
          · rcases Nat.lt_or_ge s j with c | c
            · exfalso
              have ej : j = s + 1 := by omega
              subst ej
              rcases hor with h | h
              · have : v.testBit s = true := (hbit s).mpr (by
                  by_cases ei : i = s
                  · exact Or.inl (ei ▸ h3)
                  · exact Or.inr ⟨i, by omega, Nat.le_refl _, h3, fun t t1 t2 => h4 t t1 (by omega)⟩)
                rw [h] at this
                cases this
              · have := h4 s (by omega) (by omega) x hx
                rw [h] at this
                cases this
            · exact Or.inr ⟨i, h1, c, h3, h4⟩
      have take : v.testBit s = true → skp x.2 = true → ∀ l5, Ev E M_X10_slips 0 0 52 [some (.ref m), some (.int (nI l)), some (.int (nI b)), some (.int (nI v)), some (.int (nI s)), l5] [] μ K := by
        intro h1 h2 l5
        refine e_il3 53 rfl dX10_slips_52 ?_
        refine e_iconst (nI 1) 54 rfl dX10_slips_53 ic_1 ?_
        refine e_il4 56 rfl dX10_slips_54 ?_
        refine e_iconst (nI 1) 57 rfl dX10_slips_56 ic_1 ?_
        first | refine e_iaddN 58 rfl dX10_slips_57 rfl rfl ?_ | refine e_iadd 58 rfl dX10_slips_57 ?_
        refine e_ishl1 59 rfl dX10_slips_58 rfl rfl (by omega) ?_
        refine e_iorN 60 rfl dX10_slips_59 rfl rfl ?_
        refine e_is3 61 rfl dX10_slips_60 (by decide) rfl ?_
        refine e_ii4 (nI (_ + 1)) 64 rfl dX10_slips_61 (ii1 _) rfl ?_
        refine e_goto 5 (by decide) dX10_slips_64 ?_
        refine ih (s + 1) _ (by omega) (or_lt hv (pow_lt (by omega))) (fun j => ?_) _
        rw [tb_or, tb_pow, hbit j]
        constructor
        · rintro ((h | ⟨i, a1, a2, a3, a4⟩) | h)
          · exact Or.inl h
          · exact Or.inr ⟨i, a1, by omega, a3, a4⟩
          · rcases (hbit s).mp h1 with c | ⟨i, c1, c2, c3, c4⟩
            · exact Or.inr ⟨s, by omega, by omega, c, fun t t1 t2 z hz => by rw [show t = s by omega, hx] at hz; rw [← Option.some.inj hz]; exact h2⟩
            · refine Or.inr ⟨i, by omega, by omega, c3, fun t t1 t2 z hz => ?_⟩
              by_cases et : t = s
              · rw [et, hx] at hz; rw [← Option.some.inj hz]; exact h2
              · exact c4 t t1 (by omega) z hz
        · rintro (h | ⟨i, a1, a2, a3, a4⟩)
          · exact Or.inl (Or.inl h)
          · rcases Nat.lt_or_ge s j with c | c
            · exact Or.inr (by omega)
            · exact Or.inl (Or.inr ⟨i, a1, c, a3, a4⟩)
      refine e_il4 7 rfl dX10_slips_5 ?_
      refine e_al0 8 rfl dX10_slips_7 ?_
      refine e_getR 11 rfl dX10_slips_8 f_X10_29 (by assumption) (by assumption) ?_
      refine e_il1 12 rfl dX10_slips_11 ?_
      first | refine e_ialdv 13 rfl dX10_slips_12 (by assumption) (by assumption) (by first | rfl | simp only [pk_mul, nI_add]) (by omega) (by omega) (by first | assumption | (simp only [mN_sF, mK_sF, mL_sF, mF_sF, mB_sF, mA_sF, mJ_sF, mP_sF, mO_sF, mN_sB, mK_sB, mL_sB, mF_sB, mB_sB, mA_sB, mJ_sB, mP_sB, mO_sB, mN_sA, mK_sA, mL_sA, mF_sA, mB_sA, mA_sA, mJ_sA, mP_sA, mO_sA, mN_sJ, mK_sJ, mL_sJ, mF_sJ, mB_sJ, mA_sJ, mJ_sJ, mP_sJ, mO_sJ, mN_sP, mK_sP, mL_sP, mF_sP, mB_sP, mA_sP, mJ_sP, mP_sP, mO_sP, mN_sO, mK_sO, mL_sO, mF_sO, mB_sO, mA_sO, mJ_sO, mP_sO, mO_sO, up2, if_true, if_false, eq_self, ite_true, ite_false, reduceIte, Nat.add_left_cancel_iff, Nat.add_eq_left, Nat.left_eq_add, Nat.reduceEqDiff]; assumption) | (simp only [mN_sF, mK_sF, mL_sF, mF_sF, mB_sF, mA_sF, mJ_sF, mP_sF, mO_sF, mN_sB, mK_sB, mL_sB, mF_sB, mB_sB, mA_sB, mJ_sB, mP_sB, mO_sB, mN_sA, mK_sA, mL_sA, mF_sA, mB_sA, mA_sA, mJ_sA, mP_sA, mO_sA, mN_sJ, mK_sJ, mL_sJ, mF_sJ, mB_sJ, mA_sJ, mJ_sJ, mP_sJ, mO_sJ, mN_sP, mK_sP, mL_sP, mF_sP, mB_sP, mA_sP, mJ_sP, mP_sP, mO_sP, mN_sO, mK_sO, mL_sO, mF_sO, mB_sO, mA_sO, mJ_sO, mP_sO, mO_sO, up2, if_true, if_false, eq_self, ite_true, ite_false, reduceIte, Nat.add_left_cancel_iff, Nat.add_eq_left, Nat.left_eq_add, Nat.reduceEqDiff]; done)) ?_ | refine e_iald 13 rfl dX10_slips_12 (by assumption) (by assumption) (by first | rfl | simp only [pk_mul, nI_add]) (by omega) (by omega) ?_
      first | refine e_cmp_geN 67 16 (by decide) rfl dX10_slips_13 rfl rfl (by omega) (by omega) (fun y1 => ?_) (fun y1 => ?_) | refine e_cmp_ge 67 16 (by decide) rfl dX10_slips_13 (fun y1 => ?_) (fun y1 => ?_)
      · omega
      refine e_al0 17 rfl dX10_slips_16 ?_
      refine e_getR 20 rfl dX10_slips_17 f_X10_35 (by assumption) (by assumption) ?_
      refine e_bipush (nI 8) 22 rfl dX10_slips_20 bc_8 ?_
      refine e_il1 23 rfl dX10_slips_22 ?_
      first | refine e_imulN 24 rfl dX10_slips_23 rfl rfl ?_ | refine e_imul 24 rfl dX10_slips_23 ?_
      refine e_il4 26 rfl dX10_slips_24 ?_
      first | refine e_iaddN 27 rfl dX10_slips_26 rfl rfl ?_ | refine e_iadd 27 rfl dX10_slips_26 ?_
      first | refine e_ialdv 28 rfl dX10_slips_27 (by assumption) (by assumption) (by first | rfl | simp only [pk_mul, nI_add]) (by omega) (by omega) (by first | assumption | (simp only [mN_sF, mK_sF, mL_sF, mF_sF, mB_sF, mA_sF, mJ_sF, mP_sF, mO_sF, mN_sB, mK_sB, mL_sB, mF_sB, mB_sB, mA_sB, mJ_sB, mP_sB, mO_sB, mN_sA, mK_sA, mL_sA, mF_sA, mB_sA, mA_sA, mJ_sA, mP_sA, mO_sA, mN_sJ, mK_sJ, mL_sJ, mF_sJ, mB_sJ, mA_sJ, mJ_sJ, mP_sJ, mO_sJ, mN_sP, mK_sP, mL_sP, mF_sP, mB_sP, mA_sP, mJ_sP, mP_sP, mO_sP, mN_sO, mK_sO, mL_sO, mF_sO, mB_sO, mA_sO, mJ_sO, mP_sO, mO_sO, up2, if_true, if_false, eq_self, ite_true, ite_false, reduceIte, Nat.add_left_cancel_iff, Nat.add_eq_left, Nat.left_eq_add, Nat.reduceEqDiff]; assumption) | (simp only [mN_sF, mK_sF, mL_sF, mF_sF, mB_sF, mA_sF, mJ_sF, mP_sF, mO_sF, mN_sB, mK_sB, mL_sB, mF_sB, mB_sB, mA_sB, mJ_sB, mP_sB, mO_sB, mN_sA, mK_sA, mL_sA, mF_sA, mB_sA, mA_sA, mJ_sA, mP_sA, mO_sA, mN_sJ, mK_sJ, mL_sJ, mF_sJ, mB_sJ, mA_sJ, mJ_sJ, mP_sJ, mO_sJ, mN_sP, mK_sP, mL_sP, mF_sP, mB_sP, mA_sP, mJ_sP, mP_sP, mO_sP, mN_sO, mK_sO, mL_sO, mF_sO, mB_sO, mA_sO, mJ_sO, mP_sO, mO_sO, up2, if_true, if_false, eq_self, ite_true, ite_false, reduceIte, Nat.add_left_cancel_iff, Nat.add_eq_left, Nat.left_eq_add, Nat.reduceEqDiff]; done)) ?_ | refine e_iald 28 rfl dX10_slips_27 (by assumption) (by assumption) (by first | rfl | simp only [pk_mul, nI_add]) (by omega) (by omega) ?_
      refine e_is5 30 rfl dX10_slips_28 (by decide) rfl ?_
      refine e_il3 31 rfl dX10_slips_30 ?_
      refine e_il4 33 rfl dX10_slips_31 ?_
      refine e_ishrN 34 rfl dX10_slips_33 rfl rfl hv31 (by omega) ?_
      refine e_iconst (nI 1) 35 rfl dX10_slips_34 ic_1 ?_
      refine e_iandN 36 rfl dX10_slips_35 rfl rfl ?_
      refine e_iconst (nI 1) 37 rfl dX10_slips_36 ic_1 ?_
      refine e_cmp_neN 61 40 (by decide) rfl dX10_slips_37 rfl rfl (Nat.lt_of_le_of_lt Nat.and_le_right (by decide)) (by decide) (fun y2 => ?_) (fun y2 => ?_)
      · exact skip (Or.inl (by cases e : v.testBit s with | false => rfl | true => exact absurd ((bit1' v s).mpr e) y2)) _
      have hbs := (bit1' v s).mp y2
      refine e_il5 42 rfl dX10_slips_40 ?_
      refine e_iconst (nI 1) 43 rfl dX10_slips_42 ic_1 ?_
      first | refine e_cmp_eqN 52 46 (by decide) rfl dX10_slips_43 rfl rfl (by omega) (by omega) (fun y3 => ?_) (fun y3 => ?_) | refine e_cmp_eq 52 46 (by decide) rfl dX10_slips_43 (fun y3 => ?_) (fun y3 => ?_)
      · exact take hbs (by rw [y3]; rfl) _
      refine e_il5 48 rfl dX10_slips_46 ?_
      refine e_iconst (nI 2) 49 rfl dX10_slips_48 ic_2 ?_
      first | refine e_cmp_neN 61 52 (by decide) rfl dX10_slips_49 rfl rfl (by omega) (by omega) (fun y4 => ?_) (fun y4 => ?_) | refine e_cmp_ne 61 52 (by decide) rfl dX10_slips_49 (fun y4 => ?_) (fun y4 => ?_)
      · exact skip (Or.inr (by rcases (show x.2 = 0 ∨ x.2 = 3 by omega) with e | e <;> rw [e] <;> rfl)) _
      · exact take hbs (by rw [y4]; rfl) _
  refine Cl.of0 3 pn_X10 (Nat.le_of_ble_eq_true rfl) ⟨rfl, rfl⟩ rfl ?_
  refine e_il2 1 rfl dX10_slips_0 ?_
  refine e_is3 2 rfl dX10_slips_1 (by decide) rfl ?_
  refine e_iconst (nI 0) 3 rfl dX10_slips_2 ic_0 ?_
  refine e_is4 5 rfl dX10_slips_3 (by decide) rfl ?_
  refine loop sl.length 0 b (by omega) hb (fun j => ?_) _
  constructor
  · intro h; exact Or.inl h
  · rintro (h | ⟨i, h1, h2, _⟩)
    · exact h
    · omega
/-- where a word of this kind leads -/
def Gos (sl : List Slot0) (b kd n1 n2 j : Nat) : Prop := (∃ s x, s < n1 ∧ sl[s]? = some x ∧ b.testBit s = true ∧ x.1 = kd ∧ (j = s + 1 ∨ (x.2 = 2 ∧ j = s) ∨ (x.2 = 3 ∧ j = s + 9))) ∨ (∃ s x, s < n2 ∧ sl[s]? = some x ∧ b.testBit (s + 9) = true ∧ x.1 = kd ∧ (j = s + 9 ∨ j = s + 1))
theorem c_goes {m l b kd : Nat} {sl : List Slot0} (hg : Mg μ m) (hl : l < 6) (hs : mSl μ m l sl) (h8 : sl.length ≤ 8) (hw : ∀ s ∈ sl, s.1 < 7 ∧ s.2 < 4) (hb : b < 2 ^ 18) (hkd : kd < 7) (k : ∀ v, v < 2 ^ 18 → (∀ j, v.testBit j = true ↔ Gos sl b kd sl.length sl.length j) → K (some (.int (nI v))) μ) : Cl E M_X10_goes [.ref m, .int (nI l), .int (nI b), .int (nI kd)] μ K := by
  have mk := hg.1
  obtain ⟨ps, ks, ls⟩ := hg.slots
  obtain ⟨ph, kh, lh⟩ := hg.slotHow
  obtain ⟨pk, kk, lk⟩ := hg.slotKind
  have n0 := hs.1
  have hb31 : b < 2 ^ 31 := Nat.lt_trans hb (by decide)
  have loop2 : ∀ (fu s v : Nat), s + fu = sl.length → v < 2 ^ 18 → (∀ j, v.testBit j = true ↔ Gos sl b kd sl.length s j) → ∀ l6, Ev E M_X10_goes 0 0 112 [some (.ref m), some (.int (nI l)), some (.int (nI b)), some (.int (nI kd)), some (.int (nI v)), some (.int (nI s)), l6] [] μ K := by
    intro fu
    induction fu with
    | zero =>
      intro s v hsf hv hbit l6
      refine e_il5 114 rfl dX10_goes_112 ?_
      refine e_al0 115 rfl dX10_goes_114 ?_
      refine e_getR 118 rfl dX10_goes_115 f_X10_29 (by assumption) (by assumption) ?_
      refine e_il1 119 rfl dX10_goes_118 ?_
      first | refine e_ialdv 120 rfl dX10_goes_119 (by assumption) (by assumption) (by first | rfl | simp only [pk_mul, nI_add]) (by omega) (by omega) (by first | assumption | (simp only [mN_sF, mK_sF, mL_sF, mF_sF, mB_sF, mA_sF, mJ_sF, mP_sF, mO_sF, mN_sB, mK_sB, mL_sB, mF_sB, mB_sB, mA_sB, mJ_sB, mP_sB, mO_sB, mN_sA, mK_sA, mL_sA, mF_sA, mB_sA, mA_sA, mJ_sA, mP_sA, mO_sA, mN_sJ, mK_sJ, mL_sJ, mF_sJ, mB_sJ, mA_sJ, mJ_sJ, mP_sJ, mO_sJ, mN_sP, mK_sP, mL_sP, mF_sP, mB_sP, mA_sP, mJ_sP, mP_sP, mO_sP, mN_sO, mK_sO, mL_sO, mF_sO, mB_sO, mA_sO, mJ_sO, mP_sO, mO_sO, up2, if_true, if_false, eq_self, ite_true, ite_false, reduceIte, Nat.add_left_cancel_iff, Nat.add_eq_left, Nat.left_eq_add, Nat.reduceEqDiff]; assumption) | (simp only [mN_sF, mK_sF, mL_sF, mF_sF, mB_sF, mA_sF, mJ_sF, mP_sF, mO_sF, mN_sB, mK_sB, mL_sB, mF_sB, mB_sB, mA_sB, mJ_sB, mP_sB, mO_sB, mN_sA, mK_sA, mL_sA, mF_sA, mB_sA, mA_sA, mJ_sA, mP_sA, mO_sA, mN_sJ, mK_sJ, mL_sJ, mF_sJ, mB_sJ, mA_sJ, mJ_sJ, mP_sJ, mO_sJ, mN_sP, mK_sP, mL_sP, mF_sP, mB_sP, mA_sP, mJ_sP, mP_sP, mO_sP, mN_sO, mK_sO, mL_sO, mF_sO, mB_sO, mA_sO, mJ_sO, mP_sO, mO_sO, up2, if_true, if_false, eq_self, ite_true, ite_false, reduceIte, Nat.add_left_cancel_iff, Nat.add_eq_left, Nat.left_eq_add, Nat.reduceEqDiff]; done)) ?_ | refine e_iald 120 rfl dX10_goes_119 (by assumption) (by assumption) (by first | rfl | simp only [pk_mul, nI_add]) (by omega) (by omega) ?_
      first | refine e_cmp_geN 177 123 (by decide) rfl dX10_goes_120 rfl rfl (by omega) (by omega) (fun y1 => ?_) (fun y1 => ?_) | refine e_cmp_ge 177 123 (by decide) rfl dX10_goes_120 (fun y1 => ?_) (fun y1 => ?_)
      rotate_left
      · omega
      refine e_il4 179 rfl dX10_goes_177 ?_
      refine e_iret dX10_goes_179 rfl ?_
      exact k v hv (by rw [show s = sl.length by omega] at hbit; exact hbit)
    | succ fu ih =>
      intro s v hsf hv hbit l6
      have hsl : s < sl.length := by omega
      obtain ⟨x, hx⟩ : ∃ x, sl[s]? = some x := ⟨_, List.getElem?_eq_getElem hsl⟩
      have vk := (hs.2 s x hx).1
      have hx7 := (hw x (List.mem_of_getElem? hx)).1
      have skip : ¬ (b.testBit (s + 9) = true ∧ x.1 = kd) → Ev E M_X10_goes 0 0 171 [some (.ref m), some (.int (nI l)), some (.int (nI b)), some (.int (nI kd)), some (.int (nI v)), some (.int (nI s)), l6] [] μ K := by
        intro hn
        refine e_ii5 (nI (_ + 1)) 174 rfl dX10_goes_171 (ii1 _) rfl ?_
        refine e_goto 112 (by decide) dX10_goes_174 ?_
        refine ih (s + 1) v (by omega) hv (fun j => ?_) _
        rw [hbit j]
        constructor
        · rintro (h | ⟨t, z, a1, a2, a3, a4, a5⟩)
          · exact Or.inl h
          · exact Or.inr ⟨t, z, by omega, a2, a3, a4, a5⟩
        · rintro (h | ⟨t, z, a1, a2, a3, a4, a5⟩)
          · exact Or.inl h
          · by_cases c : t = s
            · subst c; rw [hx] at a2; cases a2; exact absurd ⟨a3, a4⟩ hn
            · exact Or.inr ⟨t, z, by omega, a2, a3, a4, a5⟩
      refine e_il5 114 rfl dX10_goes_112 ?_
      refine e_al0 115 rfl dX10_goes_114 ?_
      refine e_getR 118 rfl dX10_goes_115 f_X10_29 (by assumption) (by assumption) ?_
      refine e_il1 119 rfl dX10_goes_118 ?_
      first | refine e_ialdv 120 rfl dX10_goes_119 (by assumption) (by assumption) (by first | rfl | simp only [pk_mul, nI_add]) (by omega) (by omega) (by first | assumption | (simp only [mN_sF, mK_sF, mL_sF, mF_sF, mB_sF, mA_sF, mJ_sF, mP_sF, mO_sF, mN_sB, mK_sB, mL_sB, mF_sB, mB_sB, mA_sB, mJ_sB, mP_sB, mO_sB, mN_sA, mK_sA, mL_sA, mF_sA, mB_sA, mA_sA, mJ_sA, mP_sA, mO_sA, mN_sJ, mK_sJ, mL_sJ, mF_sJ, mB_sJ, mA_sJ, mJ_sJ, mP_sJ, mO_sJ, mN_sP, mK_sP, mL_sP, mF_sP, mB_sP, mA_sP, mJ_sP, mP_sP, mO_sP, mN_sO, mK_sO, mL_sO, mF_sO, mB_sO, mA_sO, mJ_sO, mP_sO, mO_sO, up2, if_true, if_false, eq_self, ite_true, ite_false, reduceIte, Nat.add_left_cancel_iff, Nat.add_eq_left, Nat.left_eq_add, Nat.reduceEqDiff]; assumption) | (simp only [mN_sF, mK_sF, mL_sF, mF_sF, mB_sF, mA_sF, mJ_sF, mP_sF, mO_sF, mN_sB, mK_sB, mL_sB, mF_sB, mB_sB, mA_sB, mJ_sB, mP_sB, mO_sB, mN_sA, mK_sA, mL_sA, mF_sA, mB_sA, mA_sA, mJ_sA, mP_sA, mO_sA, mN_sJ, mK_sJ, mL_sJ, mF_sJ, mB_sJ, mA_sJ, mJ_sJ, mP_sJ, mO_sJ, mN_sP, mK_sP, mL_sP, mF_sP, mB_sP, mA_sP, mJ_sP, mP_sP, mO_sP, mN_sO, mK_sO, mL_sO, mF_sO, mB_sO, mA_sO, mJ_sO, mP_sO, mO_sO, up2, if_true, if_false, eq_self, ite_true, ite_false, reduceIte, Nat.add_left_cancel_iff, Nat.add_eq_left, Nat.left_eq_add, Nat.reduceEqDiff]; done)) ?_ | refine e_iald 120 rfl dX10_goes_119 (by assumption) (by assumption) (by first | rfl | simp only [pk_mul, nI_add]) (by omega) (by omega) ?_
      first | refine e_cmp_geN 177 123 (by decide) rfl dX10_goes_120 rfl rfl (by omega) (by omega) (fun y1 => ?_) (fun y1 => ?_) | refine e_cmp_ge 177 123 (by decide) rfl dX10_goes_120 (fun y1 => ?_) (fun y1 => ?_)
      · omega
      refine e_il2 124 rfl dX10_goes_123 ?_
      refine e_il5 126 rfl dX10_goes_124 ?_
      refine e_bipush (nI 9) 128 rfl dX10_goes_126 bc_9 ?_
      first | refine e_iaddN 129 rfl dX10_goes_128 rfl rfl ?_ | refine e_iadd 129 rfl dX10_goes_128 ?_
      refine e_ishrN 130 rfl dX10_goes_129 rfl rfl hb31 (by omega) ?_
      refine e_iconst (nI 1) 131 rfl dX10_goes_130 ic_1 ?_
      refine e_iandN 132 rfl dX10_goes_131 rfl rfl ?_
      refine e_iconst (nI 1) 133 rfl dX10_goes_132 ic_1 ?_
      refine e_cmp_neN 171 136 (by decide) rfl dX10_goes_133 rfl rfl (Nat.lt_of_le_of_lt Nat.and_le_right (by decide)) (by decide) (fun y2 => ?_) (fun y2 => ?_)
      · exact skip (fun q => y2 ((bit1' b (s + 9)).mpr q.1))
      have hbs := (bit1' b (s + 9)).mp y2
      refine e_al0 137 rfl dX10_goes_136 ?_
      refine e_getR 140 rfl dX10_goes_137 f_X10_32 (by assumption) (by assumption) ?_
      refine e_bipush (nI 8) 142 rfl dX10_goes_140 bc_8 ?_
      refine e_il1 143 rfl dX10_goes_142 ?_
      first | refine e_imulN 144 rfl dX10_goes_143 rfl rfl ?_ | refine e_imul 144 rfl dX10_goes_143 ?_
      refine e_il5 146 rfl dX10_goes_144 ?_
      first | refine e_iaddN 147 rfl dX10_goes_146 rfl rfl ?_ | refine e_iadd 147 rfl dX10_goes_146 ?_
      first | refine e_ialdv 148 rfl dX10_goes_147 (by assumption) (by assumption) (by first | rfl | simp only [pk_mul, nI_add]) (by omega) (by omega) (by first | assumption | (simp only [mN_sF, mK_sF, mL_sF, mF_sF, mB_sF, mA_sF, mJ_sF, mP_sF, mO_sF, mN_sB, mK_sB, mL_sB, mF_sB, mB_sB, mA_sB, mJ_sB, mP_sB, mO_sB, mN_sA, mK_sA, mL_sA, mF_sA, mB_sA, mA_sA, mJ_sA, mP_sA, mO_sA, mN_sJ, mK_sJ, mL_sJ, mF_sJ, mB_sJ, mA_sJ, mJ_sJ, mP_sJ, mO_sJ, mN_sP, mK_sP, mL_sP, mF_sP, mB_sP, mA_sP, mJ_sP, mP_sP, mO_sP, mN_sO, mK_sO, mL_sO, mF_sO, mB_sO, mA_sO, mJ_sO, mP_sO, mO_sO, up2, if_true, if_false, eq_self, ite_true, ite_false, reduceIte, Nat.add_left_cancel_iff, Nat.add_eq_left, Nat.left_eq_add, Nat.reduceEqDiff]; assumption) | (simp only [mN_sF, mK_sF, mL_sF, mF_sF, mB_sF, mA_sF, mJ_sF, mP_sF, mO_sF, mN_sB, mK_sB, mL_sB, mF_sB, mB_sB, mA_sB, mJ_sB, mP_sB, mO_sB, mN_sA, mK_sA, mL_sA, mF_sA, mB_sA, mA_sA, mJ_sA, mP_sA, mO_sA, mN_sJ, mK_sJ, mL_sJ, mF_sJ, mB_sJ, mA_sJ, mJ_sJ, mP_sJ, mO_sJ, mN_sP, mK_sP, mL_sP, mF_sP, mB_sP, mA_sP, mJ_sP, mP_sP, mO_sP, mN_sO, mK_sO, mL_sO, mF_sO, mB_sO, mA_sO, mJ_sO, mP_sO, mO_sO, up2, if_true, if_false, eq_self, ite_true, ite_false, reduceIte, Nat.add_left_cancel_iff, Nat.add_eq_left, Nat.left_eq_add, Nat.reduceEqDiff]; done)) ?_ | refine e_iald 148 rfl dX10_goes_147 (by assumption) (by assumption) (by first | rfl | simp only [pk_mul, nI_add]) (by omega) (by omega) ?_
      refine e_il3 149 rfl dX10_goes_148 ?_
      first | refine e_cmp_neN 171 152 (by decide) rfl dX10_goes_149 rfl rfl (by omega) (by omega) (fun y3 => ?_) (fun y3 => ?_) | refine e_cmp_ne 171 152 (by decide) rfl dX10_goes_149 (fun y3 => ?_) (fun y3 => ?_)
      · exact skip (fun q => y3 q.2)
      refine e_il4 154 rfl dX10_goes_152 ?_
      refine e_iconst (nI 1) 155 rfl dX10_goes_154 ic_1 ?_
      refine e_il5 157 rfl dX10_goes_155 ?_
      refine e_bipush (nI 9) 159 rfl dX10_goes_157 bc_9 ?_
      first | refine e_iaddN 160 rfl dX10_goes_159 rfl rfl ?_ | refine e_iadd 160 rfl dX10_goes_159 ?_
      refine e_ishl1 161 rfl dX10_goes_160 rfl rfl (by omega) ?_
      refine e_iconst (nI 1) 162 rfl dX10_goes_161 ic_1 ?_
      refine e_il5 164 rfl dX10_goes_162 ?_
      refine e_iconst (nI 1) 165 rfl dX10_goes_164 ic_1 ?_
      first | refine e_iaddN 166 rfl dX10_goes_165 rfl rfl ?_ | refine e_iadd 166 rfl dX10_goes_165 ?_
      refine e_ishl1 167 rfl dX10_goes_166 rfl rfl (by omega) ?_
      refine e_iorN 168 rfl dX10_goes_167 rfl rfl ?_
      refine e_iorN 169 rfl dX10_goes_168 rfl rfl ?_
      refine e_is4 171 rfl dX10_goes_169 (by decide) rfl ?_
      refine e_ii5 (nI (_ + 1)) 174 rfl dX10_goes_171 (ii1 _) rfl ?_
      refine e_goto 112 (by decide) dX10_goes_174 ?_
      refine ih (s + 1) _ (by omega) (or_lt hv (or_lt (pow_lt (by omega)) (pow_lt (by omega)))) (fun j => ?_) _
      rw [tb_or, tb_or, tb_pow, tb_pow, hbit j]
      constructor
      · rintro ((h | ⟨t, z, a1, a2, a3, a4, a5⟩) | h | h)
        · exact Or.inl h
        · exact Or.inr ⟨t, z, by omega, a2, a3, a4, a5⟩
        · exact Or.inr ⟨s, x, by omega, hx, hbs, y3, Or.inl h⟩
        · exact Or.inr ⟨s, x, by omega, hx, hbs, y3, Or.inr h⟩
      · rintro (h | ⟨t, z, a1, a2, a3, a4, a5⟩)
        · exact Or.inl (Or.inl h)
        · by_cases c : t = s
          · subst c
            exact Or.inr a5
          · exact Or.inl (Or.inr ⟨t, z, by omega, a2, a3, a4, a5⟩)
  have loop1 : ∀ (fu s v : Nat), s + fu = sl.length → v < 2 ^ 18 → (∀ j, v.testBit j = true ↔ Gos sl b kd s 0 j) → ∀ l6, nl l6 = true → Ev E M_X10_goes 0 0 6 [some (.ref m), some (.int (nI l)), some (.int (nI b)), some (.int (nI kd)), some (.int (nI v)), some (.int (nI s)), l6] [] μ K := by
    intro fu
    induction fu with
    | zero =>
      intro s v hsf hv hbit l6 hl6
      refine e_il5 8 rfl dX10_goes_6 ?_
      refine e_al0 9 rfl dX10_goes_8 ?_
      refine e_getR 12 rfl dX10_goes_9 f_X10_29 (by assumption) (by assumption) ?_
      refine e_il1 13 rfl dX10_goes_12 ?_
      first | refine e_ialdv 14 rfl dX10_goes_13 (by assumption) (by assumption) (by first | rfl | simp only [pk_mul, nI_add]) (by omega) (by omega) (by first | assumption | (simp only [mN_sF, mK_sF, mL_sF, mF_sF, mB_sF, mA_sF, mJ_sF, mP_sF, mO_sF, mN_sB, mK_sB, mL_sB, mF_sB, mB_sB, mA_sB, mJ_sB, mP_sB, mO_sB, mN_sA, mK_sA, mL_sA, mF_sA, mB_sA, mA_sA, mJ_sA, mP_sA, mO_sA, mN_sJ, mK_sJ, mL_sJ, mF_sJ, mB_sJ, mA_sJ, mJ_sJ, mP_sJ, mO_sJ, mN_sP, mK_sP, mL_sP, mF_sP, mB_sP, mA_sP, mJ_sP, mP_sP, mO_sP, mN_sO, mK_sO, mL_sO, mF_sO, mB_sO, mA_sO, mJ_sO, mP_sO, mO_sO, up2, if_true, if_false, eq_self, ite_true, ite_false, reduceIte, Nat.add_left_cancel_iff, Nat.add_eq_left, Nat.left_eq_add, Nat.reduceEqDiff]; assumption) | (simp only [mN_sF, mK_sF, mL_sF, mF_sF, mB_sF, mA_sF, mJ_sF, mP_sF, mO_sF, mN_sB, mK_sB, mL_sB, mF_sB, mB_sB, mA_sB, mJ_sB, mP_sB, mO_sB, mN_sA, mK_sA, mL_sA, mF_sA, mB_sA, mA_sA, mJ_sA, mP_sA, mO_sA, mN_sJ, mK_sJ, mL_sJ, mF_sJ, mB_sJ, mA_sJ, mJ_sJ, mP_sJ, mO_sJ, mN_sP, mK_sP, mL_sP, mF_sP, mB_sP, mA_sP, mJ_sP, mP_sP, mO_sP, mN_sO, mK_sO, mL_sO, mF_sO, mB_sO, mA_sO, mJ_sO, mP_sO, mO_sO, up2, if_true, if_false, eq_self, ite_true, ite_false, reduceIte, Nat.add_left_cancel_iff, Nat.add_eq_left, Nat.left_eq_add, Nat.reduceEqDiff]; done)) ?_ | refine e_iald 14 rfl dX10_goes_13 (by assumption) (by assumption) (by first | rfl | simp only [pk_mul, nI_add]) (by omega) (by omega) ?_
      first | refine e_cmp_geN 109 17 (by decide) rfl dX10_goes_14 rfl rfl (by omega) (by omega) (fun y1 => ?_) (fun y1 => ?_) | refine e_cmp_ge 109 17 (by decide) rfl dX10_goes_14 (fun y1 => ?_) (fun y1 => ?_)
      rotate_left
      · omega
      refine e_iconst (nI 0) 110 rfl dX10_goes_109 ic_0 ?_
      refine e_is5 112 rfl dX10_goes_110 (by decide) rfl ?_
      refine loop2 sl.length 0 v (by omega) hv ?_ _
      rw [show s = sl.length by omega] at hbit
      exact hbit
    | succ fu ih =>
      intro s v hsf hv hbit l6 hl6
      have hsl : s < sl.length := by omega
      obtain ⟨x, hx⟩ : ∃ x, sl[s]? = some x := ⟨_, List.getElem?_eq_getElem hsl⟩
      have vk := (hs.2 s x hx).1
      have vh := (hs.2 s x hx).2
      have hx7 := (hw x (List.mem_of_getElem? hx)).1
      have hx4 := (hw x (List.mem_of_getElem? hx)).2
      have skip : ¬ (b.testBit s = true ∧ x.1 = kd) → Ev E M_X10_goes 0 0 103 [some (.ref m), some (.int (nI l)), some (.int (nI b)), some (.int (nI kd)), some (.int (nI v)), some (.int (nI s)), l6] [] μ K := by
        intro hn
        refine e_ii5 (nI (_ + 1)) 106 rfl dX10_goes_103 (ii1 _) rfl ?_
        refine e_goto 6 (by decide) dX10_goes_106 ?_
        refine ih (s + 1) v (by omega) hv (fun j => ?_) _ hl6
        rw [hbit j]
        constructor
        · rintro (⟨t, z, a1, a2, a3, a4, a5⟩ | ⟨t, z, a1, _⟩)
          · exact Or.inl ⟨t, z, by omega, a2, a3, a4, a5⟩
          · omega
        · rintro (⟨t, z, a1, a2, a3, a4, a5⟩ | ⟨t, z, a1, _⟩)
          · by_cases c : t = s
            · subst c; rw [hx] at a2; cases a2; exact absurd ⟨a3, a4⟩ hn
            · exact Or.inl ⟨t, z, by omega, a2, a3, a4, a5⟩
          · omega
      have nxt : ∀ v', v' < 2 ^ 18 → b.testBit s = true → x.1 = kd → (∀ j, v'.testBit j = true ↔ v.testBit j = true ∨ j = s + 1 ∨ (x.2 = 2 ∧ j = s) ∨ (x.2 = 3 ∧ j = s + 9)) → Ev E M_X10_goes 0 0 103 [some (.ref m), some (.int (nI l)), some (.int (nI b)), some (.int (nI kd)), some (.int (nI v')), some (.int (nI s)), some (.int (nI x.2))] [] μ K := by
        intro v' hv' h1 h2 h3
        refine e_ii5 (nI (_ + 1)) 106 rfl dX10_goes_103 (ii1 _) rfl ?_
        refine e_goto 6 (by decide) dX10_goes_106 ?_
        refine ih (s + 1) v' (by omega) hv' (fun j => ?_) _ rfl
        rw [h3 j, hbit j]
        constructor
        · rintro ((⟨t, z, a1, a2, a3, a4, a5⟩ | ⟨t, z, a1, _⟩) | h)
          · exact Or.inl ⟨t, z, by omega, a2, a3, a4, a5⟩
          · omega
          · exact Or.inl ⟨s, x, by omega, hx, h1, h2, h⟩
        · rintro (⟨t, z, a1, a2, a3, a4, a5⟩ | ⟨t, z, a1, _⟩)
          · by_cases c : t = s
            · subst c; rw [hx] at a2; cases a2; exact Or.inr a5
            · exact Or.inl (Or.inl ⟨t, z, by omega, a2, a3, a4, a5⟩)
          · omega
      refine e_il5 8 rfl dX10_goes_6 ?_
      refine e_al0 9 rfl dX10_goes_8 ?_
      refine e_getR 12 rfl dX10_goes_9 f_X10_29 (by assumption) (by assumption) ?_
      refine e_il1 13 rfl dX10_goes_12 ?_
      first | refine e_ialdv 14 rfl dX10_goes_13 (by assumption) (by assumption) (by first | rfl | simp only [pk_mul, nI_add]) (by omega) (by omega) (by first | assumption | (simp only [mN_sF, mK_sF, mL_sF, mF_sF, mB_sF, mA_sF, mJ_sF, mP_sF, mO_sF, mN_sB, mK_sB, mL_sB, mF_sB, mB_sB, mA_sB, mJ_sB, mP_sB, mO_sB, mN_sA, mK_sA, mL_sA, mF_sA, mB_sA, mA_sA, mJ_sA, mP_sA, mO_sA, mN_sJ, mK_sJ, mL_sJ, mF_sJ, mB_sJ, mA_sJ, mJ_sJ, mP_sJ, mO_sJ, mN_sP, mK_sP, mL_sP, mF_sP, mB_sP, mA_sP, mJ_sP, mP_sP, mO_sP, mN_sO, mK_sO, mL_sO, mF_sO, mB_sO, mA_sO, mJ_sO, mP_sO, mO_sO, up2, if_true, if_false, eq_self, ite_true, ite_false, reduceIte, Nat.add_left_cancel_iff, Nat.add_eq_left, Nat.left_eq_add, Nat.reduceEqDiff]; assumption) | (simp only [mN_sF, mK_sF, mL_sF, mF_sF, mB_sF, mA_sF, mJ_sF, mP_sF, mO_sF, mN_sB, mK_sB, mL_sB, mF_sB, mB_sB, mA_sB, mJ_sB, mP_sB, mO_sB, mN_sA, mK_sA, mL_sA, mF_sA, mB_sA, mA_sA, mJ_sA, mP_sA, mO_sA, mN_sJ, mK_sJ, mL_sJ, mF_sJ, mB_sJ, mA_sJ, mJ_sJ, mP_sJ, mO_sJ, mN_sP, mK_sP, mL_sP, mF_sP, mB_sP, mA_sP, mJ_sP, mP_sP, mO_sP, mN_sO, mK_sO, mL_sO, mF_sO, mB_sO, mA_sO, mJ_sO, mP_sO, mO_sO, up2, if_true, if_false, eq_self, ite_true, ite_false, reduceIte, Nat.add_left_cancel_iff, Nat.add_eq_left, Nat.left_eq_add, Nat.reduceEqDiff]; done)) ?_ | refine e_iald 14 rfl dX10_goes_13 (by assumption) (by assumption) (by first | rfl | simp only [pk_mul, nI_add]) (by omega) (by omega) ?_
      first | refine e_cmp_geN 109 17 (by decide) rfl dX10_goes_14 rfl rfl (by omega) (by omega) (fun y1 => ?_) (fun y1 => ?_) | refine e_cmp_ge 109 17 (by decide) rfl dX10_goes_14 (fun y1 => ?_) (fun y1 => ?_)
      · omega
      refine e_il2 18 rfl dX10_goes_17 ?_
      refine e_il5 20 rfl dX10_goes_18 ?_
      refine e_ishrN 21 rfl dX10_goes_20 rfl rfl hb31 (by omega) ?_
      refine e_iconst (nI 1) 22 rfl dX10_goes_21 ic_1 ?_
      refine e_iandN 23 rfl dX10_goes_22 rfl rfl ?_
      refine e_if_eqN 103 26 (by decide) rfl dX10_goes_23 rfl (Nat.lt_of_le_of_lt Nat.and_le_right (by decide)) (fun y2 => ?_) (fun y2 => ?_)
      · exact skip (fun q => by have := (bit1 b s).mp y2; rw [q.1] at this; cases this)
      have hbs : b.testBit s = true := by
        cases e : b.testBit s with
        | true => rfl
        | false => exact absurd ((bit1 b s).mpr e) (by omega)
      refine e_al0 27 rfl dX10_goes_26 ?_
      refine e_getR 30 rfl dX10_goes_27 f_X10_32 (by assumption) (by assumption) ?_
      refine e_bipush (nI 8) 32 rfl dX10_goes_30 bc_8 ?_
      refine e_il1 33 rfl dX10_goes_32 ?_
      first | refine e_imulN 34 rfl dX10_goes_33 rfl rfl ?_ | refine e_imul 34 rfl dX10_goes_33 ?_
      refine e_il5 36 rfl dX10_goes_34 ?_
      first | refine e_iaddN 37 rfl dX10_goes_36 rfl rfl ?_ | refine e_iadd 37 rfl dX10_goes_36 ?_
      first | refine e_ialdv 38 rfl dX10_goes_37 (by assumption) (by assumption) (by first | rfl | simp only [pk_mul, nI_add]) (by omega) (by omega) (by first | assumption | (simp only [mN_sF, mK_sF, mL_sF, mF_sF, mB_sF, mA_sF, mJ_sF, mP_sF, mO_sF, mN_sB, mK_sB, mL_sB, mF_sB, mB_sB, mA_sB, mJ_sB, mP_sB, mO_sB, mN_sA, mK_sA, mL_sA, mF_sA, mB_sA, mA_sA, mJ_sA, mP_sA, mO_sA, mN_sJ, mK_sJ, mL_sJ, mF_sJ, mB_sJ, mA_sJ, mJ_sJ, mP_sJ, mO_sJ, mN_sP, mK_sP, mL_sP, mF_sP, mB_sP, mA_sP, mJ_sP, mP_sP, mO_sP, mN_sO, mK_sO, mL_sO, mF_sO, mB_sO, mA_sO, mJ_sO, mP_sO, mO_sO, up2, if_true, if_false, eq_self, ite_true, ite_false, reduceIte, Nat.add_left_cancel_iff, Nat.add_eq_left, Nat.left_eq_add, Nat.reduceEqDiff]; assumption) | (simp only [mN_sF, mK_sF, mL_sF, mF_sF, mB_sF, mA_sF, mJ_sF, mP_sF, mO_sF, mN_sB, mK_sB, mL_sB, mF_sB, mB_sB, mA_sB, mJ_sB, mP_sB, mO_sB, mN_sA, mK_sA, mL_sA, mF_sA, mB_sA, mA_sA, mJ_sA, mP_sA, mO_sA, mN_sJ, mK_sJ, mL_sJ, mF_sJ, mB_sJ, mA_sJ, mJ_sJ, mP_sJ, mO_sJ, mN_sP, mK_sP, mL_sP, mF_sP, mB_sP, mA_sP, mJ_sP, mP_sP, mO_sP, mN_sO, mK_sO, mL_sO, mF_sO, mB_sO, mA_sO, mJ_sO, mP_sO, mO_sO, up2, if_true, if_false, eq_self, ite_true, ite_false, reduceIte, Nat.add_left_cancel_iff, Nat.add_eq_left, Nat.left_eq_add, Nat.reduceEqDiff]; done)) ?_ | refine e_iald 38 rfl dX10_goes_37 (by assumption) (by assumption) (by first | rfl | simp only [pk_mul, nI_add]) (by omega) (by omega) ?_
      refine e_il3 39 rfl dX10_goes_38 ?_
      first | refine e_cmp_eqN 45 42 (by decide) rfl dX10_goes_39 rfl rfl (by omega) (by omega) (fun y3 => ?_) (fun y3 => ?_) | refine e_cmp_eq 45 42 (by decide) rfl dX10_goes_39 (fun y3 => ?_) (fun y3 => ?_)
      rotate_left
      · refine e_goto 103 (by decide) dX10_goes_42 ?_
        exact skip (fun q => y3 q.2)
      have h1 : v ||| 2 ^ (s + 1) < 2 ^ 18 := or_lt hv (pow_lt (by omega))
      refine e_al0 46 rfl dX10_goes_45 ?_
      refine e_getR 49 rfl dX10_goes_46 f_X10_35 (by assumption) (by assumption) ?_
      refine e_bipush (nI 8) 51 rfl dX10_goes_49 bc_8 ?_
      refine e_il1 52 rfl dX10_goes_51 ?_
      first | refine e_imulN 53 rfl dX10_goes_52 rfl rfl ?_ | refine e_imul 53 rfl dX10_goes_52 ?_
      refine e_il5 55 rfl dX10_goes_53 ?_
      first | refine e_iaddN 56 rfl dX10_goes_55 rfl rfl ?_ | refine e_iadd 56 rfl dX10_goes_55 ?_
      first | refine e_ialdv 57 rfl dX10_goes_56 (by assumption) (by assumption) (by first | rfl | simp only [pk_mul, nI_add]) (by omega) (by omega) (by first | assumption | (simp only [mN_sF, mK_sF, mL_sF, mF_sF, mB_sF, mA_sF, mJ_sF, mP_sF, mO_sF, mN_sB, mK_sB, mL_sB, mF_sB, mB_sB, mA_sB, mJ_sB, mP_sB, mO_sB, mN_sA, mK_sA, mL_sA, mF_sA, mB_sA, mA_sA, mJ_sA, mP_sA, mO_sA, mN_sJ, mK_sJ, mL_sJ, mF_sJ, mB_sJ, mA_sJ, mJ_sJ, mP_sJ, mO_sJ, mN_sP, mK_sP, mL_sP, mF_sP, mB_sP, mA_sP, mJ_sP, mP_sP, mO_sP, mN_sO, mK_sO, mL_sO, mF_sO, mB_sO, mA_sO, mJ_sO, mP_sO, mO_sO, up2, if_true, if_false, eq_self, ite_true, ite_false, reduceIte, Nat.add_left_cancel_iff, Nat.add_eq_left, Nat.left_eq_add, Nat.reduceEqDiff]; assumption) | (simp only [mN_sF, mK_sF, mL_sF, mF_sF, mB_sF, mA_sF, mJ_sF, mP_sF, mO_sF, mN_sB, mK_sB, mL_sB, mF_sB, mB_sB, mA_sB, mJ_sB, mP_sB, mO_sB, mN_sA, mK_sA, mL_sA, mF_sA, mB_sA, mA_sA, mJ_sA, mP_sA, mO_sA, mN_sJ, mK_sJ, mL_sJ, mF_sJ, mB_sJ, mA_sJ, mJ_sJ, mP_sJ, mO_sJ, mN_sP, mK_sP, mL_sP, mF_sP, mB_sP, mA_sP, mJ_sP, mP_sP, mO_sP, mN_sO, mK_sO, mL_sO, mF_sO, mB_sO, mA_sO, mJ_sO, mP_sO, mO_sO, up2, if_true, if_false, eq_self, ite_true, ite_false, reduceIte, Nat.add_left_cancel_iff, Nat.add_eq_left, Nat.left_eq_add, Nat.reduceEqDiff]; done)) ?_ | refine e_iald 57 rfl dX10_goes_56 (by assumption) (by assumption) (by first | rfl | simp only [pk_mul, nI_add]) (by omega) (by omega) ?_
      refine e_is6 59 rfl dX10_goes_57 (by decide) rfl ?_
      refine e_il4 61 rfl dX10_goes_59 ?_
      refine e_iconst (nI 1) 62 rfl dX10_goes_61 ic_1 ?_
      refine e_il5 64 rfl dX10_goes_62 ?_
      refine e_iconst (nI 1) 65 rfl dX10_goes_64 ic_1 ?_
      first | refine e_iaddN 66 rfl dX10_goes_65 rfl rfl ?_ | refine e_iadd 66 rfl dX10_goes_65 ?_
      refine e_ishl1 67 rfl dX10_goes_66 rfl rfl (by omega) ?_
      refine e_iorN 68 rfl dX10_goes_67 rfl rfl ?_
      refine e_is4 70 rfl dX10_goes_68 (by decide) rfl ?_
      refine e_il6 72 rfl dX10_goes_70 ?_
      refine e_iconst (nI 2) 73 rfl dX10_goes_72 ic_2 ?_
      first | refine e_cmp_neN 85 76 (by decide) rfl dX10_goes_73 rfl rfl (by omega) (by omega) (fun y4 => ?_) (fun y4 => ?_) | refine e_cmp_ne 85 76 (by decide) rfl dX10_goes_73 (fun y4 => ?_) (fun y4 => ?_)
      · refine e_il6 87 rfl dX10_goes_85 ?_
        refine e_iconst (nI 3) 88 rfl dX10_goes_87 ic_3 ?_
        first | refine e_cmp_neN 103 91 (by decide) rfl dX10_goes_88 rfl rfl (by omega) (by omega) (fun y5 => ?_) (fun y5 => ?_) | refine e_cmp_ne 103 91 (by decide) rfl dX10_goes_88 (fun y5 => ?_) (fun y5 => ?_)
        · refine nxt _ h1 hbs y3 (fun j => ?_)
          rw [tb_or, tb_pow]
          constructor
          · rintro (h | h)
            · exact Or.inl h
            · exact Or.inr (Or.inl h)
          · rintro (h | h | h | h)
            · exact Or.inl h
            · exact Or.inr h
            · exact absurd h.1 y4
            · exact absurd h.1 y5
        · refine e_il4 93 rfl dX10_goes_91 ?_
          refine e_iconst (nI 1) 94 rfl dX10_goes_93 ic_1 ?_
          refine e_il5 96 rfl dX10_goes_94 ?_
          refine e_bipush (nI 9) 98 rfl dX10_goes_96 bc_9 ?_
          first | refine e_iaddN 99 rfl dX10_goes_98 rfl rfl ?_ | refine e_iadd 99 rfl dX10_goes_98 ?_
          refine e_ishl1 100 rfl dX10_goes_99 rfl rfl (by omega) ?_
          refine e_iorN 101 rfl dX10_goes_100 rfl rfl ?_
          refine e_is4 103 rfl dX10_goes_101 (by decide) rfl ?_
          refine nxt _ (or_lt h1 (pow_lt (by omega))) hbs y3 (fun j => ?_)
          rw [tb_or, tb_or, tb_pow, tb_pow]
          constructor
          · rintro ((h | h) | h)
            · exact Or.inl h
            · exact Or.inr (Or.inl h)
            · exact Or.inr (Or.inr (Or.inr ⟨y5, h⟩))
          · rintro (h | h | h | h)
            · exact Or.inl (Or.inl h)
            · exact Or.inl (Or.inr h)
            · exact absurd h.1 y4
            · exact Or.inr h.2
      · refine e_il4 78 rfl dX10_goes_76 ?_
        refine e_iconst (nI 1) 79 rfl dX10_goes_78 ic_1 ?_
        refine e_il5 81 rfl dX10_goes_79 ?_
        refine e_ishl1 82 rfl dX10_goes_81 rfl rfl (by omega) ?_
        refine e_iorN 83 rfl dX10_goes_82 rfl rfl ?_
        refine e_is4 85 rfl dX10_goes_83 (by decide) rfl ?_
        refine e_il6 87 rfl dX10_goes_85 ?_
        refine e_iconst (nI 3) 88 rfl dX10_goes_87 ic_3 ?_
        first | refine e_cmp_neN 103 91 (by decide) rfl dX10_goes_88 rfl rfl (by omega) (by omega) (fun y5 => ?_) (fun y5 => ?_) | refine e_cmp_ne 103 91 (by decide) rfl dX10_goes_88 (fun y5 => ?_) (fun y5 => ?_)
        · refine nxt _ (or_lt h1 (pow_lt (by omega))) hbs y3 (fun j => ?_)
          rw [tb_or, tb_or, tb_pow, tb_pow]
          constructor
          · rintro ((h | h) | h)
            · exact Or.inl h
            · exact Or.inr (Or.inl h)
            · exact Or.inr (Or.inr (Or.inl ⟨y4, h⟩))
          · rintro (h | h | h | h)
            · exact Or.inl (Or.inl h)
            · exact Or.inl (Or.inr h)
            · exact Or.inr h.2
            · omega
        · omega
  refine Cl.of0 3 pn_X10 (Nat.le_of_ble_eq_true rfl) ⟨rfl, rfl⟩ rfl ?_
  refine e_iconst (nI 0) 1 rfl dX10_goes_0 ic_0 ?_
  refine e_is4 3 rfl dX10_goes_1 (by decide) rfl ?_
  refine e_iconst (nI 0) 4 rfl dX10_goes_3 ic_0 ?_
  refine e_is5 6 rfl dX10_goes_4 (by decide) rfl ?_
  refine loop1 sl.length 0 0 (by omega) (by decide) (fun j => ?_) _ rfl
  constructor
  · intro h; simp at h
  · rintro (⟨t, z, a1, _⟩ | ⟨t, z, a1, _⟩) <;> omega
/-- the places p stand for the open slots o -/
def PO (sl : List Slot0) (p o : Nat) : Prop := (∀ q, q < sl.length → (o.testBit q = true ↔ p.testBit q = true ∨ p.testBit (q + 9) = true)) ∧ (o.testBit 8 = true ↔ p.testBit sl.length = true) ∧ Om sl o ∧ (∀ j, p.testBit j = true → j ≤ sl.length ∨ ∃ q x, j = q + 9 ∧ sl[q]? = some x ∧ x.2 = 3) ∧ p < 2 ^ 18
theorem PO_zero {sl : List Slot0} {p o : Nat} (h8 : sl.length ≤ 8) (h : PO sl p o) : p = 0 ↔ o = 0 := by
  obtain ⟨h1, h2, h3, h4, h5⟩ := h
  constructor
  · intro e
    subst e
    apply Nat.eq_of_testBit_eq
    intro q
    rw [Nat.zero_testBit]
    cases c : o.testBit q with
    | false => rfl
    | true =>
      rcases h3.2 q c with g | g
      · have := (h1 q g).mp c; simp at this
      · subst g; have := h2.mp c; simp at this
  · intro e
    subst e
    apply Nat.eq_of_testBit_eq
    intro j
    rw [Nat.zero_testBit]
    cases c : p.testBit j with
    | false => rfl
    | true =>
      exfalso
      rcases h4 j c with g | ⟨q, x, g1, g2, _⟩
      · rcases Nat.lt_or_ge j sl.length with z | z
        · have := (h1 j z).mpr (Or.inl c); simp at this
        · have e : j = sl.length := by omega
          subst e
          have := h2.mpr c; simp at this
      · have hq := (List.getElem?_eq_some_iff.mp g2).1
        subst g1
        have := (h1 q hq).mpr (Or.inr c); simp at this
theorem skT_le {sl : List Slot0} {i i' j : Nat} (h : skT sl i j) (hi : i ≤ i') : skT sl i' j := fun t t1 t2 => h t (by omega) t2
theorem PO_step {sl : List Slot0} {p o kd g v : Nat} (h8 : sl.length ≤ 8) (h : PO sl p o) (hg : ∀ j, g.testBit j = true ↔ Gos sl p kd sl.length sl.length j) (hv : ∀ j, v.testBit j = true ↔ Slp sl g sl.length j) (hv18 : v < 2 ^ 18) : PO sl v (stp sl o kd) := by
  obtain ⟨h1, h2, h3, h4, h5⟩ := h
  -- a slot that can take the word
  have src : ∀ s x, sl[s]? = some x → ((p.testBit s = true ∨ p.testBit (s + 9) = true) ↔ o.testBit s = true) := fun s x hx => (h1 s (List.getElem?_eq_some_iff.mp hx).1).symm
  have gle : ∀ j, g.testBit j = true → j ≤ sl.length → ∃ s x, sl[s]? = some x ∧ x.1 = kd ∧ o.testBit s = true ∧ (j = s + 1 ∨ (x.2 = 2 ∧ j = s)) := fun j hj hjl => by
    rcases (hg j).mp hj with ⟨s, x, a1, a2, a3, a4, a5⟩ | ⟨s, x, a1, a2, a3, a4, a5⟩
    · refine ⟨s, x, a2, a4, (src s x a2).mp (Or.inl a3), ?_⟩
      rcases a5 with z | z | z
      · exact Or.inl z
      · exact Or.inr z
      · omega
    · refine ⟨s, x, a2, a4, (src s x a2).mp (Or.inr a3), ?_⟩
      rcases a5 with z | z
      · omega
      · exact Or.inl z
  have gs : ∀ s x, sl[s]? = some x → x.1 = kd → o.testBit s = true → g.testBit (s + 1) = true := fun s x hx hk ho => by
    rcases (src s x hx).mpr ho with z | z
    · exact (hg _).mpr (Or.inl ⟨s, x, (List.getElem?_eq_some_iff.mp hx).1, hx, z, hk, Or.inl rfl⟩)
    · exact (hg _).mpr (Or.inr ⟨s, x, (List.getElem?_eq_some_iff.mp hx).1, hx, z, hk, Or.inr rfl⟩)
  -- reached with no word more: behind a slot that took the word, or that slot itself if it is a star
  have reach : ∀ j, j ≤ sl.length → (v.testBit j = true ↔ ∃ s x, sl[s]? = some x ∧ x.1 = kd ∧ o.testBit s = true ∧ ((s + 1 ≤ j ∧ skT sl (s + 1) j) ∨ (x.2 = 2 ∧ j = s))) := fun j hjl => by
    rw [hv j]
    constructor
    · rintro (hz | ⟨i, z1, z2, z3, z4⟩)
      · obtain ⟨s, x, a1, a2, a3, a4⟩ := gle j hz hjl
        rcases a4 with a4 | a4
        · exact ⟨s, x, a1, a2, a3, Or.inl ⟨by omega, fun t t1 t2 => by omega⟩⟩
        · exact ⟨s, x, a1, a2, a3, Or.inr a4⟩
      · obtain ⟨s, x, a1, a2, a3, a4⟩ := gle i z3 (by omega)
        rcases a4 with a4 | a4
        · exact ⟨s, x, a1, a2, a3, Or.inl ⟨by omega, by rw [a4] at z4; exact z4⟩⟩
        · exact ⟨s, x, a1, a2, a3, Or.inl ⟨by omega, skT_le z4 (by omega)⟩⟩
    · rintro ⟨s, x, a1, a2, a3, ⟨b1, b2⟩ | ⟨b1, b2⟩⟩
      · have hgs := gs s x a1 a2 a3
        by_cases c : j = s + 1
        · rw [c]; exact Or.inl hgs
        · exact Or.inr ⟨s + 1, by omega, hjl, hgs, b2⟩
      · subst b2
        have hp : p.testBit j = true := by
          rcases (src j x a1).mpr a3 with z | z
          · exact z
          · rcases h4 (j + 9) z with w | ⟨q, y, w1, w2, w3⟩
            · omega
            · have : q = j := by omega
              subst this
              rw [a1] at w2
              cases w2
              omega
        exact Or.inl ((hg j).mpr (Or.inl ⟨j, x, (List.getElem?_eq_some_iff.mp a1).1, a1, hp, a2, Or.inr (Or.inl ⟨b1, rfl⟩)⟩))
  have nine : ∀ q, v.testBit (q + 9) = true ↔ ∃ x, sl[q]? = some x ∧ x.1 = kd ∧ x.2 = 3 ∧ o.testBit q = true := fun q => by
    rw [hv]
    constructor
    · rintro (hz | ⟨i, z1, z2, z3, z4⟩)
      · rcases (hg _).mp hz with ⟨s, x, a1, a2, a3, a4, a5⟩ | ⟨s, x, a1, a2, a3, a4, a5⟩
        · rcases a5 with z | z | z
          · omega
          · omega
          · have e : s = q := by omega
            subst e
            exact ⟨x, a2, a4, z.1, (src s x a2).mp (Or.inl a3)⟩
        · rcases a5 with z | z
          · have e : s = q := by omega
            subst e
            refine ⟨x, a2, a4, ?_, (src s x a2).mp (Or.inr a3)⟩
            rcases h4 _ a3 with w | ⟨t, y, w1, w2, w3⟩
            · omega
            · have : t = s := by omega
              subst this
              rw [a2] at w2
              cases w2
              exact w3
          · omega
      · omega
    · rintro ⟨x, a1, a2, a3, a4⟩
      refine Or.inl ((hg _).mpr ?_)
      rcases (src q x a1).mpr a4 with z | z
      · exact Or.inl ⟨q, x, (List.getElem?_eq_some_iff.mp a1).1, a1, z, a2, Or.inr (Or.inr ⟨a3, rfl⟩)⟩
      · exact Or.inr ⟨q, x, (List.getElem?_eq_some_iff.mp a1).1, a1, z, a2, Or.inl rfl⟩
  refine ⟨fun q hq => ?_, ?_, Om_stp h8 o kd, fun j hj => ?_, hv18⟩
  · rw [stp_bit h8, reach q (by omega), nine q]
    constructor
    · rintro ⟨s, x, a1, a2, a3, a4⟩
      unfold Bhd at a4
      rcases a4 with (⟨b1, b2, b3⟩ | ⟨b1, b2⟩) | ⟨b1, y, b2, b3⟩
      · exact Or.inl ⟨s, x, a2, a3, a1, Or.inl ⟨b1, b3⟩⟩
      · omega
      · rw [a2] at b2
        cases b2
        unfold rpt at b3
        simp at b3
        rcases b3 with b3 | b3
        · exact Or.inl ⟨s, x, a2, a3, a1, Or.inr ⟨b3, b1⟩⟩
        · exact Or.inr ⟨x, by rw [b1]; exact a2, a3, b3, by rw [b1]; exact a1⟩
    · rintro (⟨s, x, a1, a2, a3, ⟨b1, b2⟩ | ⟨b1, b2⟩⟩ | ⟨x, a1, a2, a3, a4⟩)
      · exact ⟨s, x, a3, a1, a2, Or.inl (Or.inl ⟨b1, hq, b2⟩)⟩
      · exact ⟨s, x, a3, a1, a2, Or.inr ⟨b2, x, a1, by rw [b1]; rfl⟩⟩
      · exact ⟨q, x, a4, a1, a2, Or.inr ⟨rfl, x, a1, by rw [a3]; rfl⟩⟩
  · rw [stp_bit h8, reach sl.length (Nat.le_refl _)]
    constructor
    · rintro ⟨s, x, a1, a2, a3, a4⟩
      have hsl := (List.getElem?_eq_some_iff.mp a2).1
      unfold Bhd at a4
      rcases a4 with (⟨b1, b2, b3⟩ | ⟨b1, b2⟩) | ⟨b1, y, b2, b3⟩
      · omega
      · exact ⟨s, x, a2, a3, a1, Or.inl ⟨by omega, fun t t1 t2 => b2 t t1⟩⟩
      · omega
    · rintro ⟨s, x, a1, a2, a3, ⟨b1, b2⟩ | ⟨b1, b2⟩⟩
      · exact ⟨s, x, a3, a1, a2, Or.inl (Or.inr ⟨rfl, fun t t1 y hy => b2 t t1 (List.getElem?_eq_some_iff.mp hy).1 y hy⟩)⟩
      · have hsl := (List.getElem?_eq_some_iff.mp a1).1
        omega
  · rcases (hv j).mp hj with hz | ⟨i, z1, z2, z3, z4⟩
    · rcases (hg j).mp hz with ⟨s, x, a1, a2, a3, a4, a5⟩ | ⟨s, x, a1, a2, a3, a4, a5⟩
      · rcases a5 with z | z | z
        · exact Or.inl (by omega)
        · exact Or.inl (by omega)
        · exact Or.inr ⟨s, x, z.2, a2, z.1⟩
      · rcases a5 with z | z
        · refine Or.inr ⟨s, x, z, a2, ?_⟩
          rcases h4 _ a3 with w | ⟨t, y, w1, w2, w3⟩
          · omega
          · have : t = s := by omega
            subst this
            rw [a2] at w2
            cases w2
            exact w3
        · exact Or.inl (by omega)
    · exact Or.inl z2
theorem PO_first {sl : List Slot0} {v : Nat} (h8 : sl.length ≤ 8) (hv : ∀ j, v.testBit j = true ↔ Slp sl 1 sl.length j) (hv18 : v < 2 ^ 18) : PO sl v (msk (Opn sl 0)) := by
  have one : ∀ i, (1 : Nat).testBit i = true ↔ i = 0 := fun i => by rw [show (1 : Nat) = 2 ^ 0 from rfl, tb_pow]
  have reach : ∀ j, j ≤ sl.length → (v.testBit j = true ↔ skT sl 0 j) := fun j hj => by
    rw [hv j]
    constructor
    · rintro (h | ⟨i, a1, a2, a3, a4⟩)
      · have := (one j).mp h; subst this; exact fun t t1 t2 => by omega
      · have := (one i).mp a3; subst this; exact a4
    · intro h
      by_cases c : j = 0
      · exact Or.inl ((one j).mpr c)
      · exact Or.inr ⟨0, by omega, hj, (one 0).mpr rfl, h⟩
  have big : ∀ j, sl.length < j → v.testBit j = false := fun j hj => by
    cases c : v.testBit j with
    | false => rfl
    | true =>
      rcases (hv j).mp c with h | ⟨i, a1, a2, _⟩
      · have := (one j).mp h; omega
      · omega
  refine ⟨fun q hq => ?_, ?_, ⟨msk_lt _, fun q hq => ?_⟩, fun j hj => Or.inl ?_, hv18⟩
  · rw [msk_bit, reach q (by omega), big (q + 9) (by omega)]
    constructor
    · rintro ⟨_, ⟨_, _, h⟩ | ⟨h, _⟩⟩
      · exact Or.inl h
      · omega
    · rintro (h | h)
      · exact ⟨by omega, Or.inl ⟨by omega, hq, h⟩⟩
      · cases h
  · rw [msk_bit, reach sl.length (Nat.le_refl _)]
    constructor
    · rintro ⟨_, ⟨_, h, _⟩ | ⟨_, h⟩⟩
      · omega
      · exact fun t t1 t2 => h t t1
    · intro h
      exact ⟨by omega, Or.inr ⟨rfl, fun t t1 x hx => h t t1 (List.getElem?_eq_some_iff.mp hx).1 x hx⟩⟩
  · rw [msk_bit] at hq
    rcases Opn_lt hq.2 with g | g
    · exact Or.inl g.2
    · exact Or.inr g
  · rcases Nat.lt_or_ge sl.length j with c | c
    · rw [big j c] at hj; cases hj
    · exact c
end MBITS
