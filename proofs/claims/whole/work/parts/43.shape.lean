/-! NameDesk$Shape -/
section SHAPE
variable {E : En} {μ : Mm} {K : Option Value → Mm → Prop}
def Sg (μ : Mm) (s : Nat) : Prop := (mK μ s = 5 ∧ mP μ s 1 = some (s + 1) ∧ mP μ s 2 = some (s + 2) ∧ mP μ s 3 = some (s + 3) ∧ mP μ s 5 = some (s + 4) ∧ mP μ s 6 = some (s + 5) ∧ mP μ s 7 = some (s + 6) ∧ mP μ s 9 = some (s + 7) ∧ mP μ s 11 = some (s + 8)) ∧ mK μ (s + 1) = 13 ∧ mL μ (s + 1) = 8 ∧ mK μ (s + 2) = 15 ∧ mL μ (s + 2) = 8 ∧ mK μ (s + 3) = 15 ∧ mL μ (s + 3) = 8 ∧ mK μ (s + 4) = 13 ∧ mL μ (s + 4) = 8 ∧ mK μ (s + 5) = 13 ∧ mL μ (s + 5) = 7 ∧ mK μ (s + 6) = 13 ∧ mL μ (s + 6) = 7 ∧ mK μ (s + 7) = 13 ∧ mL μ (s + 7) = 7 ∧ mK μ (s + 8) = 12 ∧ mL μ (s + 8) = 6
theorem Sg.fr {S : Nat → Prop} {μ' : Mm} {s : Nat} (h : Sg μ s) (f : Fr S μ μ') : Sg μ' s := by unfold Sg; rw [f.2.1, f.2.2.1, f.2.2.2.1]; exact h
theorem Sg.fx {S : Nat → Prop} {μ' : Mm} {s : Nat} (h : Sg μ s) (f : Fx S μ μ') (h0 : ¬ S s) : Sg μ' s := by unfold Sg; rw [f.2.1, f.2.2.1, (f.2.2.2 s h0).2.2.2.2.1]; exact h
/-- a slot: its kind, and how: 0 one word, 1 none or one, 2 any, 3 one at least -/
abbrev Slot0 : Type := Nat × Nat
def skp (h : Nat) : Bool := h == 1 || h == 2
def rpt (h : Nat) : Bool := h == 2 || h == 3
def Ss (μ : Mm) (s : Nat) (sl : List Slot0) : Prop := mF μ s 0 = nI sl.length ∧ sl.length ≤ 8 ∧ ∀ i x, sl[i]? = some x → mA μ (s + 1) i = nI x.1 ∧ mB μ (s + 2) i = bI (skp x.2) ∧ mB μ (s + 3) i = bI (rpt x.2) ∧ x.1 < 7 ∧ x.2 < 4
/-- slot q (8: the end) is open from slot i on -/
def Opn (sl : List Slot0) (i q : Nat) : Prop := (i ≤ q ∧ q < sl.length ∧ ∀ t, i ≤ t → t < q → ∀ x, sl[t]? = some x → skp x.2 = true) ∨ (q = 8 ∧ ∀ t, i ≤ t → ∀ x, sl[t]? = some x → skp x.2 = true)
theorem c_openFrom {s i : Nat} {sl : List Slot0} (hg : Sg μ s) (hs : Ss μ s sl) (hi : i ≤ sl.length) (k : ∀ v, v < 512 → (∀ q, v.testBit q = true ↔ Opn sl i q) → K (some (.int (nI v))) μ) : Cl E M_X4_openFrom [.ref s, .int (nI i)] μ K := by
  obtain ⟨⟨gk, g1, g2, g3, g5, g6, g7, g9, g11⟩, k1, l1, k2, l2, k3, l3, k4, l4, k5, l5, k6, l6, k7, l7, k8, l8⟩ := hg
  obtain ⟨s0, s8, sx⟩ := hs
  refine Cl.of0 2 pn_X4 (Nat.le_of_ble_eq_true rfl) ⟨rfl, rfl⟩ rfl ?_
  refine e_iconst (nI 0) 1 rfl dX4_openFrom_0 ic_0 ?_
  refine e_is2 2 rfl dX4_openFrom_1 (by decide) rfl ?_
  refine e_il1 3 rfl dX4_openFrom_2 ?_
  refine e_is3 4 rfl dX4_openFrom_3 (by decide) rfl ?_
  have loop : ∀ (fu j v : Nat), j + fu = sl.length → i ≤ j → v < 256 → (∀ q, v.testBit q = true ↔ i ≤ q ∧ q < j) → (∀ t, i ≤ t → t < j → ∀ x, sl[t]? = some x → skp x.2 = true) → Ev E M_X4_openFrom 0 0 4 [some (.ref s), some (.int (nI i)), some (.int (nI v)), some (.int (nI j))] [] μ K := by
    intro fu
    induction fu with
    | zero =>
      intro j v hj hij hv hb hsk
      refine e_il3 5 rfl dX4_openFrom_4 ?_
      refine e_al0 6 rfl dX4_openFrom_5 ?_
      first | refine e_getIv 9 rfl dX4_openFrom_6 f_X4_9 (by assumption) (by first | assumption | (simp only [mN_sF, mK_sF, mL_sF, mF_sF, mB_sF, mA_sF, mJ_sF, mP_sF, mO_sF, mN_sB, mK_sB, mL_sB, mF_sB, mB_sB, mA_sB, mJ_sB, mP_sB, mO_sB, mN_sA, mK_sA, mL_sA, mF_sA, mB_sA, mA_sA, mJ_sA, mP_sA, mO_sA, mN_sJ, mK_sJ, mL_sJ, mF_sJ, mB_sJ, mA_sJ, mJ_sJ, mP_sJ, mO_sJ, mN_sP, mK_sP, mL_sP, mF_sP, mB_sP, mA_sP, mJ_sP, mP_sP, mO_sP, mN_sO, mK_sO, mL_sO, mF_sO, mB_sO, mA_sO, mJ_sO, mP_sO, mO_sO, up2, if_true, if_false, eq_self, ite_true, ite_false, reduceIte, Nat.add_left_cancel_iff, Nat.add_eq_left, Nat.left_eq_add, Nat.reduceEqDiff]; assumption) | (simp only [mN_sF, mK_sF, mL_sF, mF_sF, mB_sF, mA_sF, mJ_sF, mP_sF, mO_sF, mN_sB, mK_sB, mL_sB, mF_sB, mB_sB, mA_sB, mJ_sB, mP_sB, mO_sB, mN_sA, mK_sA, mL_sA, mF_sA, mB_sA, mA_sA, mJ_sA, mP_sA, mO_sA, mN_sJ, mK_sJ, mL_sJ, mF_sJ, mB_sJ, mA_sJ, mJ_sJ, mP_sJ, mO_sJ, mN_sP, mK_sP, mL_sP, mF_sP, mB_sP, mA_sP, mJ_sP, mP_sP, mO_sP, mN_sO, mK_sO, mL_sO, mF_sO, mB_sO, mA_sO, mJ_sO, mP_sO, mO_sO, up2, if_true, if_false, eq_self, ite_true, ite_false, reduceIte, Nat.add_left_cancel_iff, Nat.add_eq_left, Nat.left_eq_add, Nat.reduceEqDiff]; done)) ?_ | refine e_getI 9 rfl dX4_openFrom_6 f_X4_9 (by assumption) ?_
      first | refine e_cmp_geN 35 12 (by decide) rfl dX4_openFrom_9 rfl rfl (by omega) (by omega) (fun h1 => ?_) (fun h1 => ?_) | refine e_cmp_ge 35 12 (by decide) rfl dX4_openFrom_9 (fun h1 => ?_) (fun h1 => ?_)
      rotate_left
      · omega
      refine e_il2 36 rfl dX4_openFrom_35 ?_
      refine e_sipush (nI 256) 39 rfl dX4_openFrom_36 sc_256 ?_
      refine e_iorN 40 rfl dX4_openFrom_39 rfl rfl ?_
      refine e_iret dX4_openFrom_40 rfl ?_
      refine k _ (or_lt (n := 9) (by omega) (by decide)) (fun q => ?_)
      rw [tb_or, hb q, show 256 = 2 ^ 8 from rfl, tb_pow]
      constructor
      · rintro (⟨q1, q2⟩ | q1)
        · exact Or.inl ⟨q1, by omega, fun t t1 t2 => hsk t t1 (by omega)⟩
        · exact Or.inr ⟨q1, fun t t1 x hx => hsk t t1 (by have := (List.getElem?_eq_some_iff.mp hx).1; omega) x hx⟩
      · rintro (⟨q1, q2, q3⟩ | ⟨q1, q2⟩)
        · exact Or.inl ⟨q1, by omega⟩
        · exact Or.inr q1
    | succ fu ih =>
      intro j v hj hij hv hb hsk
      have hjl : j < sl.length := by omega
      obtain ⟨x1, x2, x3, x4, x5⟩ := sx j _ (List.getElem?_eq_getElem hjl)
      have hb' : ∀ q, (v ||| 2 ^ j).testBit q = true ↔ i ≤ q ∧ q < j + 1 := fun q => by rw [tb_or, hb q, tb_pow]; omega
      have hv' : v ||| 2 ^ j < 256 := or_lt (n := 8) hv (pow_lt (by omega))
      refine e_il3 5 rfl dX4_openFrom_4 ?_
      refine e_al0 6 rfl dX4_openFrom_5 ?_
      first | refine e_getIv 9 rfl dX4_openFrom_6 f_X4_9 (by assumption) (by first | assumption | (simp only [mN_sF, mK_sF, mL_sF, mF_sF, mB_sF, mA_sF, mJ_sF, mP_sF, mO_sF, mN_sB, mK_sB, mL_sB, mF_sB, mB_sB, mA_sB, mJ_sB, mP_sB, mO_sB, mN_sA, mK_sA, mL_sA, mF_sA, mB_sA, mA_sA, mJ_sA, mP_sA, mO_sA, mN_sJ, mK_sJ, mL_sJ, mF_sJ, mB_sJ, mA_sJ, mJ_sJ, mP_sJ, mO_sJ, mN_sP, mK_sP, mL_sP, mF_sP, mB_sP, mA_sP, mJ_sP, mP_sP, mO_sP, mN_sO, mK_sO, mL_sO, mF_sO, mB_sO, mA_sO, mJ_sO, mP_sO, mO_sO, up2, if_true, if_false, eq_self, ite_true, ite_false, reduceIte, Nat.add_left_cancel_iff, Nat.add_eq_left, Nat.left_eq_add, Nat.reduceEqDiff]; assumption) | (simp only [mN_sF, mK_sF, mL_sF, mF_sF, mB_sF, mA_sF, mJ_sF, mP_sF, mO_sF, mN_sB, mK_sB, mL_sB, mF_sB, mB_sB, mA_sB, mJ_sB, mP_sB, mO_sB, mN_sA, mK_sA, mL_sA, mF_sA, mB_sA, mA_sA, mJ_sA, mP_sA, mO_sA, mN_sJ, mK_sJ, mL_sJ, mF_sJ, mB_sJ, mA_sJ, mJ_sJ, mP_sJ, mO_sJ, mN_sP, mK_sP, mL_sP, mF_sP, mB_sP, mA_sP, mJ_sP, mP_sP, mO_sP, mN_sO, mK_sO, mL_sO, mF_sO, mB_sO, mA_sO, mJ_sO, mP_sO, mO_sO, up2, if_true, if_false, eq_self, ite_true, ite_false, reduceIte, Nat.add_left_cancel_iff, Nat.add_eq_left, Nat.left_eq_add, Nat.reduceEqDiff]; done)) ?_ | refine e_getI 9 rfl dX4_openFrom_6 f_X4_9 (by assumption) ?_
      first | refine e_cmp_geN 35 12 (by decide) rfl dX4_openFrom_9 rfl rfl (by omega) (by omega) (fun h1 => ?_) (fun h1 => ?_) | refine e_cmp_ge 35 12 (by decide) rfl dX4_openFrom_9 (fun h1 => ?_) (fun h1 => ?_)
      · omega
      refine e_il2 13 rfl dX4_openFrom_12 ?_
      refine e_iconst (nI 1) 14 rfl dX4_openFrom_13 ic_1 ?_
      refine e_il3 15 rfl dX4_openFrom_14 ?_
      refine e_ishl1 16 rfl dX4_openFrom_15 rfl rfl (by omega) ?_
      refine e_iorN 17 rfl dX4_openFrom_16 rfl rfl ?_
      refine e_is2 18 rfl dX4_openFrom_17 (by decide) rfl ?_
      refine e_al0 19 rfl dX4_openFrom_18 ?_
      refine e_getR 22 rfl dX4_openFrom_19 f_X4_19 (by assumption) (by assumption) ?_
      refine e_il3 23 rfl dX4_openFrom_22 ?_
      first | refine e_baldv 24 rfl dX4_openFrom_23 (by assumption) (by assumption) (by first | rfl | simp only [pk_mul, nI_add]) (by omega) (by omega) (by first | assumption | (simp only [mN_sF, mK_sF, mL_sF, mF_sF, mB_sF, mA_sF, mJ_sF, mP_sF, mO_sF, mN_sB, mK_sB, mL_sB, mF_sB, mB_sB, mA_sB, mJ_sB, mP_sB, mO_sB, mN_sA, mK_sA, mL_sA, mF_sA, mB_sA, mA_sA, mJ_sA, mP_sA, mO_sA, mN_sJ, mK_sJ, mL_sJ, mF_sJ, mB_sJ, mA_sJ, mJ_sJ, mP_sJ, mO_sJ, mN_sP, mK_sP, mL_sP, mF_sP, mB_sP, mA_sP, mJ_sP, mP_sP, mO_sP, mN_sO, mK_sO, mL_sO, mF_sO, mB_sO, mA_sO, mJ_sO, mP_sO, mO_sO, up2, if_true, if_false, eq_self, ite_true, ite_false, reduceIte, Nat.add_left_cancel_iff, Nat.add_eq_left, Nat.left_eq_add, Nat.reduceEqDiff]; assumption) | (simp only [mN_sF, mK_sF, mL_sF, mF_sF, mB_sF, mA_sF, mJ_sF, mP_sF, mO_sF, mN_sB, mK_sB, mL_sB, mF_sB, mB_sB, mA_sB, mJ_sB, mP_sB, mO_sB, mN_sA, mK_sA, mL_sA, mF_sA, mB_sA, mA_sA, mJ_sA, mP_sA, mO_sA, mN_sJ, mK_sJ, mL_sJ, mF_sJ, mB_sJ, mA_sJ, mJ_sJ, mP_sJ, mO_sJ, mN_sP, mK_sP, mL_sP, mF_sP, mB_sP, mA_sP, mJ_sP, mP_sP, mO_sP, mN_sO, mK_sO, mL_sO, mF_sO, mB_sO, mA_sO, mJ_sO, mP_sO, mO_sO, up2, if_true, if_false, eq_self, ite_true, ite_false, reduceIte, Nat.add_left_cancel_iff, Nat.add_eq_left, Nat.left_eq_add, Nat.reduceEqDiff]; done)) ?_ | refine e_zaldv 24 rfl dX4_openFrom_23 (by assumption) (by assumption) (by first | rfl | simp only [pk_mul, nI_add]) (by omega) (by omega) (by first | assumption | (simp only [mN_sF, mK_sF, mL_sF, mF_sF, mB_sF, mA_sF, mJ_sF, mP_sF, mO_sF, mN_sB, mK_sB, mL_sB, mF_sB, mB_sB, mA_sB, mJ_sB, mP_sB, mO_sB, mN_sA, mK_sA, mL_sA, mF_sA, mB_sA, mA_sA, mJ_sA, mP_sA, mO_sA, mN_sJ, mK_sJ, mL_sJ, mF_sJ, mB_sJ, mA_sJ, mJ_sJ, mP_sJ, mO_sJ, mN_sP, mK_sP, mL_sP, mF_sP, mB_sP, mA_sP, mJ_sP, mP_sP, mO_sP, mN_sO, mK_sO, mL_sO, mF_sO, mB_sO, mA_sO, mJ_sO, mP_sO, mO_sO, up2, if_true, if_false, eq_self, ite_true, ite_false, reduceIte, Nat.add_left_cancel_iff, Nat.add_eq_left, Nat.left_eq_add, Nat.reduceEqDiff]; assumption) | (simp only [mN_sF, mK_sF, mL_sF, mF_sF, mB_sF, mA_sF, mJ_sF, mP_sF, mO_sF, mN_sB, mK_sB, mL_sB, mF_sB, mB_sB, mA_sB, mJ_sB, mP_sB, mO_sB, mN_sA, mK_sA, mL_sA, mF_sA, mB_sA, mA_sA, mJ_sA, mP_sA, mO_sA, mN_sJ, mK_sJ, mL_sJ, mF_sJ, mB_sJ, mA_sJ, mJ_sJ, mP_sJ, mO_sJ, mN_sP, mK_sP, mL_sP, mF_sP, mB_sP, mA_sP, mJ_sP, mP_sP, mO_sP, mN_sO, mK_sO, mL_sO, mF_sO, mB_sO, mA_sO, mJ_sO, mP_sO, mO_sO, up2, if_true, if_false, eq_self, ite_true, ite_false, reduceIte, Nat.add_left_cancel_iff, Nat.add_eq_left, Nat.left_eq_add, Nat.reduceEqDiff]; done)) ?_ | refine e_bald 24 rfl dX4_openFrom_23 (by assumption) (by assumption) (by first | rfl | simp only [pk_mul, nI_add]) (by omega) (by omega) ?_ | refine e_zald 24 rfl dX4_openFrom_23 (by assumption) (by assumption) (by first | rfl | simp only [pk_mul, nI_add]) (by omega) (by omega) ?_
      first | refine e_if_neB 29 27 (by decide) rfl dX4_openFrom_24 rfl (fun h2 => ?_) (fun h2 => ?_) | refine e_if_neN 29 27 (by decide) rfl dX4_openFrom_24 rfl (by omega) (fun h2 => ?_) (fun h2 => ?_) | refine e_if_ne 29 27 (by decide) rfl dX4_openFrom_24 (fun h2 => ?_) (fun h2 => ?_)
      · refine e_ii3 (nI (_ + 1)) 32 rfl dX4_openFrom_29 (ii1 _) rfl ?_
        refine e_goto 4 (by decide) dX4_openFrom_32 ?_
        refine ih (j + 1) _ (by omega) (by omega) hv' hb' (fun t t1 t2 x hx => ?_)
        by_cases e : t = j
        · subst e; rw [List.getElem?_eq_getElem hjl] at hx; rw [← Option.some.inj hx]; exact h2
        · exact hsk t t1 (by omega) x hx
      · refine e_il2 28 rfl dX4_openFrom_27 ?_
        refine e_iret dX4_openFrom_28 rfl ?_
        refine k _ (by omega) (fun q => ?_)
        rw [hb' q]
        constructor
        · rintro ⟨q1, q2⟩; exact Or.inl ⟨q1, by omega, fun t t1 t2 => hsk t t1 (by omega)⟩
        · rintro (⟨q1, q2, q3⟩ | ⟨q1, q2⟩)
          · refine ⟨q1, ?_⟩
            rcases Nat.lt_or_ge q (j + 1) with z | z
            · exact z
            · have := q3 j hij (by omega) _ (List.getElem?_eq_getElem hjl)
              rw [h2] at this; cases this
          · have := q2 j hij _ (List.getElem?_eq_getElem hjl)
            rw [h2] at this; cases this
  exact loop (sl.length - i) i 0 (by omega) (Nat.le_refl i) (by decide) (fun q => by simp) (fun t t1 t2 => by omega)
/-- what link() lays -/
def Bhd (sl : List Slot0) (i q : Nat) : Prop := Opn sl (i + 1) q ∨ (q = i ∧ ∃ x, sl[i]? = some x ∧ rpt x.2 = true)
def Sk (μ : Mm) (s : Nat) (sl : List Slot0) : Prop := (∃ v, mF μ s 4 = nI v ∧ v < 512 ∧ ∀ q, v.testBit q = true ↔ Opn sl 0 q) ∧ (∀ i, i < sl.length → ∃ v, mA μ (s + 4) i = nI v ∧ v < 512 ∧ ∀ q, v.testBit q = true ↔ Bhd sl i q) ∧ (∀ c, c < 7 → ∃ v, mA μ (s + 5) c = nI v ∧ v < 256 ∧ ∀ q, v.testBit q = true ↔ ∃ x, sl[q]? = some x ∧ x.1 = c)
def Sk2 (μ : Mm) (s : Nat) (sl : List Slot0) : Prop := (∀ i, i < sl.length → ∃ v, mA μ (s + 4) i = nI v ∧ v < 512 ∧ ∀ q, v.testBit q = true ↔ Bhd sl i q) ∧ (∀ c, c < 7 → ∃ v, mA μ (s + 5) c = nI v ∧ v < 256 ∧ ∀ q, v.testBit q = true ↔ ∃ x, sl[q]? = some x ∧ x.1 = c)
def lS (s : Nat) : Nat → Prop := fun q => q = s ∨ q = s + 4 ∨ q = s + 5
theorem Ss.fr {S : Nat → Prop} {μ' : Mm} {s : Nat} {sl : List Slot0} (h : Ss μ s sl) (f : Fr S μ μ') (h0 : mF μ' s 0 = mF μ s 0) (h1 : ¬ S (s + 1)) (h2 : ¬ S (s + 2)) (h3 : ¬ S (s + 3)) : Ss μ' s sl := by
  unfold Ss
  rw [h0, (f.2.2.2.2.2 (s + 1) h1).2.2.1, (f.2.2.2.2.2 (s + 2) h2).2.1, (f.2.2.2.2.2 (s + 3) h3).2.1]
  exact h
theorem c_openBehind {s o c : Nat} {sl : List Slot0} (hg : Sg μ s) (hn : sl.length ≤ 8) (hk : Sk2 μ s sl) (ho : o < 512) (hc : c < 7) (k : ∀ v, v < 512 → (∀ q, v.testBit q = true ↔ ∃ i x, o.testBit i = true ∧ sl[i]? = some x ∧ x.1 = c ∧ Bhd sl i q) → K (some (.int (nI v))) μ) : Cl E M_X4_openBehind [.ref s, .int (nI o), .int (nI c)] μ K := by
  obtain ⟨⟨gk, g1, g2, g3, g5, g6, g7, g9, g11⟩, k1, l1, k2, l2, k3, l3, k4, l4, k5, l5, k6, l6, k7, l7, k8, l8⟩ := hg
  obtain ⟨hbh, hsk⟩ := hk
  obtain ⟨w, w1, w2, w3⟩ := hsk c hc
  have ht : o &&& w < 256 := Nat.lt_of_le_of_lt Nat.and_le_right w2
  have htb : ∀ i, (o &&& w).testBit i = true ↔ o.testBit i = true ∧ ∃ x, sl[i]? = some x ∧ x.1 = c := fun i => by rw [tb_and, w3 i]
  have fin : ∀ (j v : Nat), (∀ i, j ≤ i → (o &&& w).testBit i = false) → v < 512 → (∀ q, v.testBit q = true ↔ ∃ i, i < j ∧ (o &&& w).testBit i = true ∧ Bhd sl i q) → Ev E M_X4_openBehind 0 0 56 [some (.ref s), some (.int (nI o)), some (.int (nI c)), some (.int (nI (o &&& w))), some (.int (nI v)), some (.int (nI j))] [] μ K := by
    intro j v hno hv hb
    refine e_il4 58 rfl dX4_openBehind_56 ?_
    refine e_iret dX4_openBehind_58 rfl ?_
    refine k v hv (fun q => ?_)
    rw [hb q]
    constructor
    · rintro ⟨i, i1, i2, i3⟩
      obtain ⟨j1, x, j2, j3⟩ := (htb i).mp i2
      exact ⟨i, x, j1, j2, j3, i3⟩
    · rintro ⟨i, x, i1, i2, i3, i4⟩
      have z := (htb i).mpr ⟨i1, x, i2, i3⟩
      refine ⟨i, ?_, z, i4⟩
      rcases Nat.lt_or_ge i j with y | y
      · exact y
      · rw [hno i y] at z; cases z
  have loop : ∀ (fu j v : Nat), j + fu = 8 → v < 512 → (∀ q, v.testBit q = true ↔ ∃ i, i < j ∧ (o &&& w).testBit i = true ∧ Bhd sl i q) → Ev E M_X4_openBehind 0 0 15 [some (.ref s), some (.int (nI o)), some (.int (nI c)), some (.int (nI (o &&& w))), some (.int (nI v)), some (.int (nI j))] [] μ K := by
    intro fu
    induction fu with
    | zero =>
      intro j v hj hv hb
      refine e_il5 17 rfl dX4_openBehind_15 ?_
      refine e_bipush (nI 8) 19 rfl dX4_openBehind_17 bc_8 ?_
      first | refine e_cmp_geN 56 22 (by decide) rfl dX4_openBehind_19 rfl rfl (by omega) (by omega) (fun h1 => ?_) (fun h1 => ?_) | refine e_cmp_ge 56 22 (by decide) rfl dX4_openBehind_19 (fun h1 => ?_) (fun h1 => ?_)
      · refine fin j v (fun i hi => ?_) hv hb
        exact Nat.testBit_lt_two_pow (Nat.lt_of_lt_of_le ht (Nat.pow_le_pow_right (n := 2) (i := 8) (by decide) (by omega)))
      · omega
    | succ fu ih =>
      intro j v hj hv hb
      refine e_il5 17 rfl dX4_openBehind_15 ?_
      refine e_bipush (nI 8) 19 rfl dX4_openBehind_17 bc_8 ?_
      first | refine e_cmp_geN 56 22 (by decide) rfl dX4_openBehind_19 rfl rfl (by omega) (by omega) (fun h1 => ?_) (fun h1 => ?_) | refine e_cmp_ge 56 22 (by decide) rfl dX4_openBehind_19 (fun h1 => ?_) (fun h1 => ?_)
      · omega
      refine e_il3 23 rfl dX4_openBehind_22 ?_
      refine e_il5 25 rfl dX4_openBehind_23 ?_
      refine e_ishrN 26 rfl dX4_openBehind_25 rfl rfl (by omega) (by omega) ?_
      refine e_if_eqN 56 29 (by decide) rfl dX4_openBehind_26 rfl (Nat.lt_of_le_of_lt (by rw [Nat.shiftRight_eq_div_pow]; exact Nat.div_le_self _ _) (show o &&& w < 2 ^ 31 by omega)) (fun h2 => ?_) (fun h2 => ?_)
      · refine fin j v (fun i hi => ?_) hv hb
        have e : (o &&& w).testBit i = ((o &&& w) >>> j).testBit (i - j) := by rw [Nat.testBit_shiftRight]; congr 1; omega
        rw [e, h2]; simp
      have next : ∀ v', v' < 512 → (∀ q, v'.testBit q = true ↔ ∃ i, i < j + 1 ∧ (o &&& w).testBit i = true ∧ Bhd sl i q) → Ev E M_X4_openBehind 0 0 50 [some (.ref s), some (.int (nI o)), some (.int (nI c)), some (.int (nI (o &&& w))), some (.int (nI v')), some (.int (nI j))] [] μ K := by
        intro v' hv' hb'
        refine e_ii5 (nI (_ + 1)) 53 rfl dX4_openBehind_50 (ii1 _) rfl ?_
        refine e_goto 15 (by decide) dX4_openBehind_53 ?_
        exact ih (j + 1) v' (by omega) hv' hb'
      refine e_il3 30 rfl dX4_openBehind_29 ?_
      refine e_il5 32 rfl dX4_openBehind_30 ?_
      refine e_ishrN 33 rfl dX4_openBehind_32 rfl rfl (by omega) (by omega) ?_
      refine e_iconst (nI 1) 34 rfl dX4_openBehind_33 ic_1 ?_
      refine e_iandN 35 rfl dX4_openBehind_34 rfl rfl ?_
      refine e_if_eqN 50 38 (by decide) rfl dX4_openBehind_35 rfl (Nat.lt_of_le_of_lt Nat.and_le_right (by decide)) (fun h3 => ?_) (fun h3 => ?_)
      · have hz := (bit1 (o &&& w) j).mp h3
        refine next v hv (fun q => ?_)
        rw [hb q]
        constructor
        · rintro ⟨i, i1, i2⟩; exact ⟨i, by omega, i2⟩
        · rintro ⟨i, i1, i2, i3⟩
          by_cases e : i = j
          · subst e; rw [hz] at i2; cases i2
          · exact ⟨i, by omega, i2, i3⟩
      · have hz : (o &&& w).testBit j = true := by cases q : (o &&& w).testBit j; exact absurd ((bit1 _ _).mpr q) h3; rfl
        obtain ⟨j1, x, j2, j3⟩ := (htb j).mp hz
        have hjl : j < sl.length := (List.getElem?_eq_some_iff.mp j2).1
        obtain ⟨u, u1, u2, u3⟩ := hbh j hjl
        refine e_il4 40 rfl dX4_openBehind_38 ?_
        refine e_al0 41 rfl dX4_openBehind_40 ?_
        refine e_getR 44 rfl dX4_openBehind_41 f_X4_29 (by assumption) (by assumption) ?_
        refine e_il5 46 rfl dX4_openBehind_44 ?_
        first | refine e_ialdv 47 rfl dX4_openBehind_46 (by assumption) (by assumption) (by first | rfl | simp only [pk_mul, nI_add]) (by omega) (by omega) (by first | assumption | (simp only [mN_sF, mK_sF, mL_sF, mF_sF, mB_sF, mA_sF, mJ_sF, mP_sF, mO_sF, mN_sB, mK_sB, mL_sB, mF_sB, mB_sB, mA_sB, mJ_sB, mP_sB, mO_sB, mN_sA, mK_sA, mL_sA, mF_sA, mB_sA, mA_sA, mJ_sA, mP_sA, mO_sA, mN_sJ, mK_sJ, mL_sJ, mF_sJ, mB_sJ, mA_sJ, mJ_sJ, mP_sJ, mO_sJ, mN_sP, mK_sP, mL_sP, mF_sP, mB_sP, mA_sP, mJ_sP, mP_sP, mO_sP, mN_sO, mK_sO, mL_sO, mF_sO, mB_sO, mA_sO, mJ_sO, mP_sO, mO_sO, up2, if_true, if_false, eq_self, ite_true, ite_false, reduceIte, Nat.add_left_cancel_iff, Nat.add_eq_left, Nat.left_eq_add, Nat.reduceEqDiff]; assumption) | (simp only [mN_sF, mK_sF, mL_sF, mF_sF, mB_sF, mA_sF, mJ_sF, mP_sF, mO_sF, mN_sB, mK_sB, mL_sB, mF_sB, mB_sB, mA_sB, mJ_sB, mP_sB, mO_sB, mN_sA, mK_sA, mL_sA, mF_sA, mB_sA, mA_sA, mJ_sA, mP_sA, mO_sA, mN_sJ, mK_sJ, mL_sJ, mF_sJ, mB_sJ, mA_sJ, mJ_sJ, mP_sJ, mO_sJ, mN_sP, mK_sP, mL_sP, mF_sP, mB_sP, mA_sP, mJ_sP, mP_sP, mO_sP, mN_sO, mK_sO, mL_sO, mF_sO, mB_sO, mA_sO, mJ_sO, mP_sO, mO_sO, up2, if_true, if_false, eq_self, ite_true, ite_false, reduceIte, Nat.add_left_cancel_iff, Nat.add_eq_left, Nat.left_eq_add, Nat.reduceEqDiff]; done)) ?_ | refine e_iald 47 rfl dX4_openBehind_46 (by assumption) (by assumption) (by first | rfl | simp only [pk_mul, nI_add]) (by omega) (by omega) ?_
        refine e_iorN 48 rfl dX4_openBehind_47 rfl rfl ?_
        refine e_is4 50 rfl dX4_openBehind_48 (by decide) rfl ?_
        refine next _ (or_lt (n := 9) hv u2) (fun q => ?_)
        rw [tb_or, hb q, u3 q]
        constructor
        · rintro (⟨i, i1, i2⟩ | r)
          · exact ⟨i, by omega, i2⟩
          · exact ⟨j, by omega, hz, r⟩
        · rintro ⟨i, i1, i2, i3⟩
          by_cases e : i = j
          · subst e; exact Or.inr i3
          · exact Or.inl ⟨i, by omega, i2, i3⟩
  refine Cl.of0 3 pn_X4 (Nat.le_of_ble_eq_true rfl) ⟨rfl, rfl⟩ rfl ?_
  refine e_il1 1 rfl dX4_openBehind_0 ?_
  refine e_al0 2 rfl dX4_openBehind_1 ?_
  refine e_getR 5 rfl dX4_openBehind_2 f_X4_32 (by assumption) (by assumption) ?_
  refine e_il2 6 rfl dX4_openBehind_5 ?_
  first | refine e_ialdv 7 rfl dX4_openBehind_6 (by assumption) (by assumption) (by first | rfl | simp only [pk_mul, nI_add]) (by omega) (by omega) (by first | assumption | (simp only [mN_sF, mK_sF, mL_sF, mF_sF, mB_sF, mA_sF, mJ_sF, mP_sF, mO_sF, mN_sB, mK_sB, mL_sB, mF_sB, mB_sB, mA_sB, mJ_sB, mP_sB, mO_sB, mN_sA, mK_sA, mL_sA, mF_sA, mB_sA, mA_sA, mJ_sA, mP_sA, mO_sA, mN_sJ, mK_sJ, mL_sJ, mF_sJ, mB_sJ, mA_sJ, mJ_sJ, mP_sJ, mO_sJ, mN_sP, mK_sP, mL_sP, mF_sP, mB_sP, mA_sP, mJ_sP, mP_sP, mO_sP, mN_sO, mK_sO, mL_sO, mF_sO, mB_sO, mA_sO, mJ_sO, mP_sO, mO_sO, up2, if_true, if_false, eq_self, ite_true, ite_false, reduceIte, Nat.add_left_cancel_iff, Nat.add_eq_left, Nat.left_eq_add, Nat.reduceEqDiff]; assumption) | (simp only [mN_sF, mK_sF, mL_sF, mF_sF, mB_sF, mA_sF, mJ_sF, mP_sF, mO_sF, mN_sB, mK_sB, mL_sB, mF_sB, mB_sB, mA_sB, mJ_sB, mP_sB, mO_sB, mN_sA, mK_sA, mL_sA, mF_sA, mB_sA, mA_sA, mJ_sA, mP_sA, mO_sA, mN_sJ, mK_sJ, mL_sJ, mF_sJ, mB_sJ, mA_sJ, mJ_sJ, mP_sJ, mO_sJ, mN_sP, mK_sP, mL_sP, mF_sP, mB_sP, mA_sP, mJ_sP, mP_sP, mO_sP, mN_sO, mK_sO, mL_sO, mF_sO, mB_sO, mA_sO, mJ_sO, mP_sO, mO_sO, up2, if_true, if_false, eq_self, ite_true, ite_false, reduceIte, Nat.add_left_cancel_iff, Nat.add_eq_left, Nat.left_eq_add, Nat.reduceEqDiff]; done)) ?_ | refine e_iald 7 rfl dX4_openBehind_6 (by assumption) (by assumption) (by first | rfl | simp only [pk_mul, nI_add]) (by omega) (by omega) ?_
  refine e_iandN 8 rfl dX4_openBehind_7 rfl rfl ?_
  refine e_is3 9 rfl dX4_openBehind_8 (by decide) rfl ?_
  refine e_iconst (nI 0) 10 rfl dX4_openBehind_9 ic_0 ?_
  refine e_is4 12 rfl dX4_openBehind_10 (by decide) rfl ?_
  refine e_iconst (nI 0) 13 rfl dX4_openBehind_12 ic_0 ?_
  refine e_is5 15 rfl dX4_openBehind_13 (by decide) rfl ?_
  exact loop 8 0 0 (by omega) (by decide) (fun q => by simp)
/-- the ending -/
def Se (μ : Mm) (s : Nat) (en : List Nat) : Prop := mF μ s 12 = nI en.length ∧ en.length ≤ 6 ∧ Hd (mB μ (s + 8)) en ∧ ∀ c ∈ en, c < 128
def madeL (en w : List Nat) : Bool := decide (0 < en.length) && decide (en.length < w.length) && decide (w.drop (w.length - en.length) = en)
theorem c_isMade {s a : Nat} {en w : List Nat} (hg : Sg μ s) (he : Se μ s en) (hw : Wd μ a) (hl : Wl μ a w) (k : K (some (.int (bI (madeL en w)))) μ) : Cl E M_X4_isMade [.ref s, .ref a] μ K := by
  obtain ⟨⟨gk, g1, g2, g3, g5, g6, g7, g9, g11⟩, k1, l1, k2, l2, k3, l3, k4, l4, k5, l5, k6, l6, k7, l7, k8, l8⟩ := hg
  obtain ⟨e12, e6, eH, e128⟩ := he
  obtain ⟨w3, wH, w20, w128⟩ := id hl
  have hk9 := hw.1
  refine Cl.of0 0 pn_X4 (Nat.le_of_ble_eq_true rfl) ⟨rfl, rfl⟩ rfl ?_
  refine e_al0 1 rfl dX4_isMade_0 ?_
  first | refine e_getIv 4 rfl dX4_isMade_1 f_X4_51 (by assumption) (by first | assumption | (simp only [mN_sF, mK_sF, mL_sF, mF_sF, mB_sF, mA_sF, mJ_sF, mP_sF, mO_sF, mN_sB, mK_sB, mL_sB, mF_sB, mB_sB, mA_sB, mJ_sB, mP_sB, mO_sB, mN_sA, mK_sA, mL_sA, mF_sA, mB_sA, mA_sA, mJ_sA, mP_sA, mO_sA, mN_sJ, mK_sJ, mL_sJ, mF_sJ, mB_sJ, mA_sJ, mJ_sJ, mP_sJ, mO_sJ, mN_sP, mK_sP, mL_sP, mF_sP, mB_sP, mA_sP, mJ_sP, mP_sP, mO_sP, mN_sO, mK_sO, mL_sO, mF_sO, mB_sO, mA_sO, mJ_sO, mP_sO, mO_sO, up2, if_true, if_false, eq_self, ite_true, ite_false, reduceIte, Nat.add_left_cancel_iff, Nat.add_eq_left, Nat.left_eq_add, Nat.reduceEqDiff]; assumption) | (simp only [mN_sF, mK_sF, mL_sF, mF_sF, mB_sF, mA_sF, mJ_sF, mP_sF, mO_sF, mN_sB, mK_sB, mL_sB, mF_sB, mB_sB, mA_sB, mJ_sB, mP_sB, mO_sB, mN_sA, mK_sA, mL_sA, mF_sA, mB_sA, mA_sA, mJ_sA, mP_sA, mO_sA, mN_sJ, mK_sJ, mL_sJ, mF_sJ, mB_sJ, mA_sJ, mJ_sJ, mP_sJ, mO_sJ, mN_sP, mK_sP, mL_sP, mF_sP, mB_sP, mA_sP, mJ_sP, mP_sP, mO_sP, mN_sO, mK_sO, mL_sO, mF_sO, mB_sO, mA_sO, mJ_sO, mP_sO, mO_sO, up2, if_true, if_false, eq_self, ite_true, ite_false, reduceIte, Nat.add_left_cancel_iff, Nat.add_eq_left, Nat.left_eq_add, Nat.reduceEqDiff]; done)) ?_ | refine e_getI 4 rfl dX4_isMade_1 f_X4_51 (by assumption) ?_
  first | refine e_if_leN 37 7 (by decide) rfl dX4_isMade_4 rfl (by omega) (fun h1 => ?_) (fun h1 => ?_) | refine e_if_le 37 7 (by decide) rfl dX4_isMade_4 (fun h1 => ?_) (fun h1 => ?_)
  · refine e_iconst (nI 0) 38 rfl dX4_isMade_37 ic_0 ?_
    refine e_zret dX4_isMade_38 rfl (by first | exact z0 | exact z1 | exact bI01 _ | assumption) ?_
    rw [← bI_f (b := madeL en w) (by simp [madeL, h1])]; exact k
  refine e_al1 8 rfl dX4_isMade_7 ?_
  first | refine e_getIv 11 rfl dX4_isMade_8 f_X4_58 (by assumption) (by first | assumption | (simp only [mN_sF, mK_sF, mL_sF, mF_sF, mB_sF, mA_sF, mJ_sF, mP_sF, mO_sF, mN_sB, mK_sB, mL_sB, mF_sB, mB_sB, mA_sB, mJ_sB, mP_sB, mO_sB, mN_sA, mK_sA, mL_sA, mF_sA, mB_sA, mA_sA, mJ_sA, mP_sA, mO_sA, mN_sJ, mK_sJ, mL_sJ, mF_sJ, mB_sJ, mA_sJ, mJ_sJ, mP_sJ, mO_sJ, mN_sP, mK_sP, mL_sP, mF_sP, mB_sP, mA_sP, mJ_sP, mP_sP, mO_sP, mN_sO, mK_sO, mL_sO, mF_sO, mB_sO, mA_sO, mJ_sO, mP_sO, mO_sO, up2, if_true, if_false, eq_self, ite_true, ite_false, reduceIte, Nat.add_left_cancel_iff, Nat.add_eq_left, Nat.left_eq_add, Nat.reduceEqDiff]; assumption) | (simp only [mN_sF, mK_sF, mL_sF, mF_sF, mB_sF, mA_sF, mJ_sF, mP_sF, mO_sF, mN_sB, mK_sB, mL_sB, mF_sB, mB_sB, mA_sB, mJ_sB, mP_sB, mO_sB, mN_sA, mK_sA, mL_sA, mF_sA, mB_sA, mA_sA, mJ_sA, mP_sA, mO_sA, mN_sJ, mK_sJ, mL_sJ, mF_sJ, mB_sJ, mA_sJ, mJ_sJ, mP_sJ, mO_sJ, mN_sP, mK_sP, mL_sP, mF_sP, mB_sP, mA_sP, mJ_sP, mP_sP, mO_sP, mN_sO, mK_sO, mL_sO, mF_sO, mB_sO, mA_sO, mJ_sO, mP_sO, mO_sO, up2, if_true, if_false, eq_self, ite_true, ite_false, reduceIte, Nat.add_left_cancel_iff, Nat.add_eq_left, Nat.left_eq_add, Nat.reduceEqDiff]; done)) ?_ | refine e_getI 11 rfl dX4_isMade_8 f_X4_58 (by assumption) ?_
  refine e_al0 12 rfl dX4_isMade_11 ?_
  first | refine e_getIv 15 rfl dX4_isMade_12 f_X4_51 (by assumption) (by first | assumption | (simp only [mN_sF, mK_sF, mL_sF, mF_sF, mB_sF, mA_sF, mJ_sF, mP_sF, mO_sF, mN_sB, mK_sB, mL_sB, mF_sB, mB_sB, mA_sB, mJ_sB, mP_sB, mO_sB, mN_sA, mK_sA, mL_sA, mF_sA, mB_sA, mA_sA, mJ_sA, mP_sA, mO_sA, mN_sJ, mK_sJ, mL_sJ, mF_sJ, mB_sJ, mA_sJ, mJ_sJ, mP_sJ, mO_sJ, mN_sP, mK_sP, mL_sP, mF_sP, mB_sP, mA_sP, mJ_sP, mP_sP, mO_sP, mN_sO, mK_sO, mL_sO, mF_sO, mB_sO, mA_sO, mJ_sO, mP_sO, mO_sO, up2, if_true, if_false, eq_self, ite_true, ite_false, reduceIte, Nat.add_left_cancel_iff, Nat.add_eq_left, Nat.left_eq_add, Nat.reduceEqDiff]; assumption) | (simp only [mN_sF, mK_sF, mL_sF, mF_sF, mB_sF, mA_sF, mJ_sF, mP_sF, mO_sF, mN_sB, mK_sB, mL_sB, mF_sB, mB_sB, mA_sB, mJ_sB, mP_sB, mO_sB, mN_sA, mK_sA, mL_sA, mF_sA, mB_sA, mA_sA, mJ_sA, mP_sA, mO_sA, mN_sJ, mK_sJ, mL_sJ, mF_sJ, mB_sJ, mA_sJ, mJ_sJ, mP_sJ, mO_sJ, mN_sP, mK_sP, mL_sP, mF_sP, mB_sP, mA_sP, mJ_sP, mP_sP, mO_sP, mN_sO, mK_sO, mL_sO, mF_sO, mB_sO, mA_sO, mJ_sO, mP_sO, mO_sO, up2, if_true, if_false, eq_self, ite_true, ite_false, reduceIte, Nat.add_left_cancel_iff, Nat.add_eq_left, Nat.left_eq_add, Nat.reduceEqDiff]; done)) ?_ | refine e_getI 15 rfl dX4_isMade_12 f_X4_51 (by assumption) ?_
  first | refine e_cmp_leN 37 18 (by decide) rfl dX4_isMade_15 rfl rfl (by omega) (by omega) (fun h2 => ?_) (fun h2 => ?_) | refine e_cmp_le 37 18 (by decide) rfl dX4_isMade_15 (fun h2 => ?_) (fun h2 => ?_)
  · refine e_iconst (nI 0) 38 rfl dX4_isMade_37 ic_0 ?_
    refine e_zret dX4_isMade_38 rfl (by first | exact z0 | exact z1 | exact bI01 _ | assumption) ?_
    rw [← bI_f (b := madeL en w) (by have : ¬ en.length < w.length := by omega
                                     simp [madeL, this])]; exact k
  refine e_al1 19 rfl dX4_isMade_18 ?_
  refine e_al0 20 rfl dX4_isMade_19 ?_
  refine e_getR 23 rfl dX4_isMade_20 f_X4_47 (by assumption) (by assumption) ?_
  refine e_al0 24 rfl dX4_isMade_23 ?_
  first | refine e_getIv 27 rfl dX4_isMade_24 f_X4_51 (by assumption) (by first | assumption | (simp only [mN_sF, mK_sF, mL_sF, mF_sF, mB_sF, mA_sF, mJ_sF, mP_sF, mO_sF, mN_sB, mK_sB, mL_sB, mF_sB, mB_sB, mA_sB, mJ_sB, mP_sB, mO_sB, mN_sA, mK_sA, mL_sA, mF_sA, mB_sA, mA_sA, mJ_sA, mP_sA, mO_sA, mN_sJ, mK_sJ, mL_sJ, mF_sJ, mB_sJ, mA_sJ, mJ_sJ, mP_sJ, mO_sJ, mN_sP, mK_sP, mL_sP, mF_sP, mB_sP, mA_sP, mJ_sP, mP_sP, mO_sP, mN_sO, mK_sO, mL_sO, mF_sO, mB_sO, mA_sO, mJ_sO, mP_sO, mO_sO, up2, if_true, if_false, eq_self, ite_true, ite_false, reduceIte, Nat.add_left_cancel_iff, Nat.add_eq_left, Nat.left_eq_add, Nat.reduceEqDiff]; assumption) | (simp only [mN_sF, mK_sF, mL_sF, mF_sF, mB_sF, mA_sF, mJ_sF, mP_sF, mO_sF, mN_sB, mK_sB, mL_sB, mF_sB, mB_sB, mA_sB, mJ_sB, mP_sB, mO_sB, mN_sA, mK_sA, mL_sA, mF_sA, mB_sA, mA_sA, mJ_sA, mP_sA, mO_sA, mN_sJ, mK_sJ, mL_sJ, mF_sJ, mB_sJ, mA_sJ, mJ_sJ, mP_sJ, mO_sJ, mN_sP, mK_sP, mL_sP, mF_sP, mB_sP, mA_sP, mJ_sP, mP_sP, mO_sP, mN_sO, mK_sO, mL_sO, mF_sO, mB_sO, mA_sO, mJ_sO, mP_sO, mO_sO, up2, if_true, if_false, eq_self, ite_true, ite_false, reduceIte, Nat.add_left_cancel_iff, Nat.add_eq_left, Nat.left_eq_add, Nat.reduceEqDiff]; done)) ?_ | refine e_getI 27 rfl dX4_isMade_24 f_X4_51 (by assumption) ?_
  refine e_invV0 [_, _] 30 rfl dX4_isMade_27 k_X4_63 mo_X8_endsWith rm_X4_isMade_X8_endsWith ⟨rfl, rfl⟩ rfl rfl (by assumption) (Nat.le_of_ble_eq_true rfl) ?_
  refine c_endsWith hw hl k8 l8 (by omega) eH e128 rfl (by omega) (decide (w.drop (w.length - en.length) = en)) (by rw [decide_eq_true_iff]; exact ⟨fun q => ⟨by omega, q⟩, fun q => q.2⟩) ?_
  first | refine e_if_eqB 37 33 (by decide) rfl dX4_isMade_30 rfl (fun h3 => ?_) (fun h3 => ?_) | refine e_if_eqN 37 33 (by decide) rfl dX4_isMade_30 rfl (by omega) (fun h3 => ?_) (fun h3 => ?_) | refine e_if_eq 37 33 (by decide) rfl dX4_isMade_30 (fun h3 => ?_) (fun h3 => ?_)
  · refine e_iconst (nI 0) 38 rfl dX4_isMade_37 ic_0 ?_
    refine e_zret dX4_isMade_38 rfl (by first | exact z0 | exact z1 | exact bI01 _ | assumption) ?_
    rw [← bI_f (b := madeL en w) (by unfold madeL; rw [h3]; simp)]; exact k
  · refine e_iconst (nI 1) 34 rfl dX4_isMade_33 ic_1 ?_
    refine e_goto 38 (by decide) dX4_isMade_34 ?_
    refine e_zret dX4_isMade_38 rfl (by first | exact z0 | exact z1 | exact bI01 _ | assumption) ?_
    rw [← bI_t (b := madeL en w) (by unfold madeL; rw [h3]; simp; omega)]; exact k
theorem c_makes {s a o : Nat} {en w g : List Nat} (hg : Sg μ s) (he : Se μ s en) (hw : Wd μ a) (hl : Wl μ a g) (ho : Wd μ o) (hol : Wl μ o w) (k : K (some (.int (bI (madeL en w && decide (g = w.take (w.length - en.length)))))) μ) : Cl E M_X4_makes [.ref s, .ref a, .ref o] μ K := by
  have gk := hg.1.1
  have ak := hw.1
  have ok := ho.1
  have w3 := hol.1
  have w20 := hol.2.2.1
  have e12 := he.1
  have e6 := he.2.1
  refine Cl.of0 0 pn_X4 (Nat.le_of_ble_eq_true rfl) ⟨rfl, rfl⟩ rfl ?_
  refine e_al0 1 rfl dX4_makes_0 ?_
  refine e_al2 2 rfl dX4_makes_1 ?_
  refine e_invV0 [_] 5 rfl dX4_makes_2 k_X4_67 mo_X4_isMade rm_X4_makes_X4_isMade ⟨rfl, rfl⟩ rfl rfl (by assumption) (Nat.le_of_ble_eq_true rfl) ?_
  refine c_isMade hg he ho hol ?_
  first | refine e_if_eqB 29 8 (by decide) rfl dX4_makes_5 rfl (fun h1 => ?_) (fun h1 => ?_) | refine e_if_eqN 29 8 (by decide) rfl dX4_makes_5 rfl (by omega) (fun h1 => ?_) (fun h1 => ?_) | refine e_if_eq 29 8 (by decide) rfl dX4_makes_5 (fun h1 => ?_) (fun h1 => ?_)
  · refine e_iconst (nI 0) 30 rfl dX4_makes_29 ic_0 ?_
    refine e_zret dX4_makes_30 rfl (by first | exact z0 | exact z1 | exact bI01 _ | assumption) ?_
    rw [← bI_f (b := madeL en w && decide (g = w.take (w.length - en.length))) (by rw [h1]; rfl)]; exact k
  have hlt : en.length < w.length := by unfold madeL at h1; simp at h1; omega
  refine e_al1 9 rfl dX4_makes_8 ?_
  refine e_al2 10 rfl dX4_makes_9 ?_
  refine e_al2 11 rfl dX4_makes_10 ?_
  first | refine e_getIv 14 rfl dX4_makes_11 f_X4_58 (by assumption) (by first | assumption | (simp only [mN_sF, mK_sF, mL_sF, mF_sF, mB_sF, mA_sF, mJ_sF, mP_sF, mO_sF, mN_sB, mK_sB, mL_sB, mF_sB, mB_sB, mA_sB, mJ_sB, mP_sB, mO_sB, mN_sA, mK_sA, mL_sA, mF_sA, mB_sA, mA_sA, mJ_sA, mP_sA, mO_sA, mN_sJ, mK_sJ, mL_sJ, mF_sJ, mB_sJ, mA_sJ, mJ_sJ, mP_sJ, mO_sJ, mN_sP, mK_sP, mL_sP, mF_sP, mB_sP, mA_sP, mJ_sP, mP_sP, mO_sP, mN_sO, mK_sO, mL_sO, mF_sO, mB_sO, mA_sO, mJ_sO, mP_sO, mO_sO, up2, if_true, if_false, eq_self, ite_true, ite_false, reduceIte, Nat.add_left_cancel_iff, Nat.add_eq_left, Nat.left_eq_add, Nat.reduceEqDiff]; assumption) | (simp only [mN_sF, mK_sF, mL_sF, mF_sF, mB_sF, mA_sF, mJ_sF, mP_sF, mO_sF, mN_sB, mK_sB, mL_sB, mF_sB, mB_sB, mA_sB, mJ_sB, mP_sB, mO_sB, mN_sA, mK_sA, mL_sA, mF_sA, mB_sA, mA_sA, mJ_sA, mP_sA, mO_sA, mN_sJ, mK_sJ, mL_sJ, mF_sJ, mB_sJ, mA_sJ, mJ_sJ, mP_sJ, mO_sJ, mN_sP, mK_sP, mL_sP, mF_sP, mB_sP, mA_sP, mJ_sP, mP_sP, mO_sP, mN_sO, mK_sO, mL_sO, mF_sO, mB_sO, mA_sO, mJ_sO, mP_sO, mO_sO, up2, if_true, if_false, eq_self, ite_true, ite_false, reduceIte, Nat.add_left_cancel_iff, Nat.add_eq_left, Nat.left_eq_add, Nat.reduceEqDiff]; done)) ?_ | refine e_getI 14 rfl dX4_makes_11 f_X4_58 (by assumption) ?_
  refine e_al0 15 rfl dX4_makes_14 ?_
  first | refine e_getIv 18 rfl dX4_makes_15 f_X4_51 (by assumption) (by first | assumption | (simp only [mN_sF, mK_sF, mL_sF, mF_sF, mB_sF, mA_sF, mJ_sF, mP_sF, mO_sF, mN_sB, mK_sB, mL_sB, mF_sB, mB_sB, mA_sB, mJ_sB, mP_sB, mO_sB, mN_sA, mK_sA, mL_sA, mF_sA, mB_sA, mA_sA, mJ_sA, mP_sA, mO_sA, mN_sJ, mK_sJ, mL_sJ, mF_sJ, mB_sJ, mA_sJ, mJ_sJ, mP_sJ, mO_sJ, mN_sP, mK_sP, mL_sP, mF_sP, mB_sP, mA_sP, mJ_sP, mP_sP, mO_sP, mN_sO, mK_sO, mL_sO, mF_sO, mB_sO, mA_sO, mJ_sO, mP_sO, mO_sO, up2, if_true, if_false, eq_self, ite_true, ite_false, reduceIte, Nat.add_left_cancel_iff, Nat.add_eq_left, Nat.left_eq_add, Nat.reduceEqDiff]; assumption) | (simp only [mN_sF, mK_sF, mL_sF, mF_sF, mB_sF, mA_sF, mJ_sF, mP_sF, mO_sF, mN_sB, mK_sB, mL_sB, mF_sB, mB_sB, mA_sB, mJ_sB, mP_sB, mO_sB, mN_sA, mK_sA, mL_sA, mF_sA, mB_sA, mA_sA, mJ_sA, mP_sA, mO_sA, mN_sJ, mK_sJ, mL_sJ, mF_sJ, mB_sJ, mA_sJ, mJ_sJ, mP_sJ, mO_sJ, mN_sP, mK_sP, mL_sP, mF_sP, mB_sP, mA_sP, mJ_sP, mP_sP, mO_sP, mN_sO, mK_sO, mL_sO, mF_sO, mB_sO, mA_sO, mJ_sO, mP_sO, mO_sO, up2, if_true, if_false, eq_self, ite_true, ite_false, reduceIte, Nat.add_left_cancel_iff, Nat.add_eq_left, Nat.left_eq_add, Nat.reduceEqDiff]; done)) ?_ | refine e_getI 18 rfl dX4_makes_15 f_X4_51 (by assumption) ?_
  first | refine e_isubN 19 rfl dX4_makes_18 rfl rfl (by omega) ?_ | refine e_isub 19 rfl dX4_makes_18 ?_
  refine e_invV0 [_, _] 22 rfl dX4_makes_19 k_X4_71 mo_X8_isBeginning rm_X4_makes_X8_isBeginning ⟨rfl, rfl⟩ rfl rfl (by assumption) (Nat.le_of_ble_eq_true rfl) ?_
  refine c_isBeginning hw ho hl hol (by omega) (decide (g = w.take (w.length - en.length))) (by rw [decide_eq_true_iff]; exact ⟨fun q => ⟨by rw [q, List.length_take]; omega, q⟩, fun q => q.2⟩) ?_
  first | refine e_if_eqB 29 25 (by decide) rfl dX4_makes_22 rfl (fun h2 => ?_) (fun h2 => ?_) | refine e_if_eqN 29 25 (by decide) rfl dX4_makes_22 rfl (by omega) (fun h2 => ?_) (fun h2 => ?_) | refine e_if_eq 29 25 (by decide) rfl dX4_makes_22 (fun h2 => ?_) (fun h2 => ?_)
  · refine e_iconst (nI 0) 30 rfl dX4_makes_29 ic_0 ?_
    refine e_zret dX4_makes_30 rfl (by first | exact z0 | exact z1 | exact bI01 _ | assumption) ?_
    rw [← bI_f (b := madeL en w && decide (g = w.take (w.length - en.length))) (by rw [h2]; simp)]; exact k
  · refine e_iconst (nI 1) 26 rfl dX4_makes_25 ic_1 ?_
    refine e_goto 30 (by decide) dX4_makes_26 ?_
    refine e_zret dX4_makes_30 rfl (by first | exact z0 | exact z1 | exact bI01 _ | assumption) ?_
    rw [← bI_t (b := madeL en w && decide (g = w.take (w.length - en.length))) (by rw [h1, h2]; rfl)]; exact k
end SHAPE
