/-! NameDesk$Reader: weigh -/
section WEIGH2
variable {E : En} {μ : Mm} {K : Option Value → Mm → Prop}
/-- a shape, as the reader sees it: fm = what may take the first word -/
def Vs (μ : Mm) (s fm : Nat) (sl : List Slot0) (en : List Nat) : Prop := Sg μ s ∧ Ss μ s sl ∧ mF μ s 4 = nI fm ∧ Om sl fm ∧ Sk2 μ s sl ∧ Se μ s en
theorem Ss.fx {S : Nat → Prop} {μ' : Mm} {s : Nat} {sl : List Slot0} (h : Ss μ s sl) (f : Fx S μ μ') (h0 : mF μ' s 0 = mF μ s 0) (h1 : ¬ S (s + 1)) (h2 : ¬ S (s + 2)) (h3 : ¬ S (s + 3)) : Ss μ' s sl := by
  unfold Ss
  rw [h0, (f.2.2.2 (s + 1) h1).2.2.1, (f.2.2.2 (s + 2) h2).2.1, (f.2.2.2 (s + 3) h3).2.1]
  exact h
theorem Vs.fx {S : Nat → Prop} {μ' : Mm} {s fm : Nat} {sl : List Slot0} {en : List Nat} (h : Vs μ s fm sl en) (f : Fx S μ μ') (hS : ∀ q, s ≤ q → q ≤ s + 8 → ¬ S q) : Vs μ' s fm sl en := by
  have f0 := f.2.2.2 s (hS s (by omega) (by omega))
  have f4 := f.2.2.2 (s + 4) (hS _ (by omega) (by omega))
  have f5 := f.2.2.2 (s + 5) (hS _ (by omega) (by omega))
  have f8 := f.2.2.2 (s + 8) (hS _ (by omega) (by omega))
  refine ⟨h.1.fx f (hS s (by omega) (by omega)), h.2.1.fx f (by rw [f0.1]) (hS _ (by omega) (by omega)) (hS _ (by omega) (by omega)) (hS _ (by omega) (by omega)), by rw [f0.1]; exact h.2.2.1, h.2.2.2.1, ?_, ?_⟩
  · unfold Sk2; rw [f4.2.2.1, f5.2.2.1]; exact h.2.2.2.2.1
  · unfold Se; rw [f0.1, f8.2.1]; exact h.2.2.2.2.2
theorem Nf.fx {S : Nat → Prop} {μ' : Mm} {a : Nat} {fs : List (List Nat)} (h : Nf μ a fs) (f : Fx S μ μ') (h0 : mF μ' a 1 = mF μ a 1) (hS : ∀ q, a + 6 ≤ q → q < a + 30 → ¬ S q) : Nf μ' a fs := by
  refine ⟨by rw [h0]; exact h.1, h.2.1, fun i w hi => (h.2.2 i w hi).fx f ?_ ?_⟩
  · have := (List.getElem?_eq_some_iff.mp hi).1; have := h.2.1; exact hS _ (by omega) (by omega)
  · have := (List.getElem?_eq_some_iff.mp hi).1; have := h.2.1; exact hS _ (by omega) (by omega)
/-- the costs of a name's words -/
def costW (es : List Ent) (ld : Nat) (en : List Nat) (fs : List (List Nat)) (w k : Nat) : Nat := cst es ld en (fs.getD w []) k
theorem cst_le (es : List Ent) (ld : Nat) (en w : List Nat) (k : Nat) : cst es ld en w k ≤ 5 ∨ cst es ld en w k = 1000 := by
  unfold cst
  repeat' split
  all_goals omega
theorem costW_le (es : List Ent) (ld : Nat) (en : List Nat) (fs : List (List Nat)) (w k : Nat) : costW es ld en fs w k < 1000 → costW es ld en fs w k ≤ 5 := by
  intro h
  rcases cst_le es ld en (fs.getD w []) k with q | q
  · exact q
  · unfold costW at h; omega
def Cs (μ : Mm) (r n : Nat) (C : Nat → Nat → Nat) : Prop := ∀ w, w < n → ∀ k, k < 7 → mA μ (r + 11 + w) k = nI (C w k)
/-- what weigh lays -/
def Rst (μ : Mm) (r s n : Nat) (sl : List Slot0) (C : Nat → Nat → Nat) : Prop := Rg μ r ∧ mP μ r 0 = some s ∧ mF μ r 1 = nI n ∧ n ≤ 8 ∧ Cs μ r n C ∧ ∀ w, w < n → Lrow μ r sl C n w
def weS (r : Nat) : Nat → Prop := fun q => r + 11 ≤ q ∧ q < r + 28
def weR (r : Nat) : Nat → Prop := fun q => q = r ∨ weS r q
theorem Ss.h7 {s : Nat} {sl : List Slot0} (h : Ss μ s sl) : ∀ x ∈ sl, x.1 < 7 := fun x hx => by
  obtain ⟨i, hi⟩ := List.getElem?_of_mem hx
  exact (h.2.2 i x hi).2.2.2.1
theorem c_weigh {r a s b ld fm : Nat} {es : List Ent} {fs : List (List Nat)} {sl : List Slot0} {en : List Nat} (hr : Rg μ r) (ha : Ng μ a) (hal : mF μ a 0 = nI ld) (hld : ld < 6) (haf : Nf μ a fs) (hne : 0 < fs.length) (hs : Vs μ s fm sl en) (hb : Bk μ b) (hc : Bc μ b es) (d1 : a + 30 ≤ r ∨ r + 31 ≤ a) (d2 : s + 9 ≤ r ∨ r + 31 ≤ s) (d3 : b + 244 ≤ r ∨ r + 31 ≤ b)
    (k : ∀ μ', Fx (weR r) μ μ' → (∀ f, f ≠ 0 → mP μ' r f = mP μ r f) → (∀ f, f ≠ 1 → mF μ' r f = mF μ r f) → Rst μ' r s fs.length sl (costW es ld en fs) → K none μ') : Cl E M_X3_weigh [.ref r, .ref a, .ref s, .ref b] μ K := by
  have hf8 := haf.2.1
  have haf1 := haf.1
  have rk := hr.1.1
  have ak := ha.1.1
  have hs8 := hs.2.1.2.1
  have h7 := hs.2.1.h7
  let n := fs.length
  let C := costW es ld en fs
  let μ0 := sF (sP μ r 0 (some s)) r 1 (nI n)
  have hX0 : Fx (fun q => q = r) μ μ0 := ((Fx.rf (S := fun q => q = r)).sP rfl _ _).sF rfl _ _
  have hP0 : ∀ f, f ≠ 0 → mP μ0 r f = mP μ r f := fun f hf => by show up2 _ r 0 _ r f = _; rw [up2_k hf]
  have hQ0 : ∀ f, f ≠ 1 → mF μ0 r f = mF μ r f := fun f hf => by show up2 _ r 1 _ r f = _; rw [up2_k hf]; rfl
  have hr0 : Rg μ0 r := by
    obtain ⟨⟨gk, g2, g3, g7, gx⟩, gw⟩ := hr
    refine ⟨⟨gk, by rw [hP0 2 (by decide)]; exact g2, by rw [hP0 3 (by decide)]; exact g3, by rw [hP0 7 (by decide)]; exact g7, gx⟩, gw⟩
  have hp0 : mP μ0 r 0 = some s := by show up2 _ r 0 _ r 0 = _; rw [up2_s]
  have hn0 : mF μ0 r 1 = nI n := by show up2 _ r 1 _ r 1 = _; rw [up2_s]
  have keep : ∀ μ1, Fr (weS r) μ0 μ1 → (Rg μ1 r ∧ mP μ1 r 0 = some s ∧ mF μ1 r 1 = nI n) ∧ (Ng μ1 a ∧ mF μ1 a 0 = nI ld ∧ Nf μ1 a fs) ∧ Vs μ1 s fm sl en ∧ Bk μ1 b ∧ Bc μ1 b es := by
    intro μ1 hF
    have hX : Fx (weR r) μ μ1 := (hX0.mono (fun q h => Or.inl h)).trans (hF.fx.mono (fun q h => Or.inr h))
    have nr : ¬ weS r r := by unfold weS; omega
    have na : ∀ q, a ≤ q → q < a + 30 → ¬ weR r q := fun q h1 h2 => by unfold weR weS; omega
    refine ⟨⟨hr0.fr hF, by rw [hF.2.2.2.1]; exact hp0, by rw [(hF.2.2.2.2.2 r nr).1]; exact hn0⟩, ⟨ha.fx hX (fun q h => na q h.1 h.2), by rw [(hX.2.2.2 a (na a (by omega) (by omega))).1]; exact hal, haf.fx hX (by rw [(hX.2.2.2 a (na a (by omega) (by omega))).1]) (fun q h1 h2 => na q (by omega) h2)⟩, hs.fx hX (fun q h1 h2 => by unfold weR weS; omega), hb.fx hX (fun q h1 h2 => by unfold weR weS; omega), hc.fx hX (fun q h1 h2 => by unfold weR weS; omega)⟩
  have fin : ∀ μ1, Fr (weS r) μ0 μ1 → Cs μ1 r n C → (∀ w, w < n → Lrow μ1 r sl C n w) → K none μ1 := by
    intro μ1 hF hC hL
    obtain ⟨⟨e1, e2, e3⟩, _⟩ := keep μ1 hF
    have nr : ¬ weS r r := by unfold weS; omega
    refine k μ1 ((hX0.mono (fun q h => Or.inl h)).trans (hF.fx.mono (fun q h => Or.inr h))) (fun f hf => by rw [hF.2.2.2.1]; exact hP0 f hf) (fun f hf => by rw [(hF.2.2.2.2.2 r nr).1]; exact hQ0 f hf) ⟨e1, e2, e3, hf8, hC, hL⟩
  have hCb : ∀ w k, C w k ≤ 5 ∨ C w k = 1000 := fun w k => cst_le _ _ _ _ _
  have hn8 : n ≤ 8 := hf8
  have hn0' : 0 < n := hne
  -- the table of least costs
  have row : ∀ w, w < n → (∀ μ2 y5 y6, Fr (weS r) μ0 μ2 → Cs μ2 r n C → (∀ w', w ≤ w' → w' < n → Lrow μ2 r sl C n w') → Ev E M_X3_weigh 0 0 150 [some (.ref r), some (.ref a), some (.ref s), some (.ref b), some (.int (nI w)), y5, y6] [] μ2 K) → ∀ fu j, j + fu = sl.length → ∀ μ1 y6, Fr (weS r) μ0 μ1 → Cs μ1 r n C → (∀ w', w < w' → w' < n → Lrow μ1 r sl C n w') → (∀ i, i < j → ∃ v, mA μ1 (r + 20 + w) i = nI v ∧ Mo (Rs sl C (n - w - 1) w i) v) → Ev E M_X3_weigh 0 0 75 [some (.ref r), some (.ref a), some (.ref s), some (.ref b), some (.int (nI w)), some (.int (nI j)), y6] [] μ1 K := by
    intro w hw kont fu
    induction fu with
    | zero =>
      intro j hj μ1 y6 hF hC hL hR
      obtain ⟨⟨e1, e2, e3⟩, ⟨e4, e5, e6⟩, e7, e8, e9⟩ := keep μ1 hF
      have rk1 := e1.1.1
      have sk1 := e7.1.1.1
      have s01 := e7.2.1.1
      refine e_il5 77 rfl dX3_weigh_75 ?_
      refine e_al0 78 rfl dX3_weigh_77 ?_
      refine e_getR 81 rfl dX3_weigh_78 f_X3_12 (by assumption) (by assumption) ?_
      first | refine e_getIv 84 rfl dX3_weigh_81 f_X3_64 (by assumption) (by first | assumption | (simp only [mN_sF, mK_sF, mL_sF, mF_sF, mB_sF, mA_sF, mJ_sF, mP_sF, mO_sF, mN_sB, mK_sB, mL_sB, mF_sB, mB_sB, mA_sB, mJ_sB, mP_sB, mO_sB, mN_sA, mK_sA, mL_sA, mF_sA, mB_sA, mA_sA, mJ_sA, mP_sA, mO_sA, mN_sJ, mK_sJ, mL_sJ, mF_sJ, mB_sJ, mA_sJ, mJ_sJ, mP_sJ, mO_sJ, mN_sP, mK_sP, mL_sP, mF_sP, mB_sP, mA_sP, mJ_sP, mP_sP, mO_sP, mN_sO, mK_sO, mL_sO, mF_sO, mB_sO, mA_sO, mJ_sO, mP_sO, mO_sO, up2, if_true, if_false, eq_self, ite_true, ite_false, reduceIte, Nat.add_left_cancel_iff, Nat.add_eq_left, Nat.left_eq_add, Nat.reduceEqDiff]; assumption) | (simp only [mN_sF, mK_sF, mL_sF, mF_sF, mB_sF, mA_sF, mJ_sF, mP_sF, mO_sF, mN_sB, mK_sB, mL_sB, mF_sB, mB_sB, mA_sB, mJ_sB, mP_sB, mO_sB, mN_sA, mK_sA, mL_sA, mF_sA, mB_sA, mA_sA, mJ_sA, mP_sA, mO_sA, mN_sJ, mK_sJ, mL_sJ, mF_sJ, mB_sJ, mA_sJ, mJ_sJ, mP_sJ, mO_sJ, mN_sP, mK_sP, mL_sP, mF_sP, mB_sP, mA_sP, mJ_sP, mP_sP, mO_sP, mN_sO, mK_sO, mL_sO, mF_sO, mB_sO, mA_sO, mJ_sO, mP_sO, mO_sO, up2, if_true, if_false, eq_self, ite_true, ite_false, reduceIte, Nat.add_left_cancel_iff, Nat.add_eq_left, Nat.left_eq_add, Nat.reduceEqDiff]; done)) ?_ | refine e_getI 84 rfl dX3_weigh_81 f_X3_64 (by assumption) ?_
      first | refine e_cmp_geN 150 87 (by decide) rfl dX3_weigh_84 rfl rfl (by omega) (by omega) (fun z1 => ?_) (fun z1 => ?_) | refine e_cmp_ge 150 87 (by decide) rfl dX3_weigh_84 (fun z1 => ?_) (fun z1 => ?_)
      rotate_left
      · omega
      refine kont μ1 _ _ hF hC (fun w' q1 q2 => ?_)
      by_cases e : w' = w
      · subst e; exact fun i hi => hR i (by omega)
      · exact hL w' (by omega) q2
    | succ fu ih =>
      intro j hj μ1 y6 hF hC hL hR
      obtain ⟨⟨e1, e2, e3⟩, ⟨e4, e5, e6⟩, e7, e8, e9⟩ := keep μ1 hF
      obtain ⟨⟨gk, g2, g3, g7, k10, l10, k19, l19, k28, l28, k29, l29, k30, l30⟩, gw⟩ := id e1
      obtain ⟨⟨⟨sk, q1, q2, q3, q5, q6, q7, q9, q11⟩, m1, m1l, m2, m2l, m3, m3l, m4, m4l, m5⟩, s01, s41, s4o, s42, s43⟩ := id e7
      have hjl : j < sl.length := by omega
      have hsj := List.getElem?_eq_getElem hjl
      obtain ⟨x1, x2, x3, x4, x5⟩ := s01.2.2 j _ hsj
      have s00 := s01.1
      obtain ⟨v, v1, v2, v3⟩ := s42.1 j hjl
      have ev : v = bhm sl j := msk_of v2 v3
      obtain ⟨⟨w1, w2, w3⟩, w4, w5, w6⟩ := gw w (by omega)
      have hcw := hC w hw _ x4
      refine e_il5 77 rfl dX3_weigh_75 ?_
      refine e_al0 78 rfl dX3_weigh_77 ?_
      refine e_getR 81 rfl dX3_weigh_78 f_X3_12 (by assumption) (by assumption) ?_
      first | refine e_getIv 84 rfl dX3_weigh_81 f_X3_64 (by assumption) (by first | assumption | (simp only [mN_sF, mK_sF, mL_sF, mF_sF, mB_sF, mA_sF, mJ_sF, mP_sF, mO_sF, mN_sB, mK_sB, mL_sB, mF_sB, mB_sB, mA_sB, mJ_sB, mP_sB, mO_sB, mN_sA, mK_sA, mL_sA, mF_sA, mB_sA, mA_sA, mJ_sA, mP_sA, mO_sA, mN_sJ, mK_sJ, mL_sJ, mF_sJ, mB_sJ, mA_sJ, mJ_sJ, mP_sJ, mO_sJ, mN_sP, mK_sP, mL_sP, mF_sP, mB_sP, mA_sP, mJ_sP, mP_sP, mO_sP, mN_sO, mK_sO, mL_sO, mF_sO, mB_sO, mA_sO, mJ_sO, mP_sO, mO_sO, up2, if_true, if_false, eq_self, ite_true, ite_false, reduceIte, Nat.add_left_cancel_iff, Nat.add_eq_left, Nat.left_eq_add, Nat.reduceEqDiff]; assumption) | (simp only [mN_sF, mK_sF, mL_sF, mF_sF, mB_sF, mA_sF, mJ_sF, mP_sF, mO_sF, mN_sB, mK_sB, mL_sB, mF_sB, mB_sB, mA_sB, mJ_sB, mP_sB, mO_sB, mN_sA, mK_sA, mL_sA, mF_sA, mB_sA, mA_sA, mJ_sA, mP_sA, mO_sA, mN_sJ, mK_sJ, mL_sJ, mF_sJ, mB_sJ, mA_sJ, mJ_sJ, mP_sJ, mO_sJ, mN_sP, mK_sP, mL_sP, mF_sP, mB_sP, mA_sP, mJ_sP, mP_sP, mO_sP, mN_sO, mK_sO, mL_sO, mF_sO, mB_sO, mA_sO, mJ_sO, mP_sO, mO_sO, up2, if_true, if_false, eq_self, ite_true, ite_false, reduceIte, Nat.add_left_cancel_iff, Nat.add_eq_left, Nat.left_eq_add, Nat.reduceEqDiff]; done)) ?_ | refine e_getI 84 rfl dX3_weigh_81 f_X3_64 (by assumption) ?_
      first | refine e_cmp_geN 150 87 (by decide) rfl dX3_weigh_84 rfl rfl (by omega) (by omega) (fun z1 => ?_) (fun z1 => ?_) | refine e_cmp_ge 150 87 (by decide) rfl dX3_weigh_84 (fun z1 => ?_) (fun z1 => ?_)
      · omega
      refine e_al0 88 rfl dX3_weigh_87 ?_
      refine e_getR 91 rfl dX3_weigh_88 f_X3_24 (by assumption) (by assumption) ?_
      refine e_il4 93 rfl dX3_weigh_91 ?_
      refine e_aald 94 rfl dX3_weigh_93 (by assumption) (by decide) (by assumption) (by first | rfl | simp only [pk_mul, nI_add]) (by omega) (by omega) (by assumption) ?_
      refine e_al0 95 rfl dX3_weigh_94 ?_
      refine e_getR 98 rfl dX3_weigh_95 f_X3_12 (by assumption) (by assumption) ?_
      refine e_getR 101 rfl dX3_weigh_98 f_X3_67 (by assumption) (by assumption) ?_
      refine e_il5 103 rfl dX3_weigh_101 ?_
      first | refine e_ialdv 104 rfl dX3_weigh_103 (by assumption) (by assumption) (by first | rfl | simp only [pk_mul, nI_add]) (by omega) (by omega) (by first | assumption | (simp only [mN_sF, mK_sF, mL_sF, mF_sF, mB_sF, mA_sF, mJ_sF, mP_sF, mO_sF, mN_sB, mK_sB, mL_sB, mF_sB, mB_sB, mA_sB, mJ_sB, mP_sB, mO_sB, mN_sA, mK_sA, mL_sA, mF_sA, mB_sA, mA_sA, mJ_sA, mP_sA, mO_sA, mN_sJ, mK_sJ, mL_sJ, mF_sJ, mB_sJ, mA_sJ, mJ_sJ, mP_sJ, mO_sJ, mN_sP, mK_sP, mL_sP, mF_sP, mB_sP, mA_sP, mJ_sP, mP_sP, mO_sP, mN_sO, mK_sO, mL_sO, mF_sO, mB_sO, mA_sO, mJ_sO, mP_sO, mO_sO, up2, if_true, if_false, eq_self, ite_true, ite_false, reduceIte, Nat.add_left_cancel_iff, Nat.add_eq_left, Nat.left_eq_add, Nat.reduceEqDiff]; assumption) | (simp only [mN_sF, mK_sF, mL_sF, mF_sF, mB_sF, mA_sF, mJ_sF, mP_sF, mO_sF, mN_sB, mK_sB, mL_sB, mF_sB, mB_sB, mA_sB, mJ_sB, mP_sB, mO_sB, mN_sA, mK_sA, mL_sA, mF_sA, mB_sA, mA_sA, mJ_sA, mP_sA, mO_sA, mN_sJ, mK_sJ, mL_sJ, mF_sJ, mB_sJ, mA_sJ, mJ_sJ, mP_sJ, mO_sJ, mN_sP, mK_sP, mL_sP, mF_sP, mB_sP, mA_sP, mJ_sP, mP_sP, mO_sP, mN_sO, mK_sO, mL_sO, mF_sO, mB_sO, mA_sO, mJ_sO, mP_sO, mO_sO, up2, if_true, if_false, eq_self, ite_true, ite_false, reduceIte, Nat.add_left_cancel_iff, Nat.add_eq_left, Nat.left_eq_add, Nat.reduceEqDiff]; done)) ?_ | refine e_iald 104 rfl dX3_weigh_103 (by assumption) (by assumption) (by first | rfl | simp only [pk_mul, nI_add]) (by omega) (by omega) ?_
      first | refine e_ialdv 105 rfl dX3_weigh_104 (by assumption) (by assumption) (by first | rfl | simp only [pk_mul, nI_add]) (by omega) (by omega) (by first | assumption | (simp only [mN_sF, mK_sF, mL_sF, mF_sF, mB_sF, mA_sF, mJ_sF, mP_sF, mO_sF, mN_sB, mK_sB, mL_sB, mF_sB, mB_sB, mA_sB, mJ_sB, mP_sB, mO_sB, mN_sA, mK_sA, mL_sA, mF_sA, mB_sA, mA_sA, mJ_sA, mP_sA, mO_sA, mN_sJ, mK_sJ, mL_sJ, mF_sJ, mB_sJ, mA_sJ, mJ_sJ, mP_sJ, mO_sJ, mN_sP, mK_sP, mL_sP, mF_sP, mB_sP, mA_sP, mJ_sP, mP_sP, mO_sP, mN_sO, mK_sO, mL_sO, mF_sO, mB_sO, mA_sO, mJ_sO, mP_sO, mO_sO, up2, if_true, if_false, eq_self, ite_true, ite_false, reduceIte, Nat.add_left_cancel_iff, Nat.add_eq_left, Nat.left_eq_add, Nat.reduceEqDiff]; assumption) | (simp only [mN_sF, mK_sF, mL_sF, mF_sF, mB_sF, mA_sF, mJ_sF, mP_sF, mO_sF, mN_sB, mK_sB, mL_sB, mF_sB, mB_sB, mA_sB, mJ_sB, mP_sB, mO_sB, mN_sA, mK_sA, mL_sA, mF_sA, mB_sA, mA_sA, mJ_sA, mP_sA, mO_sA, mN_sJ, mK_sJ, mL_sJ, mF_sJ, mB_sJ, mA_sJ, mJ_sJ, mP_sJ, mO_sJ, mN_sP, mK_sP, mL_sP, mF_sP, mB_sP, mA_sP, mJ_sP, mP_sP, mO_sP, mN_sO, mK_sO, mL_sO, mF_sO, mB_sO, mA_sO, mJ_sO, mP_sO, mO_sO, up2, if_true, if_false, eq_self, ite_true, ite_false, reduceIte, Nat.add_left_cancel_iff, Nat.add_eq_left, Nat.left_eq_add, Nat.reduceEqDiff]; done)) ?_ | refine e_iald 105 rfl dX3_weigh_104 (by assumption) (by assumption) (by first | rfl | simp only [pk_mul, nI_add]) (by omega) (by omega) ?_
      refine e_al0 106 rfl dX3_weigh_105 ?_
      refine e_il4 108 rfl dX3_weigh_106 ?_
      refine e_iconst (nI 1) 109 rfl dX3_weigh_108 ic_1 ?_
      first | refine e_iaddN 110 rfl dX3_weigh_109 rfl rfl ?_ | refine e_iadd 110 rfl dX3_weigh_109 ?_
      refine e_al0 111 rfl dX3_weigh_110 ?_
      refine e_getR 114 rfl dX3_weigh_111 f_X3_12 (by assumption) (by assumption) ?_
      refine e_getR 117 rfl dX3_weigh_114 f_X3_70 (by assumption) (by assumption) ?_
      refine e_il5 119 rfl dX3_weigh_117 ?_
      first | refine e_ialdv 120 rfl dX3_weigh_119 (by assumption) (by assumption) (by first | rfl | simp only [pk_mul, nI_add]) (by omega) (by omega) (by first | assumption | (simp only [mN_sF, mK_sF, mL_sF, mF_sF, mB_sF, mA_sF, mJ_sF, mP_sF, mO_sF, mN_sB, mK_sB, mL_sB, mF_sB, mB_sB, mA_sB, mJ_sB, mP_sB, mO_sB, mN_sA, mK_sA, mL_sA, mF_sA, mB_sA, mA_sA, mJ_sA, mP_sA, mO_sA, mN_sJ, mK_sJ, mL_sJ, mF_sJ, mB_sJ, mA_sJ, mJ_sJ, mP_sJ, mO_sJ, mN_sP, mK_sP, mL_sP, mF_sP, mB_sP, mA_sP, mJ_sP, mP_sP, mO_sP, mN_sO, mK_sO, mL_sO, mF_sO, mB_sO, mA_sO, mJ_sO, mP_sO, mO_sO, up2, if_true, if_false, eq_self, ite_true, ite_false, reduceIte, Nat.add_left_cancel_iff, Nat.add_eq_left, Nat.left_eq_add, Nat.reduceEqDiff]; assumption) | (simp only [mN_sF, mK_sF, mL_sF, mF_sF, mB_sF, mA_sF, mJ_sF, mP_sF, mO_sF, mN_sB, mK_sB, mL_sB, mF_sB, mB_sB, mA_sB, mJ_sB, mP_sB, mO_sB, mN_sA, mK_sA, mL_sA, mF_sA, mB_sA, mA_sA, mJ_sA, mP_sA, mO_sA, mN_sJ, mK_sJ, mL_sJ, mF_sJ, mB_sJ, mA_sJ, mJ_sJ, mP_sJ, mO_sJ, mN_sP, mK_sP, mL_sP, mF_sP, mB_sP, mA_sP, mJ_sP, mP_sP, mO_sP, mN_sO, mK_sO, mL_sO, mF_sO, mB_sO, mA_sO, mJ_sO, mP_sO, mO_sO, up2, if_true, if_false, eq_self, ite_true, ite_false, reduceIte, Nat.add_left_cancel_iff, Nat.add_eq_left, Nat.left_eq_add, Nat.reduceEqDiff]; done)) ?_ | refine e_iald 120 rfl dX3_weigh_119 (by assumption) (by assumption) (by first | rfl | simp only [pk_mul, nI_add]) (by omega) (by omega) ?_
      refine e_invV0 [_, _] 123 rfl dX3_weigh_120 k_X3_73 mo_X3_leastFrom rm_X3_weigh_X3_leastFrom ⟨rfl, rfl⟩ rfl rfl (by assumption) (Nat.le_of_ble_eq_true rfl) ?_
      refine c_leastFrom (sl := sl) (C := C) e1 e3 hn8 (by omega) hs8 h7 (by rw [ev]; exact Om_bhm hs8 j) (fun q => hL (w + 1) (by omega) q) (fun u hu => ?_)
      have hul := hu.le
      have hcl : C w sl[j].1 ≤ 1000 := by rcases hCb w sl[j].1 with q | q <;> omega
      first | refine e_iaddN 124 rfl dX3_weigh_123 rfl rfl ?_ | refine e_iadd 124 rfl dX3_weigh_123 ?_
      refine e_is6 126 rfl dX3_weigh_124 (by decide) rfl ?_
      refine e_al0 127 rfl dX3_weigh_126 ?_
      refine e_getR 130 rfl dX3_weigh_127 f_X3_27 (by assumption) (by assumption) ?_
      refine e_il4 132 rfl dX3_weigh_130 ?_
      refine e_aald 133 rfl dX3_weigh_132 (by assumption) (by decide) (by assumption) (by first | rfl | simp only [pk_mul, nI_add]) (by omega) (by omega) (by assumption) ?_
      refine e_il5 135 rfl dX3_weigh_133 ?_
      refine e_il6 137 rfl dX3_weigh_135 ?_
      refine e_sipush (nI 1000) 140 rfl dX3_weigh_137 sc_1000 ?_
      first | refine e_minN 143 rfl dX3_weigh_140 k_X3_47 (Nat.le_of_ble_eq_true rfl) (Nat.le_of_ble_eq_true rfl) rfl rfl (by omega) (by omega) ?_ | refine e_min 143 rfl dX3_weigh_140 k_X3_47 (Nat.le_of_ble_eq_true rfl) (Nat.le_of_ble_eq_true rfl) ?_
      refine e_iast 144 rfl dX3_weigh_143 (by assumption) (by assumption) (by first | rfl | simp only [pk_mul, nI_add]) (by omega) (by omega) ?_
      refine e_ii5 (nI (_ + 1)) 147 rfl dX3_weigh_144 (ii1 _) rfl ?_
      refine e_goto 75 (by decide) dX3_weigh_147 ?_
      have hF2 := hF.sA (show weS r (r + 20 + w) by unfold weS; omega) j (nI (min (C w sl[j].1 + u) 1000))
      refine ih (j + 1) (by omega) _ _ hF2 (fun w' a1 k' a2 => ?_) (fun w' a1 a2 i hi => ?_) (fun i hi => ?_)
      · show up2 _ (r + 20 + w) _ _ (r + 11 + w') k' = _
        rw [up2_a (by omega)]; exact hC w' a1 k' a2
      · obtain ⟨v', v4, v5⟩ := hL w' a1 a2 i hi
        refine ⟨v', ?_, v5⟩
        show up2 _ (r + 20 + w) _ _ (r + 20 + w') i = _
        rw [up2_a (by omega)]; exact v4
      · by_cases e : i = j
        · refine ⟨min (C w sl[j].1 + u) 1000, ?_, ?_⟩
          · show up2 _ (r + 20 + w) _ _ (r + 20 + w) i = _
            rw [e, up2_s]
          · rw [e]
            rw [show n - (w + 1) = n - w - 1 by omega, ev] at hu
            refine (hu.add (hCb w sl[j].1) (fun d hd => ?_)).congr (fun d => ?_)
            · have := Rn_le (fun w k => costW_le es ld en fs w k) _ _ _ _ hd; omega
            · unfold Rs
              constructor
              · rintro ⟨c1, c2⟩; exact ⟨_, hsj, c1, c2⟩
              · rintro ⟨x, c0, c1, c2⟩; rw [hsj] at c0; cases c0; exact ⟨c1, c2⟩
        · obtain ⟨v', v4, v5⟩ := hR i (by omega)
          refine ⟨v', ?_, v5⟩
          show up2 _ (r + 20 + w) _ _ (r + 20 + w) i = _
          rw [up2_k e]; exact v4
  have loop2 : ∀ w, w < n → ∀ μ1 y5 y6, Fr (weS r) μ0 μ1 → Cs μ1 r n C → (∀ w', w < w' → w' < n → Lrow μ1 r sl C n w') → Ev E M_X3_weigh 0 0 67 [some (.ref r), some (.ref a), some (.ref s), some (.ref b), some (.int (nI w)), y5, y6] [] μ1 K := by
    intro w
    induction w with
    | zero =>
      intro hw μ1 y5 y6 hF hC hL
      refine e_il4 69 rfl dX3_weigh_67 ?_
      first | refine e_if_ltN 156 72 (by decide) rfl dX3_weigh_69 rfl (by omega) ?_ | refine e_if_lt 156 72 (by decide) rfl dX3_weigh_69 (fun h => ?_) (fun h => ?_)
      refine e_iconst (nI 0) 73 rfl dX3_weigh_72 ic_0 ?_
      refine e_is5 75 rfl dX3_weigh_73 (by decide) rfl ?_
      refine row 0 hw (fun μ2 y5 y6 hF2 hC2 hL2 => ?_) sl.length 0 (by omega) μ1 _ hF hC hL (fun i hi => by omega)
      refine e_ii4 (-1) 153 rfl dX3_weigh_150 (by decide) rfl ?_
      refine e_goto 67 (by decide) dX3_weigh_153 ?_
      refine e_il4 69 rfl dX3_weigh_67 ?_
      refine e_if_lt 156 72 (by decide) rfl dX3_weigh_69 (fun z1 => ?_) (fun z1 => ?_)
      · refine e_ret dX3_weigh_156 rfl ?_
        exact fin μ2 hF2 hC2 (fun w' a1 => hL2 w' (by omega) a1)
      · exact absurd (show (-1 : Int32) < 0 by decide) z1
    | succ w ih =>
      intro hw μ1 y5 y6 hF hC hL
      refine e_il4 69 rfl dX3_weigh_67 ?_
      first | refine e_if_ltN 156 72 (by decide) rfl dX3_weigh_69 rfl (by omega) ?_ | refine e_if_lt 156 72 (by decide) rfl dX3_weigh_69 (fun h => ?_) (fun h => ?_)
      refine e_iconst (nI 0) 73 rfl dX3_weigh_72 ic_0 ?_
      refine e_is5 75 rfl dX3_weigh_73 (by decide) rfl ?_
      refine row (w + 1) hw (fun μ2 y5 y6 hF2 hC2 hL2 => ?_) sl.length 0 (by omega) μ1 _ hF hC hL (fun i hi => by omega)
      refine e_ii4 (nI _) 153 rfl dX3_weigh_150 (iim1 _) rfl ?_
      refine e_goto 67 (by decide) dX3_weigh_153 ?_
      exact ih (by omega) μ2 _ _ hF2 hC2 (fun w' a1 a2 => hL2 w' (by omega) a2)
  -- the costs
  have loop1 : ∀ fu i, i + fu = n → ∀ μ1 y5 y6, Fr (weS r) μ0 μ1 → Cs μ1 r i C → Ev E M_X3_weigh 0 0 21 [some (.ref r), some (.ref a), some (.ref s), some (.ref b), some (.int (nI i)), y5, y6] [] μ1 K := by
    intro fu
    induction fu with
    | zero =>
      intro i hi μ1 y5 y6 hF hC
      obtain ⟨⟨e1, e2, e3⟩, ⟨e4, e5, e6⟩, e7, e8, e9⟩ := keep μ1 hF
      have rk1 := e1.1.1
      have ei : i = n := by omega
      subst ei
      refine e_il4 23 rfl dX3_weigh_21 ?_
      refine e_al0 24 rfl dX3_weigh_23 ?_
      first | refine e_getIv 27 rfl dX3_weigh_24 f_X3_18 (by assumption) (by first | assumption | (simp only [mN_sF, mK_sF, mL_sF, mF_sF, mB_sF, mA_sF, mJ_sF, mP_sF, mO_sF, mN_sB, mK_sB, mL_sB, mF_sB, mB_sB, mA_sB, mJ_sB, mP_sB, mO_sB, mN_sA, mK_sA, mL_sA, mF_sA, mB_sA, mA_sA, mJ_sA, mP_sA, mO_sA, mN_sJ, mK_sJ, mL_sJ, mF_sJ, mB_sJ, mA_sJ, mJ_sJ, mP_sJ, mO_sJ, mN_sP, mK_sP, mL_sP, mF_sP, mB_sP, mA_sP, mJ_sP, mP_sP, mO_sP, mN_sO, mK_sO, mL_sO, mF_sO, mB_sO, mA_sO, mJ_sO, mP_sO, mO_sO, up2, if_true, if_false, eq_self, ite_true, ite_false, reduceIte, Nat.add_left_cancel_iff, Nat.add_eq_left, Nat.left_eq_add, Nat.reduceEqDiff]; assumption) | (simp only [mN_sF, mK_sF, mL_sF, mF_sF, mB_sF, mA_sF, mJ_sF, mP_sF, mO_sF, mN_sB, mK_sB, mL_sB, mF_sB, mB_sB, mA_sB, mJ_sB, mP_sB, mO_sB, mN_sA, mK_sA, mL_sA, mF_sA, mB_sA, mA_sA, mJ_sA, mP_sA, mO_sA, mN_sJ, mK_sJ, mL_sJ, mF_sJ, mB_sJ, mA_sJ, mJ_sJ, mP_sJ, mO_sJ, mN_sP, mK_sP, mL_sP, mF_sP, mB_sP, mA_sP, mJ_sP, mP_sP, mO_sP, mN_sO, mK_sO, mL_sO, mF_sO, mB_sO, mA_sO, mJ_sO, mP_sO, mO_sO, up2, if_true, if_false, eq_self, ite_true, ite_false, reduceIte, Nat.add_left_cancel_iff, Nat.add_eq_left, Nat.left_eq_add, Nat.reduceEqDiff]; done)) ?_ | refine e_getI 27 rfl dX3_weigh_24 f_X3_18 (by assumption) ?_
      first | refine e_cmp_geN 59 30 (by decide) rfl dX3_weigh_27 rfl rfl (by omega) (by omega) (fun z1 => ?_) (fun z1 => ?_) | refine e_cmp_ge 59 30 (by decide) rfl dX3_weigh_27 (fun z1 => ?_) (fun z1 => ?_)
      rotate_left
      · omega
      refine e_al0 60 rfl dX3_weigh_59 ?_
      first | refine e_getIv 63 rfl dX3_weigh_60 f_X3_18 (by assumption) (by first | assumption | (simp only [mN_sF, mK_sF, mL_sF, mF_sF, mB_sF, mA_sF, mJ_sF, mP_sF, mO_sF, mN_sB, mK_sB, mL_sB, mF_sB, mB_sB, mA_sB, mJ_sB, mP_sB, mO_sB, mN_sA, mK_sA, mL_sA, mF_sA, mB_sA, mA_sA, mJ_sA, mP_sA, mO_sA, mN_sJ, mK_sJ, mL_sJ, mF_sJ, mB_sJ, mA_sJ, mJ_sJ, mP_sJ, mO_sJ, mN_sP, mK_sP, mL_sP, mF_sP, mB_sP, mA_sP, mJ_sP, mP_sP, mO_sP, mN_sO, mK_sO, mL_sO, mF_sO, mB_sO, mA_sO, mJ_sO, mP_sO, mO_sO, up2, if_true, if_false, eq_self, ite_true, ite_false, reduceIte, Nat.add_left_cancel_iff, Nat.add_eq_left, Nat.left_eq_add, Nat.reduceEqDiff]; assumption) | (simp only [mN_sF, mK_sF, mL_sF, mF_sF, mB_sF, mA_sF, mJ_sF, mP_sF, mO_sF, mN_sB, mK_sB, mL_sB, mF_sB, mB_sB, mA_sB, mJ_sB, mP_sB, mO_sB, mN_sA, mK_sA, mL_sA, mF_sA, mB_sA, mA_sA, mJ_sA, mP_sA, mO_sA, mN_sJ, mK_sJ, mL_sJ, mF_sJ, mB_sJ, mA_sJ, mJ_sJ, mP_sJ, mO_sJ, mN_sP, mK_sP, mL_sP, mF_sP, mB_sP, mA_sP, mJ_sP, mP_sP, mO_sP, mN_sO, mK_sO, mL_sO, mF_sO, mB_sO, mA_sO, mJ_sO, mP_sO, mO_sO, up2, if_true, if_false, eq_self, ite_true, ite_false, reduceIte, Nat.add_left_cancel_iff, Nat.add_eq_left, Nat.left_eq_add, Nat.reduceEqDiff]; done)) ?_ | refine e_getI 63 rfl dX3_weigh_60 f_X3_18 (by assumption) ?_
      refine e_iconst (nI 1) 64 rfl dX3_weigh_63 ic_1 ?_
      first | refine e_isubN 65 rfl dX3_weigh_64 rfl rfl (by omega) ?_ | refine e_isub 65 rfl dX3_weigh_64 ?_
      refine e_is4 67 rfl dX3_weigh_65 (by decide) rfl ?_
      exact loop2 (n - 1) (by omega) μ1 _ _ hF hC (fun w' a1 a2 => by omega)
    | succ fu ih =>
      intro i hi μ1 y5 y6 hF hC
      obtain ⟨⟨e1, e2, e3⟩, ⟨e4, e5, e6⟩, e7, e8, e9⟩ := keep μ1 hF
      obtain ⟨⟨gk, g2, g3, g7, k10, l10, k19, l19, k28, l28, k29, l29, k30, l30⟩, gw⟩ := id e1
      obtain ⟨⟨ak1, p2, p5, p6, p9, n1, n1l, n2, n2l, n3, n3l⟩, nl, nw⟩ := id e4
      obtain ⟨⟨w1, w2, w3⟩, w4, w5, w6⟩ := gw i (by omega)
      obtain ⟨u1, u2⟩ := nw i (by omega)
      have hil : i < fs.length := by show i < n; omega
      have hfi := List.getElem?_eq_getElem hil
      have hwl := e6.2.2 i _ hfi
      refine e_il4 23 rfl dX3_weigh_21 ?_
      refine e_al0 24 rfl dX3_weigh_23 ?_
      first | refine e_getIv 27 rfl dX3_weigh_24 f_X3_18 (by assumption) (by first | assumption | (simp only [mN_sF, mK_sF, mL_sF, mF_sF, mB_sF, mA_sF, mJ_sF, mP_sF, mO_sF, mN_sB, mK_sB, mL_sB, mF_sB, mB_sB, mA_sB, mJ_sB, mP_sB, mO_sB, mN_sA, mK_sA, mL_sA, mF_sA, mB_sA, mA_sA, mJ_sA, mP_sA, mO_sA, mN_sJ, mK_sJ, mL_sJ, mF_sJ, mB_sJ, mA_sJ, mJ_sJ, mP_sJ, mO_sJ, mN_sP, mK_sP, mL_sP, mF_sP, mB_sP, mA_sP, mJ_sP, mP_sP, mO_sP, mN_sO, mK_sO, mL_sO, mF_sO, mB_sO, mA_sO, mJ_sO, mP_sO, mO_sO, up2, if_true, if_false, eq_self, ite_true, ite_false, reduceIte, Nat.add_left_cancel_iff, Nat.add_eq_left, Nat.left_eq_add, Nat.reduceEqDiff]; assumption) | (simp only [mN_sF, mK_sF, mL_sF, mF_sF, mB_sF, mA_sF, mJ_sF, mP_sF, mO_sF, mN_sB, mK_sB, mL_sB, mF_sB, mB_sB, mA_sB, mJ_sB, mP_sB, mO_sB, mN_sA, mK_sA, mL_sA, mF_sA, mB_sA, mA_sA, mJ_sA, mP_sA, mO_sA, mN_sJ, mK_sJ, mL_sJ, mF_sJ, mB_sJ, mA_sJ, mJ_sJ, mP_sJ, mO_sJ, mN_sP, mK_sP, mL_sP, mF_sP, mB_sP, mA_sP, mJ_sP, mP_sP, mO_sP, mN_sO, mK_sO, mL_sO, mF_sO, mB_sO, mA_sO, mJ_sO, mP_sO, mO_sO, up2, if_true, if_false, eq_self, ite_true, ite_false, reduceIte, Nat.add_left_cancel_iff, Nat.add_eq_left, Nat.left_eq_add, Nat.reduceEqDiff]; done)) ?_ | refine e_getI 27 rfl dX3_weigh_24 f_X3_18 (by assumption) ?_
      first | refine e_cmp_geN 59 30 (by decide) rfl dX3_weigh_27 rfl rfl (by omega) (by omega) (fun z1 => ?_) (fun z1 => ?_) | refine e_cmp_ge 59 30 (by decide) rfl dX3_weigh_27 (fun z1 => ?_) (fun z1 => ?_)
      · omega
      refine e_al0 31 rfl dX3_weigh_30 ?_
      refine e_al1 32 rfl dX3_weigh_31 ?_
      refine e_getR 35 rfl dX3_weigh_32 f_X3_53 (by assumption) (by assumption) ?_
      refine e_il4 37 rfl dX3_weigh_35 ?_
      refine e_aald 38 rfl dX3_weigh_37 (by assumption) (by decide) (by assumption) (by first | rfl | simp only [pk_mul, nI_add]) (by omega) (by omega) (by assumption) ?_
      refine e_al1 39 rfl dX3_weigh_38 ?_
      first | refine e_getIv 42 rfl dX3_weigh_39 f_X3_57 (by assumption) (by first | assumption | (simp only [mN_sF, mK_sF, mL_sF, mF_sF, mB_sF, mA_sF, mJ_sF, mP_sF, mO_sF, mN_sB, mK_sB, mL_sB, mF_sB, mB_sB, mA_sB, mJ_sB, mP_sB, mO_sB, mN_sA, mK_sA, mL_sA, mF_sA, mB_sA, mA_sA, mJ_sA, mP_sA, mO_sA, mN_sJ, mK_sJ, mL_sJ, mF_sJ, mB_sJ, mA_sJ, mJ_sJ, mP_sJ, mO_sJ, mN_sP, mK_sP, mL_sP, mF_sP, mB_sP, mA_sP, mJ_sP, mP_sP, mO_sP, mN_sO, mK_sO, mL_sO, mF_sO, mB_sO, mA_sO, mJ_sO, mP_sO, mO_sO, up2, if_true, if_false, eq_self, ite_true, ite_false, reduceIte, Nat.add_left_cancel_iff, Nat.add_eq_left, Nat.left_eq_add, Nat.reduceEqDiff]; assumption) | (simp only [mN_sF, mK_sF, mL_sF, mF_sF, mB_sF, mA_sF, mJ_sF, mP_sF, mO_sF, mN_sB, mK_sB, mL_sB, mF_sB, mB_sB, mA_sB, mJ_sB, mP_sB, mO_sB, mN_sA, mK_sA, mL_sA, mF_sA, mB_sA, mA_sA, mJ_sA, mP_sA, mO_sA, mN_sJ, mK_sJ, mL_sJ, mF_sJ, mB_sJ, mA_sJ, mJ_sJ, mP_sJ, mO_sJ, mN_sP, mK_sP, mL_sP, mF_sP, mB_sP, mA_sP, mJ_sP, mP_sP, mO_sP, mN_sO, mK_sO, mL_sO, mF_sO, mB_sO, mA_sO, mJ_sO, mP_sO, mO_sO, up2, if_true, if_false, eq_self, ite_true, ite_false, reduceIte, Nat.add_left_cancel_iff, Nat.add_eq_left, Nat.left_eq_add, Nat.reduceEqDiff]; done)) ?_ | refine e_getI 42 rfl dX3_weigh_39 f_X3_57 (by assumption) ?_
      refine e_al3 43 rfl dX3_weigh_42 ?_
      refine e_al0 44 rfl dX3_weigh_43 ?_
      refine e_getR 47 rfl dX3_weigh_44 f_X3_24 (by assumption) (by assumption) ?_
      refine e_il4 49 rfl dX3_weigh_47 ?_
      refine e_aald 50 rfl dX3_weigh_49 (by assumption) (by decide) (by assumption) (by first | rfl | simp only [pk_mul, nI_add]) (by omega) (by omega) (by assumption) ?_
      refine e_invV0 [_, _, _, _] 53 rfl dX3_weigh_50 k_X3_60 mo_X3_weighWord rm_X3_weigh_X3_weighWord ⟨rfl, rfl⟩ rfl rfl (by assumption) (Nat.le_of_ble_eq_true rfl) ?_
      refine c_weighWord gk e2 e7.1 e7.2.2.2.2.2 u2 hwl e8 e9 hld w2 w3 (by omega) (fun μ2 hF2 hc2 => ?_)
      have hF3 : Fr (weS r) μ0 μ2 := hF.trans (hF2.mono (fun q h => by unfold weS; omega))
      refine e_ii4 (nI (_ + 1)) 56 rfl dX3_weigh_53 (ii1 _) rfl ?_
      refine e_goto 21 (by decide) dX3_weigh_56 ?_
      refine ih (i + 1) (by omega) μ2 _ _ hF3 (fun w' a1 k' a2 => ?_)
      by_cases e : w' = i
      · subst e
        rw [hc2 k' a2]
        show nI _ = nI (cst es ld en (fs.getD w' []) k')
        rw [List.getD_eq_getElem?_getD, hfi]; rfl
      · rw [(hF2.2.2.2.2.2 (r + 11 + w') (by omega)).2.2.1]
        exact hC w' (by omega) k' a2
  refine Cl.of0 3 pn_X3 (Nat.le_of_ble_eq_true rfl) ⟨rfl, rfl⟩ rfl ?_
  refine e_al0 1 rfl dX3_weigh_0 ?_
  refine e_al2 2 rfl dX3_weigh_1 ?_
  refine e_putR 5 rfl dX3_weigh_2 f_X3_12 (by assumption) rfl rfl (fun h => by cases h) ?_
  refine e_al0 6 rfl dX3_weigh_5 ?_
  refine e_al1 7 rfl dX3_weigh_6 ?_
  first | refine e_getIv 10 rfl dX3_weigh_7 f_X3_44 (by assumption) (by first | assumption | (simp only [mN_sF, mK_sF, mL_sF, mF_sF, mB_sF, mA_sF, mJ_sF, mP_sF, mO_sF, mN_sB, mK_sB, mL_sB, mF_sB, mB_sB, mA_sB, mJ_sB, mP_sB, mO_sB, mN_sA, mK_sA, mL_sA, mF_sA, mB_sA, mA_sA, mJ_sA, mP_sA, mO_sA, mN_sJ, mK_sJ, mL_sJ, mF_sJ, mB_sJ, mA_sJ, mJ_sJ, mP_sJ, mO_sJ, mN_sP, mK_sP, mL_sP, mF_sP, mB_sP, mA_sP, mJ_sP, mP_sP, mO_sP, mN_sO, mK_sO, mL_sO, mF_sO, mB_sO, mA_sO, mJ_sO, mP_sO, mO_sO, up2, if_true, if_false, eq_self, ite_true, ite_false, reduceIte, Nat.add_left_cancel_iff, Nat.add_eq_left, Nat.left_eq_add, Nat.reduceEqDiff]; assumption) | (simp only [mN_sF, mK_sF, mL_sF, mF_sF, mB_sF, mA_sF, mJ_sF, mP_sF, mO_sF, mN_sB, mK_sB, mL_sB, mF_sB, mB_sB, mA_sB, mJ_sB, mP_sB, mO_sB, mN_sA, mK_sA, mL_sA, mF_sA, mB_sA, mA_sA, mJ_sA, mP_sA, mO_sA, mN_sJ, mK_sJ, mL_sJ, mF_sJ, mB_sJ, mA_sJ, mJ_sJ, mP_sJ, mO_sJ, mN_sP, mK_sP, mL_sP, mF_sP, mB_sP, mA_sP, mJ_sP, mP_sP, mO_sP, mN_sO, mK_sO, mL_sO, mF_sO, mB_sO, mA_sO, mJ_sO, mP_sO, mO_sO, up2, if_true, if_false, eq_self, ite_true, ite_false, reduceIte, Nat.add_left_cancel_iff, Nat.add_eq_left, Nat.left_eq_add, Nat.reduceEqDiff]; done)) ?_ | refine e_getI 10 rfl dX3_weigh_7 f_X3_44 (by assumption) ?_
  refine e_bipush (nI 8) 12 rfl dX3_weigh_10 bc_8 ?_
  first | refine e_minN 15 rfl dX3_weigh_12 k_X3_47 (Nat.le_of_ble_eq_true rfl) (Nat.le_of_ble_eq_true rfl) rfl rfl (by omega) (by omega) ?_ | refine e_min 15 rfl dX3_weigh_12 k_X3_47 (Nat.le_of_ble_eq_true rfl) (Nat.le_of_ble_eq_true rfl) ?_
  refine e_putI 18 rfl dX3_weigh_15 f_X3_18 (by assumption) ?_
  refine e_iconst (nI 0) 19 rfl dX3_weigh_18 ic_0 ?_
  refine e_is4 21 rfl dX3_weigh_19 (by decide) rfl ?_
  rw [show min fs.length 8 = n from Nat.min_eq_left hf8]
  exact loop1 n 0 (by omega) μ0 _ _ Fr.rf (fun w' a1 => by omega)
end WEIGH2
