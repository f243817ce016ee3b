/-! NameDesk$Reader: readFirst -/
section FIRST
variable {E : En} {μ : Mm} {K : Option Value → Mm → Prop}
theorem find_none {α : Type} {p : α → Bool} {g : Nat → List α} : ∀ n, (∀ i, i < n → (g i).find? p = none) → ((List.range n).flatMap g).find? p = none := by
  intro n
  induction n with
  | zero => intro _; rfl
  | succ n ih => intro h; rw [List.range_succ, List.flatMap_append, List.find?_append, ih (fun i hi => h i (by omega))]; simpa using h n (by omega)
theorem find_at {α : Type} {p : α → Bool} {g : Nat → List α} {k : Nat} {x : α} (hx : (g k).find? p = some x) : ∀ n, k < n → (∀ i, i < k → (g i).find? p = none) → ((List.range n).flatMap g).find? p = some x := by
  intro n
  induction n with
  | zero => intro h; omega
  | succ n ih =>
    intro h hn
    rw [List.range_succ, List.flatMap_append, List.find?_append]
    by_cases e : k = n
    · subst e; rw [find_none k hn]; simpa using hx
    · rw [ih (by omega) hn]; rfl
/-- the first of the readings with the least cost -/
noncomputable def fnd (sl : List Slot0) (C : Nat → Nat → Nat) (f w c m o L : Nat) : Option (Nat × Nat) := (AR sl C f w c m o).find? (fun x => decide (x.1 = L))
theorem fnd_step {sl : List Slot0} {C : Nat → Nat → Nat} {f w c m o k left : Nat} (hb : ∀ k, C w k ≤ 5 ∨ C w k = 1000) (hl : Mo (Rn sl C (f + 1) w o) left) (hlt : left < 1000) (hk : k < 7) {v : Nat} (hv : Mo (Rn sl C f (w + 1) (stp sl o k)) v) (he : C w k + v = left) (hno : ∀ k', k' < k → ∀ v, Mo (Rn sl C f (w + 1) (stp sl o k')) v → C w k' + v ≠ left) (hM : ∀ k', ∃ v, Mo (Rn sl C f (w + 1) (stp sl o k')) v) :
    fnd sl C (f + 1) w c m o (c + left) = fnd sl C f (w + 1) (c + C w k) (m * 8 + k) (stp sl o k) (c + C w k + v) ∧ (∃ x, fnd sl C f (w + 1) (c + C w k) (m * 8 + k) (stp sl o k) (c + C w k + v) = some x) ∧ v < 1000 ∧ C w k < 1000 := by
  have hc : C w k < 1000 := by omega
  have hv1 : v < 1000 := by omega
  have hrv : Rn sl C f (w + 1) (stp sl o k) v := by
    rcases hv with q | q
    · omega
    · exact q.2.1
  have hll : ∀ d, Rn sl C (f + 1) w o d → left ≤ d := by
    rcases hl with q | q
    · omega
    · exact q.2.2
  have hex : ∃ x, fnd sl C f (w + 1) (c + C w k) (m * 8 + k) (stp sl o k) (c + C w k + v) = some x := by
    obtain ⟨m', hm⟩ := Rn_AR f (w + 1) (c + C w k) (m * 8 + k) _ v hrv
    cases q : fnd sl C f (w + 1) (c + C w k) (m * 8 + k) (stp sl o k) (c + C w k + v) with
    | some x => exact ⟨x, rfl⟩
    | none =>
      unfold fnd at q
      rw [List.find?_eq_none] at q
      exact absurd (decide_eq_true rfl) (q _ hm)
  refine ⟨?_, hex, hv1, hc⟩
  obtain ⟨x, hx⟩ := hex
  rw [hx]
  show ((List.range 7).flatMap _).find? _ = _
  refine find_at (k := k) ?_ 7 hk (fun k' hk' => ?_)
  · simp only [if_pos hc]
    rw [show c + left = c + C w k + v by omega]
    exact hx
  · by_cases c' : C w k' < 1000
    · simp only [if_pos c']
      rw [List.find?_eq_none]
      intro y hy hd
      obtain ⟨d, e1, e2⟩ := AR_mem _ _ _ _ _ _ hy
      have e3 := of_decide_eq_true hd
      obtain ⟨v', hv'⟩ := hM k'
      have n1 := hno k' hk' v' hv'
      have n2 : v' ≤ d := by
        rcases hv' with q | q
        · exact absurd e2 (q.2 d)
        · exact q.2.2 d e2
      have n3 : Rn sl C f (w + 1) (stp sl o k') v' := by
        rcases hv' with q | q
        · exact absurd e2 (q.2 d)
        · exact q.2.1
      have := hll (C w k' + v') ⟨k', by omega, c', v', rfl, n3⟩
      omega
    · simp only [if_neg c']
      rfl
theorem fnd_ex {sl : List Slot0} {C : Nat → Nat → Nat} {f w o left : Nat} (hl : Mo (Rn sl C (f + 1) w o) left) (hlt : left < 1000) (hM : ∀ k', ∃ v, Mo (Rn sl C f (w + 1) (stp sl o k')) v) : ∃ k v, k < 7 ∧ Mo (Rn sl C f (w + 1) (stp sl o k)) v ∧ C w k + v = left := by
  rcases hl with q | ⟨q1, q2, q3⟩
  · omega
  · obtain ⟨k, hk, hc, d, e, r⟩ := q2
    obtain ⟨v, hv⟩ := hM k
    refine ⟨k, v, hk, hv, ?_⟩
    rcases hv with z | ⟨y1, y2, z3⟩
    · exact absurd r (z.2 d)
    · have := z3 d r
      have := q3 _ ⟨k, hk, hc, v, rfl, y2⟩
      omega
theorem Mo_ex {P : Nat → Prop} (h : ∀ d, P d → d ≤ 900) : ∃ v, Mo P v := by
  by_cases c : ∃ d, P d
  · obtain ⟨d, hd⟩ := c
    obtain ⟨i, i1, i2⟩ := ex_min d hd
    exact ⟨i, Or.inr ⟨h i i1, i1, i2⟩⟩
  · exact ⟨1000, Or.inl ⟨rfl, fun d q => c ⟨d, q⟩⟩⟩
/-- the kind of word j, of n -/
def dg (n m j : Nat) : Nat := m / 8 ^ (n - 1 - j) % 8
theorem dg_old {w m k j : Nat} (hk : k < 8) (hj : j < w) : dg (w + 1) (m * 8 + k) j = dg w m j := by
  unfold dg
  rw [show w + 1 - 1 - j = (w - 1 - j) + 1 by omega, Nat.pow_succ, Nat.mul_comm (8 ^ (w - 1 - j)) 8, ← Nat.div_div_eq_div_mul]
  congr 2
  omega
theorem dg_new {w m k : Nat} (hk : k < 8) : dg (w + 1) (m * 8 + k) w = k := by
  unfold dg
  rw [show w + 1 - 1 - w = 0 by omega, Nat.pow_zero, Nat.div_one]
  omega
theorem c_readFirst {r s n u fm : Nat} {sl : List Slot0} {en : List Nat} {C : Nat → Nat → Nat} (hr : Rst μ r s n sl C) (hs : Vs μ s fm sl en) (hCb : ∀ w k, C w k ≤ 5 ∨ C w k = 1000) (hku : mK μ u = 13) (hlu : mL μ u = 8) (d1 : u < r ∨ r + 31 ≤ u) (d2 : u < s ∨ s + 9 ≤ u)
    (kf : (∀ d, ¬ Rn sl C n 0 fm d) → K (some (.int (nI 0))) μ)
    (kt : ∀ μ' L m, Fr (fun q => q = u) μ μ' → Mo (Rn sl C n 0 fm) L → L < 1000 → fnd sl C n 0 0 0 fm L = some (L, m) → (∀ j, j < n → mA μ' u j = nI (dg n m j)) → K (some (.int (nI 1))) μ') : Cl E M_X3_readFirst [.ref r, .ref u] μ K := by
  obtain ⟨hg, hp, hn, hn8, hC, hL⟩ := id hr
  have hs8 := hs.2.1.2.1
  have h7 := hs.2.1.h7
  have hfm := hs.2.2.1
  have hom := hs.2.2.2.1
  have rk := hg.1.1
  have sk := hs.1.1.1
  have hC5 : ∀ w k, C w k < 1000 → C w k ≤ 5 := fun w k h => by rcases hCb w k with q | q <;> omega
  have hM : ∀ f w o, f ≤ 8 → ∃ v, Mo (Rn sl C f w o) v := fun f w o hf => Mo_ex (fun d hd => by have := Rn_le hC5 _ _ _ _ hd; omega)
  refine Cl.of0 5 pn_X3 (Nat.le_of_ble_eq_true rfl) ⟨rfl, rfl⟩ rfl ?_
  refine e_al0 1 rfl dX3_readFirst_0 ?_
  refine e_getR 4 rfl dX3_readFirst_1 f_X3_12 (by assumption) (by assumption) ?_
  first | refine e_getIv 7 rfl dX3_readFirst_4 f_X3_94 (by assumption) (by first | assumption | (simp only [mN_sF, mK_sF, mL_sF, mF_sF, mB_sF, mA_sF, mJ_sF, mP_sF, mO_sF, mN_sB, mK_sB, mL_sB, mF_sB, mB_sB, mA_sB, mJ_sB, mP_sB, mO_sB, mN_sA, mK_sA, mL_sA, mF_sA, mB_sA, mA_sA, mJ_sA, mP_sA, mO_sA, mN_sJ, mK_sJ, mL_sJ, mF_sJ, mB_sJ, mA_sJ, mJ_sJ, mP_sJ, mO_sJ, mN_sP, mK_sP, mL_sP, mF_sP, mB_sP, mA_sP, mJ_sP, mP_sP, mO_sP, mN_sO, mK_sO, mL_sO, mF_sO, mB_sO, mA_sO, mJ_sO, mP_sO, mO_sO, up2, if_true, if_false, eq_self, ite_true, ite_false, reduceIte, Nat.add_left_cancel_iff, Nat.add_eq_left, Nat.left_eq_add, Nat.reduceEqDiff]; assumption) | (simp only [mN_sF, mK_sF, mL_sF, mF_sF, mB_sF, mA_sF, mJ_sF, mP_sF, mO_sF, mN_sB, mK_sB, mL_sB, mF_sB, mB_sB, mA_sB, mJ_sB, mP_sB, mO_sB, mN_sA, mK_sA, mL_sA, mF_sA, mB_sA, mA_sA, mJ_sA, mP_sA, mO_sA, mN_sJ, mK_sJ, mL_sJ, mF_sJ, mB_sJ, mA_sJ, mJ_sJ, mP_sJ, mO_sJ, mN_sP, mK_sP, mL_sP, mF_sP, mB_sP, mA_sP, mJ_sP, mP_sP, mO_sP, mN_sO, mK_sO, mL_sO, mF_sO, mB_sO, mA_sO, mJ_sO, mP_sO, mO_sO, up2, if_true, if_false, eq_self, ite_true, ite_false, reduceIte, Nat.add_left_cancel_iff, Nat.add_eq_left, Nat.left_eq_add, Nat.reduceEqDiff]; done)) ?_ | refine e_getI 7 rfl dX3_readFirst_4 f_X3_94 (by assumption) ?_
  refine e_is2 8 rfl dX3_readFirst_7 (by decide) rfl ?_
  refine e_al0 9 rfl dX3_readFirst_8 ?_
  refine e_iconst (nI 0) 10 rfl dX3_readFirst_9 ic_0 ?_
  refine e_il2 11 rfl dX3_readFirst_10 ?_
  refine e_invV0 [_, _] 14 rfl dX3_readFirst_11 k_X3_73 mo_X3_leastFrom rm_X3_readFirst_X3_leastFrom ⟨rfl, rfl⟩ rfl rfl (by assumption) (Nat.le_of_ble_eq_true rfl) ?_
  refine c_leastFrom (C := C) hg hn hn8 (Nat.zero_le _) hs8 h7 hom (fun q => hL 0 q) (fun L hL0 => ?_)
  rw [Nat.sub_zero] at hL0
  have hLle := hL0.le
  refine e_is3 15 rfl dX3_readFirst_14 (by decide) rfl ?_
  refine e_il3 16 rfl dX3_readFirst_15 ?_
  refine e_sipush (nI 1000) 19 rfl dX3_readFirst_16 sc_1000 ?_
  first | refine e_cmp_ltN 24 22 (by decide) rfl dX3_readFirst_19 rfl rfl (by omega) (by omega) (fun y0 => ?_) (fun y0 => ?_) | refine e_cmp_lt 24 22 (by decide) rfl dX3_readFirst_19 (fun y0 => ?_) (fun y0 => ?_)
  rotate_left
  · refine e_iconst (nI 0) 23 rfl dX3_readFirst_22 ic_0 ?_
    refine e_zret dX3_readFirst_23 rfl (by first | exact z0 | exact z1 | exact bI01 _ | assumption) ?_
    refine kf (fun d hd => ?_)
    have := hL0.lt.mpr ⟨d, hd⟩
    omega
  have keep : ∀ μ1, Fr (fun q => q = u) μ μ1 → Rst μ1 r s n sl C ∧ Vs μ1 s fm sl en ∧ mK μ1 u = 13 ∧ mL μ1 u = 8 := by
    intro μ1 hF
    refine ⟨⟨hg.fr hF, by rw [hF.2.2.2.1]; exact hp, by rw [(hF.2.2.2.2.2 r (by omega)).1]; exact hn, hn8, fun w hw k' hk' => by rw [(hF.2.2.2.2.2 (r + 11 + w) (by omega)).2.2.1]; exact hC w hw k' hk', fun w hw i hi => ?_⟩, hs.fx hF.fx (fun q h1 h2 => by omega), by rw [hF.2.1]; exact hku, by rw [hF.2.2.1]; exact hlu⟩
    rw [(hF.2.2.2.2.2 (r + 20 + w) (by omega)).2.2.1]; exact hL w hw i hi
  have loop : ∀ (fu w : Nat), w + fu = n → ∀ μ1 o left c m y5 y6, Fr (fun q => q = u) μ μ1 → Om sl o → Mo (Rn sl C (n - w) w o) left → left < 1000 → c + left = L → fnd sl C n 0 0 0 fm L = fnd sl C (n - w) w c m o L → (∀ j, j < w → mA μ1 u j = nI (dg w m j)) → Ev E M_X3_readFirst 0 0 27 [some (.ref r), some (.ref u), some (.int (nI o)), some (.int (nI left)), some (.int (nI w)), y5, y6] [] μ1 K := by
    intro fu
    induction fu with
    | zero =>
      intro w hw μ1 o left c m y5 y6 hF ho hl hlt hcl hfd hd
      obtain ⟨⟨g1, g2, g3, g4, g5, g6⟩, _⟩ := keep μ1 hF
      have rk1 := g1.1.1
      have ew : w = n := by omega
      subst ew
      rw [Nat.sub_self] at hl hfd
      have hb8 : left = 0 ∧ o.testBit 8 = true := by
        rcases hl with q | q
        · omega
        · exact q.2.1
      refine e_il4 29 rfl dX3_readFirst_27 ?_
      refine e_al0 30 rfl dX3_readFirst_29 ?_
      first | refine e_getIv 33 rfl dX3_readFirst_30 f_X3_18 (by assumption) (by first | assumption | (simp only [mN_sF, mK_sF, mL_sF, mF_sF, mB_sF, mA_sF, mJ_sF, mP_sF, mO_sF, mN_sB, mK_sB, mL_sB, mF_sB, mB_sB, mA_sB, mJ_sB, mP_sB, mO_sB, mN_sA, mK_sA, mL_sA, mF_sA, mB_sA, mA_sA, mJ_sA, mP_sA, mO_sA, mN_sJ, mK_sJ, mL_sJ, mF_sJ, mB_sJ, mA_sJ, mJ_sJ, mP_sJ, mO_sJ, mN_sP, mK_sP, mL_sP, mF_sP, mB_sP, mA_sP, mJ_sP, mP_sP, mO_sP, mN_sO, mK_sO, mL_sO, mF_sO, mB_sO, mA_sO, mJ_sO, mP_sO, mO_sO, up2, if_true, if_false, eq_self, ite_true, ite_false, reduceIte, Nat.add_left_cancel_iff, Nat.add_eq_left, Nat.left_eq_add, Nat.reduceEqDiff]; assumption) | (simp only [mN_sF, mK_sF, mL_sF, mF_sF, mB_sF, mA_sF, mJ_sF, mP_sF, mO_sF, mN_sB, mK_sB, mL_sB, mF_sB, mB_sB, mA_sB, mJ_sB, mP_sB, mO_sB, mN_sA, mK_sA, mL_sA, mF_sA, mB_sA, mA_sA, mJ_sA, mP_sA, mO_sA, mN_sJ, mK_sJ, mL_sJ, mF_sJ, mB_sJ, mA_sJ, mJ_sJ, mP_sJ, mO_sJ, mN_sP, mK_sP, mL_sP, mF_sP, mB_sP, mA_sP, mJ_sP, mP_sP, mO_sP, mN_sO, mK_sO, mL_sO, mF_sO, mB_sO, mA_sO, mJ_sO, mP_sO, mO_sO, up2, if_true, if_false, eq_self, ite_true, ite_false, reduceIte, Nat.add_left_cancel_iff, Nat.add_eq_left, Nat.left_eq_add, Nat.reduceEqDiff]; done)) ?_ | refine e_getI 33 rfl dX3_readFirst_30 f_X3_18 (by assumption) ?_
      first | refine e_cmp_geN 127 36 (by decide) rfl dX3_readFirst_33 rfl rfl (by omega) (by omega) (fun y1 => ?_) (fun y1 => ?_) | refine e_cmp_ge 127 36 (by decide) rfl dX3_readFirst_33 (fun y1 => ?_) (fun y1 => ?_)
      rotate_left
      · omega
      refine e_iconst (nI 1) 128 rfl dX3_readFirst_127 ic_1 ?_
      refine e_zret dX3_readFirst_128 rfl (by first | exact z0 | exact z1 | exact bI01 _ | assumption) ?_
      refine kt μ1 L m hF hL0 y0 ?_ hd
      rw [hfd]
      unfold fnd AR
      rw [if_pos hb8.2]
      simp [show c = L by omega]
    | succ fu ih =>
      intro w hw μ1 o left c m y5 y6 hF ho hl hlt hcl hfd hd
      obtain ⟨hr1, hv1, hku1, hlu1⟩ := keep μ1 hF
      obtain ⟨g1, g2, g3, g4, g5, g6⟩ := id hr1
      obtain ⟨⟨gk, q2, q3, q7, k10, l10, k19, l19, k28, l28, k29, l29, k30, l30⟩, gw⟩ := id g1
      have sk1 := hv1.1.1.1
      obtain ⟨⟨w1, w2, w3⟩, w4, w5, w6⟩ := gw w (by omega)
      obtain ⟨f, hf⟩ : ∃ f, n - w = f + 1 := ⟨n - w - 1, by omega⟩
      have hf1 : n - (w + 1) = f := by omega
      rw [hf] at hl hfd
      have hMk : ∀ k', ∃ v, Mo (Rn sl C f (w + 1) (stp sl o k')) v := fun k' => hM f _ _ (by omega)
      have inner : ∀ (gu j : Nat), j + gu = 7 → ∀ y6, (∀ k', k' < j → ∀ v, Mo (Rn sl C f (w + 1) (stp sl o k')) v → C w k' + v ≠ left) → Ev E M_X3_readFirst 0 0 46 [some (.ref r), some (.ref u), some (.int (nI o)), some (.int (nI left)), some (.int (nI w)), some (.int (nI j)), y6] [] μ1 K := by
        intro gu
        induction gu with
        | zero =>
          intro j hj y6 hno
          obtain ⟨k', v, a1, a2, a3⟩ := fnd_ex hl hlt hMk
          exact absurd a3 (hno k' (by omega) v a2)
        | succ gu ihg =>
          intro j hj y6 hno
          have hcj : C w j ≤ 1000 := by rcases hCb w j with q | q <;> omega
          have hcw := g5 w (by omega) j (by omega)
          have ho5 := ho.1
          refine e_il5 48 rfl dX3_readFirst_46 ?_
          refine e_bipush (nI 7) 50 rfl dX3_readFirst_48 bc_7 ?_
          first | refine e_cmp_geN 121 53 (by decide) rfl dX3_readFirst_50 rfl rfl (by omega) (by omega) (fun y1 => ?_) (fun y1 => ?_) | refine e_cmp_ge 121 53 (by decide) rfl dX3_readFirst_50 (fun y1 => ?_) (fun y1 => ?_)
          · omega
          refine e_al0 54 rfl dX3_readFirst_53 ?_
          refine e_getR 57 rfl dX3_readFirst_54 f_X3_12 (by assumption) (by assumption) ?_
          refine e_il2 58 rfl dX3_readFirst_57 ?_
          refine e_il5 60 rfl dX3_readFirst_58 ?_
          refine e_invV0 [_, _] 63 rfl dX3_readFirst_60 k_X3_97 mo_X4_openBehind rm_X3_readFirst_X4_openBehind ⟨rfl, rfl⟩ rfl rfl (by assumption) (Nat.le_of_ble_eq_true rfl) ?_
          refine c_openBehind hv1.1 hs8 hv1.2.2.2.2.1 ho5 (by omega) (fun v hv hvb => ?_)
          have ev : v = stp sl o j := msk_of hv hvb
          refine e_is6 65 rfl dX3_readFirst_63 (by decide) rfl ?_
          refine e_al0 66 rfl dX3_readFirst_65 ?_
          refine e_getR 69 rfl dX3_readFirst_66 f_X3_24 (by assumption) (by assumption) ?_
          refine e_il4 71 rfl dX3_readFirst_69 ?_
          refine e_aald 72 rfl dX3_readFirst_71 (by assumption) (by decide) (by assumption) (by first | rfl | simp only [pk_mul, nI_add]) (by omega) (by omega) (by assumption) ?_
          refine e_il5 74 rfl dX3_readFirst_72 ?_
          first | refine e_ialdv 75 rfl dX3_readFirst_74 (by assumption) (by assumption) (by first | rfl | simp only [pk_mul, nI_add]) (by omega) (by omega) (by first | assumption | (simp only [mN_sF, mK_sF, mL_sF, mF_sF, mB_sF, mA_sF, mJ_sF, mP_sF, mO_sF, mN_sB, mK_sB, mL_sB, mF_sB, mB_sB, mA_sB, mJ_sB, mP_sB, mO_sB, mN_sA, mK_sA, mL_sA, mF_sA, mB_sA, mA_sA, mJ_sA, mP_sA, mO_sA, mN_sJ, mK_sJ, mL_sJ, mF_sJ, mB_sJ, mA_sJ, mJ_sJ, mP_sJ, mO_sJ, mN_sP, mK_sP, mL_sP, mF_sP, mB_sP, mA_sP, mJ_sP, mP_sP, mO_sP, mN_sO, mK_sO, mL_sO, mF_sO, mB_sO, mA_sO, mJ_sO, mP_sO, mO_sO, up2, if_true, if_false, eq_self, ite_true, ite_false, reduceIte, Nat.add_left_cancel_iff, Nat.add_eq_left, Nat.left_eq_add, Nat.reduceEqDiff]; assumption) | (simp only [mN_sF, mK_sF, mL_sF, mF_sF, mB_sF, mA_sF, mJ_sF, mP_sF, mO_sF, mN_sB, mK_sB, mL_sB, mF_sB, mB_sB, mA_sB, mJ_sB, mP_sB, mO_sB, mN_sA, mK_sA, mL_sA, mF_sA, mB_sA, mA_sA, mJ_sA, mP_sA, mO_sA, mN_sJ, mK_sJ, mL_sJ, mF_sJ, mB_sJ, mA_sJ, mJ_sJ, mP_sJ, mO_sJ, mN_sP, mK_sP, mL_sP, mF_sP, mB_sP, mA_sP, mJ_sP, mP_sP, mO_sP, mN_sO, mK_sO, mL_sO, mF_sO, mB_sO, mA_sO, mJ_sO, mP_sO, mO_sO, up2, if_true, if_false, eq_self, ite_true, ite_false, reduceIte, Nat.add_left_cancel_iff, Nat.add_eq_left, Nat.left_eq_add, Nat.reduceEqDiff]; done)) ?_ | refine e_iald 75 rfl dX3_readFirst_74 (by assumption) (by assumption) (by first | rfl | simp only [pk_mul, nI_add]) (by omega) (by omega) ?_
          refine e_al0 76 rfl dX3_readFirst_75 ?_
          refine e_il4 78 rfl dX3_readFirst_76 ?_
          refine e_iconst (nI 1) 79 rfl dX3_readFirst_78 ic_1 ?_
          first | refine e_iaddN 80 rfl dX3_readFirst_79 rfl rfl ?_ | refine e_iadd 80 rfl dX3_readFirst_79 ?_
          refine e_il6 82 rfl dX3_readFirst_80 ?_
          refine e_invV0 [_, _] 85 rfl dX3_readFirst_82 k_X3_73 mo_X3_leastFrom rm_X3_readFirst_X3_leastFrom ⟨rfl, rfl⟩ rfl rfl (by assumption) (Nat.le_of_ble_eq_true rfl) ?_
          refine c_leastFrom (C := C) g1 g3 hn8 (by omega) hs8 h7 (by rw [ev]; exact Om_stp hs8 o j) (fun q => g6 (w + 1) q) (fun t ht => ?_)
          rw [hf1, ev] at ht
          have htl := ht.le
          first | refine e_iaddN 86 rfl dX3_readFirst_85 rfl rfl ?_ | refine e_iadd 86 rfl dX3_readFirst_85 ?_
          refine e_il3 87 rfl dX3_readFirst_86 ?_
          first | refine e_cmp_neN 115 90 (by decide) rfl dX3_readFirst_87 rfl rfl (by omega) (by omega) (fun y2 => ?_) (fun y2 => ?_) | refine e_cmp_ne 115 90 (by decide) rfl dX3_readFirst_87 (fun y2 => ?_) (fun y2 => ?_)
          · refine e_ii5 (nI (_ + 1)) 118 rfl dX3_readFirst_115 (ii1 _) rfl ?_
            refine e_goto 46 (by decide) dX3_readFirst_118 ?_
            refine ihg (j + 1) (by omega) _ (fun k' hk' v' hv' => ?_)
            by_cases e : k' = j
            · subst e; rw [hv'.uniq ht]; exact y2
            · exact hno k' (by omega) v' hv'
          · obtain ⟨a1, ⟨x, a2⟩, a3, a4⟩ := fnd_step (c := c) (m := m) (hCb w) hl hlt (by omega : j < 7) ht y2 hno hMk
            have hcw2 : mA (sA μ1 u w (nI j)) (r + 11 + w) j = nI (C w j) := by show up2 _ u _ _ (r + 11 + w) j = _; rw [up2_a (by omega)]; exact hcw
            have b1 : mP (sA μ1 u w (nI j)) r 2 = some (r + 10) := q2
            have b2 : mO (sA μ1 u w (nI j)) (r + 10) w = some (r + 11 + w) := w1
            have b3 : mK (sA μ1 u w (nI j)) (r + 11 + w) = 13 := w2
            have b4 : mL (sA μ1 u w (nI j)) (r + 11 + w) = 7 := w3
            have b5 : mK (sA μ1 u w (nI j)) r = 4 := gk
            have b6 : mK (sA μ1 u w (nI j)) (r + 10) = 19 := k10
            have b7 : mL (sA μ1 u w (nI j)) (r + 10) = 8 := l10
            refine e_al1 91 rfl dX3_readFirst_90 ?_
            refine e_il4 93 rfl dX3_readFirst_91 ?_
            refine e_il5 95 rfl dX3_readFirst_93 ?_
            refine e_iast 96 rfl dX3_readFirst_95 (by assumption) (by assumption) (by first | rfl | simp only [pk_mul, nI_add]) (by omega) (by omega) ?_
            refine e_il3 97 rfl dX3_readFirst_96 ?_
            refine e_al0 98 rfl dX3_readFirst_97 ?_
            refine e_getR 101 rfl dX3_readFirst_98 f_X3_24 (by assumption) (by assumption) ?_
            refine e_il4 103 rfl dX3_readFirst_101 ?_
            refine e_aald 104 rfl dX3_readFirst_103 (by assumption) (by decide) (by assumption) (by first | rfl | simp only [pk_mul, nI_add]) (by omega) (by omega) (by assumption) ?_
            refine e_il5 106 rfl dX3_readFirst_104 ?_
            first | refine e_ialdv 107 rfl dX3_readFirst_106 (by assumption) (by assumption) (by first | rfl | simp only [pk_mul, nI_add]) (by omega) (by omega) (by first | assumption | (simp only [mN_sF, mK_sF, mL_sF, mF_sF, mB_sF, mA_sF, mJ_sF, mP_sF, mO_sF, mN_sB, mK_sB, mL_sB, mF_sB, mB_sB, mA_sB, mJ_sB, mP_sB, mO_sB, mN_sA, mK_sA, mL_sA, mF_sA, mB_sA, mA_sA, mJ_sA, mP_sA, mO_sA, mN_sJ, mK_sJ, mL_sJ, mF_sJ, mB_sJ, mA_sJ, mJ_sJ, mP_sJ, mO_sJ, mN_sP, mK_sP, mL_sP, mF_sP, mB_sP, mA_sP, mJ_sP, mP_sP, mO_sP, mN_sO, mK_sO, mL_sO, mF_sO, mB_sO, mA_sO, mJ_sO, mP_sO, mO_sO, up2, if_true, if_false, eq_self, ite_true, ite_false, reduceIte, Nat.add_left_cancel_iff, Nat.add_eq_left, Nat.left_eq_add, Nat.reduceEqDiff]; assumption) | (simp only [mN_sF, mK_sF, mL_sF, mF_sF, mB_sF, mA_sF, mJ_sF, mP_sF, mO_sF, mN_sB, mK_sB, mL_sB, mF_sB, mB_sB, mA_sB, mJ_sB, mP_sB, mO_sB, mN_sA, mK_sA, mL_sA, mF_sA, mB_sA, mA_sA, mJ_sA, mP_sA, mO_sA, mN_sJ, mK_sJ, mL_sJ, mF_sJ, mB_sJ, mA_sJ, mJ_sJ, mP_sJ, mO_sJ, mN_sP, mK_sP, mL_sP, mF_sP, mB_sP, mA_sP, mJ_sP, mP_sP, mO_sP, mN_sO, mK_sO, mL_sO, mF_sO, mB_sO, mA_sO, mJ_sO, mP_sO, mO_sO, up2, if_true, if_false, eq_self, ite_true, ite_false, reduceIte, Nat.add_left_cancel_iff, Nat.add_eq_left, Nat.left_eq_add, Nat.reduceEqDiff]; done)) ?_ | refine e_iald 107 rfl dX3_readFirst_106 (by assumption) (by assumption) (by first | rfl | simp only [pk_mul, nI_add]) (by omega) (by omega) ?_
            first | refine e_isubN 108 rfl dX3_readFirst_107 rfl rfl (by omega) ?_ | refine e_isub 108 rfl dX3_readFirst_107 ?_
            refine e_is3 109 rfl dX3_readFirst_108 (by decide) rfl ?_
            refine e_il6 111 rfl dX3_readFirst_109 ?_
            refine e_is2 112 rfl dX3_readFirst_111 (by decide) rfl ?_
            refine e_goto 121 (by decide) dX3_readFirst_112 ?_
            refine e_ii4 (nI (_ + 1)) 124 rfl dX3_readFirst_121 (ii1 _) rfl ?_
            refine e_goto 27 (by decide) dX3_readFirst_124 ?_
            rw [show left - C w j = t by omega, ev]
            refine ih (w + 1) (by omega) _ _ t (c + C w j) (m * 8 + j) _ _ (hF.sA rfl _ _) (Om_stp hs8 o j) (by rw [hf1]; exact ht) a3 (by omega) ?_ (fun j' hj' => ?_)
            · rw [hf1, hfd, ← hcl, a1]
              congr 1
              omega
            · show up2 _ u _ _ u j' = _
              by_cases e : j' = w
              · rw [e, up2_s, dg_new (by omega)]
              · rw [up2_k e, dg_old (by omega) (by omega)]; exact hd j' (by omega)
      refine e_il4 29 rfl dX3_readFirst_27 ?_
      refine e_al0 30 rfl dX3_readFirst_29 ?_
      first | refine e_getIv 33 rfl dX3_readFirst_30 f_X3_18 (by assumption) (by first | assumption | (simp only [mN_sF, mK_sF, mL_sF, mF_sF, mB_sF, mA_sF, mJ_sF, mP_sF, mO_sF, mN_sB, mK_sB, mL_sB, mF_sB, mB_sB, mA_sB, mJ_sB, mP_sB, mO_sB, mN_sA, mK_sA, mL_sA, mF_sA, mB_sA, mA_sA, mJ_sA, mP_sA, mO_sA, mN_sJ, mK_sJ, mL_sJ, mF_sJ, mB_sJ, mA_sJ, mJ_sJ, mP_sJ, mO_sJ, mN_sP, mK_sP, mL_sP, mF_sP, mB_sP, mA_sP, mJ_sP, mP_sP, mO_sP, mN_sO, mK_sO, mL_sO, mF_sO, mB_sO, mA_sO, mJ_sO, mP_sO, mO_sO, up2, if_true, if_false, eq_self, ite_true, ite_false, reduceIte, Nat.add_left_cancel_iff, Nat.add_eq_left, Nat.left_eq_add, Nat.reduceEqDiff]; assumption) | (simp only [mN_sF, mK_sF, mL_sF, mF_sF, mB_sF, mA_sF, mJ_sF, mP_sF, mO_sF, mN_sB, mK_sB, mL_sB, mF_sB, mB_sB, mA_sB, mJ_sB, mP_sB, mO_sB, mN_sA, mK_sA, mL_sA, mF_sA, mB_sA, mA_sA, mJ_sA, mP_sA, mO_sA, mN_sJ, mK_sJ, mL_sJ, mF_sJ, mB_sJ, mA_sJ, mJ_sJ, mP_sJ, mO_sJ, mN_sP, mK_sP, mL_sP, mF_sP, mB_sP, mA_sP, mJ_sP, mP_sP, mO_sP, mN_sO, mK_sO, mL_sO, mF_sO, mB_sO, mA_sO, mJ_sO, mP_sO, mO_sO, up2, if_true, if_false, eq_self, ite_true, ite_false, reduceIte, Nat.add_left_cancel_iff, Nat.add_eq_left, Nat.left_eq_add, Nat.reduceEqDiff]; done)) ?_ | refine e_getI 33 rfl dX3_readFirst_30 f_X3_18 (by assumption) ?_
      first | refine e_cmp_geN 127 36 (by decide) rfl dX3_readFirst_33 rfl rfl (by omega) (by omega) (fun y1 => ?_) (fun y1 => ?_) | refine e_cmp_ge 127 36 (by decide) rfl dX3_readFirst_33 (fun y1 => ?_) (fun y1 => ?_)
      · omega
      refine e_il4 38 rfl dX3_readFirst_36 ?_
      refine e_al1 39 rfl dX3_readFirst_38 ?_
      refine e_alen 40 rfl dX3_readFirst_39 (by first | exact Or.inl (by assumption) | exact Or.inr (Or.inl (by assumption)) | exact Or.inr (Or.inr (by assumption))) (by assumption) ?_
      first | refine e_cmp_geN 127 43 (by decide) rfl dX3_readFirst_40 rfl rfl (by omega) (by omega) (fun y2 => ?_) (fun y2 => ?_) | refine e_cmp_ge 127 43 (by decide) rfl dX3_readFirst_40 (fun y2 => ?_) (fun y2 => ?_)
      · omega
      refine e_iconst (nI 0) 44 rfl dX3_readFirst_43 ic_0 ?_
      refine e_is5 46 rfl dX3_readFirst_44 (by decide) rfl ?_
      exact inner 7 0 (by omega) _ (fun k' hk' => by omega)
  refine e_iconst (nI 0) 25 rfl dX3_readFirst_24 ic_0 ?_
  refine e_is4 27 rfl dX3_readFirst_25 (by decide) rfl ?_
  exact loop n 0 (by omega) μ fm L 0 0 _ _ Fr.rf hom (by rw [Nat.sub_zero]; exact hL0) y0 (by omega) (by rw [Nat.sub_zero]) (fun j hj => by omega)
end FIRST
