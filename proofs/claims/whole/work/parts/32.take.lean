/-! NameDesk$Word.take -/
section TAKE
variable {E : En} {μ : Mm} {K : Option Value → Mm → Prop}
/-- the numbers of f from s to ahead of e -/
def seg (f : Nat → Nat) (s e : Nat) : List Nat := (List.range (e - s)).map (fun i => f (s + i))
theorem seg_len (f : Nat → Nat) (s e : Nat) : (seg f s e).length = e - s := by simp [seg]
theorem seg_nil (f : Nat → Nat) {s e : Nat} (h : e ≤ s) : seg f s e = [] := by simp [seg, Nat.sub_eq_zero_of_le h]
theorem seg_succ (f : Nat → Nat) {s e : Nat} (h : s ≤ e) : seg f s (e + 1) = seg f s e ++ [f e] := by
  unfold seg
  rw [show e + 1 - s = (e - s) + 1 by omega, List.range_succ, List.map_append]
  simp [Nat.add_sub_cancel' h]
theorem seg_get (f : Nat → Nat) {s e i : Nat} (h : i < e - s) : (seg f s e)[i]? = some (f (s + i)) := by simp [seg, h]
theorem core_seg (f : Nat → Nat) {s e : Nat} (h : s < e) : coreL (seg f s e) = if f (e - 1) = 46 then seg f s (e - 1) else seg f s e := by
  have h1 : seg f s e = seg f s (e - 1) ++ [f (e - 1)] := by
    have := seg_succ f (s := s) (e := e - 1) (by omega)
    rwa [show e - 1 + 1 = e by omega] at this
  unfold coreL
  rw [h1]
  by_cases q : f (e - 1) = 46
  · simp [q]
  · simp [q]
/-- the signs so far can begin a word -/
def okP (p : List Nat) : Prop := p.all okS = true ∧ (p = [] ∨ p.head?.any isLt = true)
theorem okP_fold {p : List Nat} (h : okP p) : foldL p = [] ↔ p = [] := by
  constructor
  · intro q
    rcases h.2 with r | r
    · exact r
    · cases p with
      | nil => rfl
      | cons c p =>
        simp at r
        simp [foldL, r] at q
  · intro q; rw [q]; rfl
theorem okP_push {p : List Nat} {c : Nat} (h : okP p) (hc : (if foldL p = [] then isLt c else okS c) = true) : okP (p ++ [c]) := by
  by_cases q : p = []
  · subst q
    simp [foldL] at hc
    exact ⟨by simp [okS, hc], Or.inr (by simp [hc])⟩
  · rw [if_neg (fun r => q ((okP_fold h).mp r))] at hc
    refine ⟨by rw [List.all_append, h.1]; simp [hc], Or.inr ?_⟩
    rcases h.2 with r | r
    · exact absurd r q
    · cases p with
      | nil => exact absurd rfl q
      | cons d p => simpa using r
/-- a sign that can't come: no word has these signs -/
theorem okP_bad {p r : List Nat} {c : Nat} (h : okP p) (hc : (if foldL p = [] then isLt c else okS c) = false) : ((p ++ c :: r).head?.any isLt && (p ++ c :: r).all okS) = false := by
  by_cases q : p = []
  · subst q
    simp [foldL] at hc
    simp [hc]
  · rw [if_neg (fun r => q ((okP_fold h).mp r))] at hc
    rw [List.all_append]
    simp [hc]
theorem seg_split (f : Nat → Nat) {s j e : Nat} (h1 : s ≤ j) (h2 : j < e) : seg f s e = seg f s j ++ f j :: seg f (j + 1) e := by
  apply List.ext_getElem?
  intro i
  rcases Nat.lt_trichotomy i (j - s) with q | q | q
  · rw [List.getElem?_append_left (by rw [seg_len]; exact q), seg_get f q, seg_get f (by omega)]
  · rw [List.getElem?_append_right (by rw [seg_len]; omega), seg_len, seg_get f (by omega), show i - (j - s) = 0 by omega, show s + i = j by omega]; rfl
  · rw [List.getElem?_append_right (by rw [seg_len]; omega), seg_len]
    obtain ⟨k, hk⟩ : ∃ k, i - (j - s) = k + 1 := ⟨i - (j - s) - 1, by omega⟩
    rw [hk, List.getElem?_cons_succ]
    by_cases r : i < e - s
    · rw [seg_get f r, seg_get f (by omega), show s + i = j + 1 + k by omega]
    · rw [List.getElem?_eq_none (by rw [seg_len]; omega), List.getElem?_eq_none (by rw [seg_len]; omega)]
theorem take_loop {a t n s e stop : Nat} {tx : Nat → Nat} (hw : Wd μ a) (hkt : mK μ t = 12) (hlt : mL μ t = n) (hn : n < 2 ^ 31) (htx : ∀ i, i < n → mB μ t i = sb_b (tx i) ∧ tx i < 256) (hne : ¬ wS a t) (hs1 : stop ≤ n) (hs2 : stop - s ≤ 20)
    {Q : Option Value → Mm → Prop} (kf : ((seg tx s stop).head?.any isLt && (seg tx s stop).all okS) = false → ∀ μ', Fr (wS a) μ μ' → Q (some (.int (nI 0))) μ')
    (ke : okP (seg tx s stop) → ∀ μ', Fr (wS a) μ μ' → WI μ' a (seg tx s stop) → Ev E M_X8_take 0 0 94 [some (.ref a), some (.ref t), some (.int (nI s)), some (.int (nI e)), some (.int (nI stop)), some (.int (nI stop))] [] μ' Q) :
    ∀ (k j : Nat), j + k = stop → s ≤ j → okP (seg tx s j) → ∀ μ', Fr (wS a) μ μ' → WI μ' a (seg tx s j) → Ev E M_X8_take 0 0 68 [some (.ref a), some (.ref t), some (.int (nI s)), some (.int (nI e)), some (.int (nI stop)), some (.int (nI j))] [] μ' Q := by
  intro k
  induction k with
  | zero =>
    intro j hj hsj hok μ' hF hWI
    have e1 : j = stop := by omega
    subst e1
    refine e_il5 70 rfl dX8_take_68 ?_
    refine e_il4 72 rfl dX8_take_70 ?_
    first | refine e_cmp_geN 94 75 (by decide) rfl dX8_take_72 rfl rfl (by omega) (by omega) (fun h => ?_) (fun h => ?_) | refine e_cmp_ge 94 75 (by decide) rfl dX8_take_72 (fun h => ?_) (fun h => ?_)
    · exact ke hok μ' hF hWI
    · omega
  | succ k ih =>
    intro j hj hsj hok μ' hF hWI
    have hkt' : mK μ' t = 12 := by rw [hF.2.1]; exact hkt
    have hlt' : mL μ' t = n := by rw [hF.2.2.1]; exact hlt
    have hk' : mK μ' a = 9 := (hw.fr hF).1
    have hB : mB μ' t j = sb_b (tx j) := by rw [(hF.2.2.2.2.2 t hne).2.1]; exact (htx j (by omega)).1
    refine e_il5 70 rfl dX8_take_68 ?_
    refine e_il4 72 rfl dX8_take_70 ?_
    first | refine e_cmp_geN 94 75 (by decide) rfl dX8_take_72 rfl rfl (by omega) (by omega) (fun h => ?_) (fun h => ?_) | refine e_cmp_ge 94 75 (by decide) rfl dX8_take_72 (fun h => ?_) (fun h => ?_)
    · omega
    refine e_al0 76 rfl dX8_take_75 ?_
    refine e_al1 77 rfl dX8_take_76 ?_
    refine e_il5 79 rfl dX8_take_77 ?_
    first | refine e_baldv 80 rfl dX8_take_79 (by assumption) (by assumption) (by first | rfl | simp only [pk_mul, nI_add]) (by omega) (by omega) (by first | assumption | (simp only [mN_sF, mK_sF, mL_sF, mF_sF, mB_sF, mA_sF, mJ_sF, mP_sF, mO_sF, mN_sB, mK_sB, mL_sB, mF_sB, mB_sB, mA_sB, mJ_sB, mP_sB, mO_sB, mN_sA, mK_sA, mL_sA, mF_sA, mB_sA, mA_sA, mJ_sA, mP_sA, mO_sA, mN_sJ, mK_sJ, mL_sJ, mF_sJ, mB_sJ, mA_sJ, mJ_sJ, mP_sJ, mO_sJ, mN_sP, mK_sP, mL_sP, mF_sP, mB_sP, mA_sP, mJ_sP, mP_sP, mO_sP, mN_sO, mK_sO, mL_sO, mF_sO, mB_sO, mA_sO, mJ_sO, mP_sO, mO_sO, up2, if_true, if_false, eq_self, ite_true, ite_false, reduceIte, Nat.add_left_cancel_iff, Nat.add_eq_left, Nat.left_eq_add, Nat.reduceEqDiff]; assumption) | (simp only [mN_sF, mK_sF, mL_sF, mF_sF, mB_sF, mA_sF, mJ_sF, mP_sF, mO_sF, mN_sB, mK_sB, mL_sB, mF_sB, mB_sB, mA_sB, mJ_sB, mP_sB, mO_sB, mN_sA, mK_sA, mL_sA, mF_sA, mB_sA, mA_sA, mJ_sA, mP_sA, mO_sA, mN_sJ, mK_sJ, mL_sJ, mF_sJ, mB_sJ, mA_sJ, mJ_sJ, mP_sJ, mO_sJ, mN_sP, mK_sP, mL_sP, mF_sP, mB_sP, mA_sP, mJ_sP, mP_sP, mO_sP, mN_sO, mK_sO, mL_sO, mF_sO, mB_sO, mA_sO, mJ_sO, mP_sO, mO_sO, up2, if_true, if_false, eq_self, ite_true, ite_false, reduceIte, Nat.add_left_cancel_iff, Nat.add_eq_left, Nat.left_eq_add, Nat.reduceEqDiff]; done)) ?_ | refine e_zaldv 80 rfl dX8_take_79 (by assumption) (by assumption) (by first | rfl | simp only [pk_mul, nI_add]) (by omega) (by omega) (by first | assumption | (simp only [mN_sF, mK_sF, mL_sF, mF_sF, mB_sF, mA_sF, mJ_sF, mP_sF, mO_sF, mN_sB, mK_sB, mL_sB, mF_sB, mB_sB, mA_sB, mJ_sB, mP_sB, mO_sB, mN_sA, mK_sA, mL_sA, mF_sA, mB_sA, mA_sA, mJ_sA, mP_sA, mO_sA, mN_sJ, mK_sJ, mL_sJ, mF_sJ, mB_sJ, mA_sJ, mJ_sJ, mP_sJ, mO_sJ, mN_sP, mK_sP, mL_sP, mF_sP, mB_sP, mA_sP, mJ_sP, mP_sP, mO_sP, mN_sO, mK_sO, mL_sO, mF_sO, mB_sO, mA_sO, mJ_sO, mP_sO, mO_sO, up2, if_true, if_false, eq_self, ite_true, ite_false, reduceIte, Nat.add_left_cancel_iff, Nat.add_eq_left, Nat.left_eq_add, Nat.reduceEqDiff]; assumption) | (simp only [mN_sF, mK_sF, mL_sF, mF_sF, mB_sF, mA_sF, mJ_sF, mP_sF, mO_sF, mN_sB, mK_sB, mL_sB, mF_sB, mB_sB, mA_sB, mJ_sB, mP_sB, mO_sB, mN_sA, mK_sA, mL_sA, mF_sA, mB_sA, mA_sA, mJ_sA, mP_sA, mO_sA, mN_sJ, mK_sJ, mL_sJ, mF_sJ, mB_sJ, mA_sJ, mJ_sJ, mP_sJ, mO_sJ, mN_sP, mK_sP, mL_sP, mF_sP, mB_sP, mA_sP, mJ_sP, mP_sP, mO_sP, mN_sO, mK_sO, mL_sO, mF_sO, mB_sO, mA_sO, mJ_sO, mP_sO, mO_sO, up2, if_true, if_false, eq_self, ite_true, ite_false, reduceIte, Nat.add_left_cancel_iff, Nat.add_eq_left, Nat.left_eq_add, Nat.reduceEqDiff]; done)) ?_ | refine e_bald 80 rfl dX8_take_79 (by assumption) (by assumption) (by first | rfl | simp only [pk_mul, nI_add]) (by omega) (by omega) ?_ | refine e_zald 80 rfl dX8_take_79 (by assumption) (by assumption) (by first | rfl | simp only [pk_mul, nI_add]) (by omega) (by omega) ?_
    refine e_invV0 [_] 83 rfl dX8_take_80 k_X8_25 mo_X8_takeSign rm_X8_take_X8_takeSign ⟨rfl, rfl⟩ rfl rfl (by assumption) (Nat.le_of_ble_eq_true rfl) ?_
    refine c_takeSign (hw.fr hF) hWI (by rw [seg_len]; omega) (htx j (by omega)).2 _ rfl (fun hb μ2 hF2 hW2 => ?_) (fun hb => ?_)
    · first | refine e_if_neB 88 86 (by decide) rfl dX8_take_83 rfl (fun h => ?_) (fun h => ?_) | refine e_if_neN 88 86 (by decide) rfl dX8_take_83 rfl (by omega) (fun h => ?_) (fun h => ?_) | refine e_if_ne 88 86 (by decide) rfl dX8_take_83 (fun h => ?_) (fun h => ?_)
      · refine e_ii5 (nI (_ + 1)) 91 rfl dX8_take_88 (ii1 _) rfl ?_
        refine e_goto 68 (by decide) dX8_take_91 ?_
        rw [← seg_succ tx hsj] at hW2
        exact ih (j + 1) (by omega) (by omega) (by rw [seg_succ tx hsj]; exact okP_push hok hb) μ2 (hF.trans hF2) hW2
      · omega
    · first | refine e_if_neB 88 86 (by decide) rfl dX8_take_83 rfl (fun h => ?_) (fun h => ?_) | refine e_if_neN 88 86 (by decide) rfl dX8_take_83 rfl (by omega) (fun h => ?_) (fun h => ?_) | refine e_if_ne 88 86 (by decide) rfl dX8_take_83 (fun h => ?_) (fun h => ?_)
      · omega
      refine e_iconst (nI 0) 87 rfl dX8_take_86 ic_0 ?_
      refine e_zret dX8_take_87 rfl (by first | exact z0 | exact z1 | exact bI01 _ | assumption) ?_
      exact kf (by rw [seg_split tx hsj (by omega : j < stop)]; exact okP_bad hok hb) μ' hF
end TAKE
