/-! readings: prefix rows, how many -/
section RDS2
def sumF (g : Nat → Nat) : Nat → Nat
  | 0 => 0
  | n + 1 => sumF g n + g n
theorem sumF_le {g h : Nat → Nat} : ∀ n, (∀ i, i < n → g i ≤ h i) → sumF g n ≤ sumF h n := by
  intro n
  induction n with
  | zero => intro _; exact Nat.le_refl _
  | succ n ih => intro q; exact Nat.add_le_add (ih (fun i hi => q i (by omega))) (q n (by omega))
theorem sumF_add (g h : Nat → Nat) : ∀ n, sumF (fun i => g i + h i) n = sumF g n + sumF h n := by
  intro n
  induction n with
  | zero => rfl
  | succ n ih => simp only [sumF]; rw [ih]; omega
theorem sumF_one (c x : Nat) : ∀ n, sumF (fun k => if c = k then x else 0) n = if c < n then x else 0 := by
  intro n
  induction n with
  | zero => simp [sumF]
  | succ n ih =>
    simp only [sumF]
    rw [ih]
    by_cases e : c = n
    · subst e; simp
    · rw [if_neg e]
      by_cases l : c < n
      · rw [if_pos l, if_pos (by omega)]; omega
      · rw [if_neg l, if_neg (by omega)]
theorem sumF_ge {g : Nat → Nat} {i : Nat} : ∀ n, i < n → g i ≤ sumF g n := by
  intro n
  induction n with
  | zero => intro h; omega
  | succ n ih =>
    intro h
    simp only [sumF]
    by_cases e : i = n
    · subst e; omega
    · have := ih (by omega); omega
theorem sumF_zero : ∀ n, sumF (fun _ => 0) n = 0 := by
  intro n
  induction n with
  | zero => rfl
  | succ n ih => simp only [sumF]; rw [ih]
theorem sumF_two (kd h : Nat → Nat) (P : Nat → Bool) (m : Nat) : ∀ n, sumF (fun k => sumF (fun i => if kd i = k ∧ P i = true then h i else 0) n) m ≤ sumF (fun i => if P i = true then h i else 0) n := by
  intro n
  induction n with
  | zero => simp only [sumF]; rw [sumF_zero]; exact Nat.le_refl _
  | succ n ih =>
    simp only [sumF]
    rw [sumF_add]
    refine Nat.add_le_add ih ?_
    by_cases p : P n = true
    · simp only [p, and_true, if_true]
      rw [sumF_one]
      split <;> omega
    · have : (fun k => if kd n = k ∧ P n = true then h n else 0) = fun _ => 0 := by funext k; rw [if_neg (fun q => p q.2)]
      rw [this, sumF_zero]
      exact Nat.zero_le _
def Nn : Nat → Nat → Nat
  | 0, _ => 1
  | f + 1, j => sumF (fun i => if j ≤ i then Nn f i else 0) 8
theorem Nn_bd : ∀ f, f ≤ 8 → Nn f 0 ≤ 6435 := by decide +kernel
noncomputable def cnt (sl : List Slot0) : Nat → Nat → Nat
  | 0, o => if o = 0 then 0 else 1
  | f + 1, o => sumF (fun k => cnt sl f (stp sl o k)) 7
theorem no_bit {o : Nat} (h : ∀ q, o.testBit q = false) : o = 0 := Nat.eq_of_testBit_eq (fun q => by rw [h q]; simp)
theorem stp_0 {sl : List Slot0} (hn : sl.length ≤ 8) {o k : Nat} (h : ∀ i x, o.testBit i = true → sl[i]? = some x → x.1 ≠ k) : stp sl o k = 0 := no_bit (fun q => by
  cases e : (stp sl o k).testBit q
  · rfl
  · obtain ⟨i, x, a, b, c, _⟩ := (stp_bit hn o k q).mp e
    exact absurd c (h i x a b))
theorem cnt_0 {sl : List Slot0} (hn : sl.length ≤ 8) : ∀ f, cnt sl f 0 = 0 := by
  intro f
  induction f with
  | zero => rfl
  | succ f ih =>
    have : (fun k => cnt sl f (stp sl 0 k)) = fun _ => 0 := by funext k; rw [stp_0 hn (fun i x a => by simp at a), ih]
    unfold cnt
    rw [this, sumF_zero]
theorem ex_min {P : Nat → Prop} : ∀ n, P n → ∃ i, P i ∧ ∀ j, P j → i ≤ j := by
  intro n
  induction n using Nat.strongRecOn with
  | _ n ih =>
    intro h
    by_cases c : ∃ j, j < n ∧ P j
    · obtain ⟨j, j1, j2⟩ := c; exact ih j j1 j2
    · exact ⟨n, h, fun j q => by
        rcases Nat.lt_or_ge j n with a | a
        · exact absurd ⟨j, a, q⟩ c
        · exact a⟩
theorem cnt_le {sl : List Slot0} (hn : sl.length ≤ 8) : ∀ f o j, (∀ i, i < 8 → o.testBit i = true → j ≤ i) → cnt sl f o ≤ Nn f j := by
  intro f
  induction f with
  | zero => intro o j _; unfold cnt Nn; split <;> omega
  | succ f ih =>
    intro o j h
    show sumF (fun k => cnt sl f (stp sl o k)) 7 ≤ sumF (fun i => if j ≤ i then Nn f i else 0) 8
    have h1 : ∀ k, k < 7 → cnt sl f (stp sl o k) ≤ sumF (fun i => if ((sl[i]?).map (·.1)).getD 9 = k ∧ (o.testBit i) = true then Nn f i else 0) 8 := by
      intro k hk
      by_cases c : ∃ i, o.testBit i = true ∧ ∃ x, sl[i]? = some x ∧ x.1 = k
      · obtain ⟨n, hc⟩ := c
        obtain ⟨i, ⟨i1, x, i2, i3⟩, i4⟩ := ex_min (P := fun i => o.testBit i = true ∧ ∃ x, sl[i]? = some x ∧ x.1 = k) n hc
        have hi : i < sl.length := (List.getElem?_eq_some_iff.mp i2).1
        refine Nat.le_trans (ih _ i (fun q _ hq => ?_)) ?_
        · obtain ⟨i', x', a, b, c, e⟩ := (stp_bit hn o k q).mp hq
          have := i4 i' ⟨a, x', b, c⟩
          rcases Bhd_lt e with g | g <;> omega
        · have := sumF_ge (g := fun i => if ((sl[i]?).map (·.1)).getD 9 = k ∧ (o.testBit i) = true then Nn f i else 0) (i := i) 8 (by omega)
          simp only [i2, Option.map_some, Option.getD_some, i3, i1, and_self, if_true] at this
          exact this
      · rw [stp_0 hn (fun i x a b e => c ⟨i, a, x, b, e⟩), cnt_0 hn]
        exact Nat.zero_le _
    have h2 := sumF_le (g := fun k => cnt sl f (stp sl o k)) (h := fun k => sumF (fun i => if ((sl[i]?).map (·.1)).getD 9 = k ∧ (o.testBit i) = true then Nn f i else 0) 8) 7 h1
    have h3 := sumF_two (fun i => ((sl[i]?).map (·.1)).getD 9) (fun i => Nn f i) (fun i => o.testBit i) 7 8
    refine Nat.le_trans h2 (Nat.le_trans h3 ?_)
    refine sumF_le (g := fun i => if o.testBit i = true then Nn f i else 0) (h := fun i => if j ≤ i then Nn f i else 0) 8 (fun i hi => ?_)
    show (if o.testBit i = true then Nn f i else 0) ≤ if j ≤ i then Nn f i else 0
    by_cases c : o.testBit i = true
    · rw [if_pos c, if_pos (h i hi c)]; exact Nat.le_refl _
    · rw [if_neg c]; exact Nat.zero_le _
/-- rows made longer -/
abbrev Rw : Type := Nat × Nat × Nat
def okR (sl : List Slot0) (C : Nat → Nat → Nat) (f w o k : Nat) : Prop := C w k < 1000 ∧ ∃ d, Rn sl C f (w + 1) (stp sl o k) d
noncomputable def ifP {α : Type} (p : Prop) (a b : α) : α := @ite α p (Classical.propDecidable p) a b
theorem ifP_t {α : Type} {p : Prop} {a b : α} (h : p) : ifP p a b = a := if_pos h
theorem ifP_f {α : Type} {p : Prop} {a b : α} (h : ¬ p) : ifP p a b = b := if_neg h
noncomputable def lenK (sl : List Slot0) (C : Nat → Nat → Nat) (f w : Nat) (x : Rw) (n : Nat) : List Rw := (List.range n).flatMap (fun k => ifP (okR sl C f w x.2.2 k) [(x.1 + C w k, x.2.1 * 8 + k, stp sl x.2.2 k)] [])
noncomputable def PRr (sl : List Slot0) (C : Nat → Nat → Nat) (n fm : Nat) : Nat → List Rw
  | 0 => ifP (∃ d, Rn sl C n 0 fm d) [(0, 0, fm)] []
  | w + 1 => (PRr sl C n fm w).flatMap (fun x => lenK sl C (n - w - 1) w x 7)
theorem PRr_s (sl : List Slot0) (C : Nat → Nat → Nat) (n fm w : Nat) : PRr sl C n fm (w + 1) = (PRr sl C n fm w).flatMap (fun x => lenK sl C (n - w - 1) w x 7) := rfl
theorem flatMap_eq {α β : Type} {f g : α → List β} {l : List α} (h : ∀ a ∈ l, f a = g a) : l.flatMap f = l.flatMap g := by
  induction l with
  | nil => rfl
  | cons a l ih => rw [List.flatMap_cons, List.flatMap_cons, h a (by simp), ih (fun b hb => h b (by simp [hb]))]
theorem PR_AR {sl : List Slot0} {C : Nat → Nat → Nat} {n fm : Nat} : ∀ w, w ≤ n → (PRr sl C n fm w).flatMap (fun x => AR sl C (n - w) w x.1 x.2.1 x.2.2) = AR sl C n 0 0 0 fm := by
  intro w
  induction w with
  | zero =>
    intro _
    unfold PRr
    by_cases h : ∃ d, Rn sl C n 0 fm d
    · rw [ifP_t h]; simp
    · rw [ifP_f h, AR_nil (fun d q => h ⟨d, q⟩)]; rfl
  | succ w ih =>
    intro hw
    rw [← ih (by omega), PRr_s, List.flatMap_assoc]
    refine flatMap_eq (fun x _ => ?_)
    unfold lenK
    rw [List.flatMap_assoc]
    obtain ⟨g, e⟩ : ∃ g, n - w = g + 1 := ⟨n - w - 1, by omega⟩
    rw [e]
    show _ = (List.range 7).flatMap _
    refine flatMap_eq (fun k _ => ?_)
    have e2 : n - (w + 1) = g := by omega
    rw [show g + 1 - 1 = g by omega]
    by_cases q : okR sl C g w x.2.2 k
    · rw [ifP_t q, if_pos q.1]; simp [e2]
    · rw [ifP_f q]
      by_cases c : C w k < 1000
      · rw [if_pos c, AR_nil (fun d z => q ⟨c, d, z⟩)]; rfl
      · rw [if_neg c]; rfl
theorem mem_lenK {sl : List Slot0} {C : Nat → Nat → Nat} {f w n : Nat} {x y : Rw} (h : y ∈ lenK sl C f w x n) : ∃ k, k < n ∧ okR sl C f w x.2.2 k ∧ y = (x.1 + C w k, x.2.1 * 8 + k, stp sl x.2.2 k) := by
  obtain ⟨k, hk, hy⟩ := List.mem_flatMap.mp h
  by_cases q : okR sl C f w x.2.2 k
  · rw [ifP_t q] at hy; simp at hy; exact ⟨k, List.mem_range.mp hk, q, hy⟩
  · rw [ifP_f q] at hy; simp at hy
theorem PR_ok {sl : List Slot0} {C : Nat → Nat → Nat} {n fm : Nat} (hn : sl.length ≤ 8) (hC : ∀ w k, C w k < 1000 → C w k ≤ 5) (ho : Om sl fm) : ∀ w, w ≤ n → ∀ x ∈ PRr sl C n fm w, x.1 ≤ 5 * w ∧ x.2.1 < 8 ^ w ∧ Om sl x.2.2 ∧ ∃ d, Rn sl C (n - w) w x.2.2 d := by
  intro w
  induction w with
  | zero =>
    intro _ x hx
    unfold PRr at hx
    by_cases h : ∃ d, Rn sl C n 0 fm d
    · rw [ifP_t h] at hx; simp at hx; subst hx; exact ⟨by simp, by simp, ho, h⟩
    · rw [ifP_f h] at hx; simp at hx
  | succ w ih =>
    intro hw y hy
    rw [PRr_s] at hy
    obtain ⟨x, hx, hy⟩ := List.mem_flatMap.mp hy
    obtain ⟨i1, i2, i3, i4⟩ := ih (by omega) x hx
    obtain ⟨k, k1, k2, e⟩ := mem_lenK hy
    subst e
    have := hC w k k2.1
    refine ⟨by simp only []; omega, ?_, Om_stp hn _ _, ?_⟩
    · rw [Nat.pow_succ]; simp only []; omega
    · rw [show n - (w + 1) = n - w - 1 by omega]; exact k2.2
theorem Rn_ne {sl : List Slot0} {C : Nat → Nat → Nat} (hn : sl.length ≤ 8) {f w o d : Nat} (h : Rn sl C f w o d) : o ≠ 0 := by
  intro e
  subst e
  cases f with
  | zero => have := h.2; simp at this
  | succ f =>
    obtain ⟨k, _, _, d', _, r⟩ := h
    obtain ⟨i, ⟨a, _⟩, _⟩ := (Rn_stp hn _ _ _ _ _).mp r
    simp at a
noncomputable def cntL (sl : List Slot0) (f : Nat) (R : List Rw) : Nat := (R.map (fun x => cnt sl f x.2.2)).sum
theorem cntL_app (sl : List Slot0) (f : Nat) (R T : List Rw) : cntL sl f (R ++ T) = cntL sl f R + cntL sl f T := by simp [cntL]
theorem cntL_len {sl : List Slot0} : ∀ R : List Rw, (∀ x ∈ R, x.2.2 ≠ 0) → cntL sl 0 R = R.length := by
  intro R
  induction R with
  | nil => intro _; rfl
  | cons x R ih =>
    intro h
    have := ih (fun y hy => h y (by simp [hy]))
    unfold cntL at this ⊢
    rw [List.map_cons, List.sum_cons, this]
    simp only [cnt, if_neg (h x (by simp)), List.length_cons]
    omega
theorem cntL_lenK {sl : List Slot0} {C : Nat → Nat → Nat} {f g w : Nat} {x : Rw} : ∀ n, cntL sl f (lenK sl C g w x n) ≤ sumF (fun k => cnt sl f (stp sl x.2.2 k)) n := by
  intro n
  induction n with
  | zero => exact Nat.le_refl _
  | succ n ih =>
    have : lenK sl C g w x (n + 1) = lenK sl C g w x n ++ ifP (okR sl C g w x.2.2 n) [(x.1 + C w n, x.2.1 * 8 + n, stp sl x.2.2 n)] [] := by unfold lenK; rw [List.range_succ, List.flatMap_append]; simp
    rw [this, cntL_app]
    refine Nat.add_le_add ih ?_
    by_cases q : okR sl C g w x.2.2 n
    · rw [ifP_t q]; simp [cntL]
    · rw [ifP_f q]; simp [cntL]
theorem cntL_step {sl : List Slot0} {C : Nat → Nat → Nat} {f g w : Nat} : ∀ R : List Rw, cntL sl f (R.flatMap (fun x => lenK sl C g w x 7)) ≤ cntL sl (f + 1) R := by
  intro R
  induction R with
  | nil => exact Nat.le_refl _
  | cons x R ih =>
    rw [List.flatMap_cons, cntL_app]
    show _ ≤ cntL sl (f + 1) ([x] ++ R)
    rw [cntL_app]
    refine Nat.add_le_add ?_ ih
    refine Nat.le_trans (cntL_lenK 7) ?_
    simp [cntL, cnt]
theorem cntL_PR {sl : List Slot0} {C : Nat → Nat → Nat} {n fm : Nat} (hn : sl.length ≤ 8) : ∀ w f, cntL sl f (PRr sl C n fm w) ≤ Nn (f + w) 0 := by
  intro w
  induction w with
  | zero =>
    intro f
    unfold PRr
    by_cases h : ∃ d, Rn sl C n 0 fm d
    · rw [ifP_t h]; have := cnt_le hn f fm 0 (fun _ _ _ => Nat.zero_le _); simpa [cntL] using this
    · rw [ifP_f h]; simp [cntL]
  | succ w ih =>
    intro f
    have := ih (f + 1)
    rw [show f + (w + 1) = f + 1 + w by omega]
    exact Nat.le_trans (cntL_step _) this
theorem PR_len {sl : List Slot0} {C : Nat → Nat → Nat} {n fm w : Nat} (hn : sl.length ≤ 8) (hC : ∀ w k, C w k < 1000 → C w k ≤ 5) (ho : Om sl fm) (hw : w ≤ n) (h8 : w ≤ 8) : (PRr sl C n fm w).length ≤ 6435 := by
  rw [← cntL_len (sl := sl) _ (fun x hx => by
    obtain ⟨_, _, _, d, h⟩ := PR_ok hn hC ho w hw x hx
    exact Rn_ne hn h)]
  refine Nat.le_trans (cntL_PR hn w 0) ?_
  rw [Nat.zero_add]
  exact Nn_bd w h8
theorem PR_end {sl : List Slot0} {C : Nat → Nat → Nat} {n fm : Nat} (hn : sl.length ≤ 8) (hC : ∀ w k, C w k < 1000 → C w k ≤ 5) (ho : Om sl fm) : (PRr sl C n fm n).map (fun x => (x.1, x.2.1)) = AR sl C n 0 0 0 fm := by
  rw [← PR_AR n (Nat.le_refl _)]
  have : ∀ R : List Rw, (∀ x ∈ R, x.2.2.testBit 8 = true) → R.map (fun x => (x.1, x.2.1)) = R.flatMap (fun x => AR sl C (n - n) n x.1 x.2.1 x.2.2) := by
    intro R
    induction R with
    | nil => intro _; rfl
    | cons x R ih =>
      intro h
      rw [List.map_cons, List.flatMap_cons, ih (fun y hy => h y (by simp [hy])), Nat.sub_self]
      unfold AR
      rw [if_pos (h x (by simp))]
      rfl
  refine this _ (fun x hx => ?_)
  obtain ⟨_, _, _, d, h⟩ := PR_ok hn hC ho n (Nat.le_refl _) x hx
  rw [Nat.sub_self] at h
  exact h.2
end RDS2
