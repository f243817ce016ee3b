/-! the order of names -/
section ORDER
theorem cmpL_neg : ∀ a b : List Nat, cmpL a b = - cmpL b a
  | x :: xs, y :: ys => by
    rw [cmpL, cmpL]
    by_cases h : x = y
    · rw [if_pos h, if_pos h.symm]; exact cmpL_neg xs ys
    · rw [if_neg h, if_neg (fun q => h q.symm)]; omega
  | [], ys => by rw [cmpL_end (Or.inl rfl), cmpL_end (Or.inr rfl)]; omega
  | x :: xs, [] => by rw [cmpL_end (Or.inr rfl), cmpL_end (Or.inl rfl)]; omega
theorem cmpL_zero : ∀ a b : List Nat, cmpL a b = 0 ↔ a = b
  | x :: xs, y :: ys => by
    rw [cmpL, List.cons.injEq]
    by_cases h : x = y
    · rw [if_pos h, cmpL_zero xs ys]; simp [h]
    · rw [if_neg h]
      constructor
      · intro q; omega
      · intro q; exact absurd q.1 h
  | [], ys => by
    rw [cmpL_end (Or.inl rfl)]
    cases ys with
    | nil => simp
    | cons => simp; omega
  | x :: xs, [] => by rw [cmpL_end (Or.inr rfl)]; simp; omega
theorem cmpL_trans : ∀ a b c : List Nat, cmpL a b < 0 → cmpL b c < 0 → cmpL a c < 0
  | [], b, c, h1, h2 => by
    rw [cmpL_end (Or.inl rfl)] at h1 ⊢
    cases b with
    | nil => simp at h1
    | cons y ys =>
      cases c with
      | nil => rw [cmpL_end (Or.inr rfl)] at h2; simp at h2; omega
      | cons => simp <;> omega
  | x :: xs, [], c, h1, h2 => by rw [cmpL_end (Or.inr rfl)] at h1; simp at h1; omega
  | x :: xs, y :: ys, [], h1, h2 => by rw [cmpL_end (Or.inr rfl)] at h2; simp at h2; omega
  | x :: xs, y :: ys, z :: zs, h1, h2 => by
    rw [cmpL] at h1 h2 ⊢
    by_cases e1 : x = y
    · rw [if_pos e1] at h1
      by_cases e2 : y = z
      · rw [if_pos e2] at h2
        rw [if_pos (e1.trans e2)]
        exact cmpL_trans xs ys zs h1 h2
      · rw [if_neg e2] at h2
        rw [if_neg (by omega)]
        omega
    · rw [if_neg e1] at h1
      by_cases e2 : y = z
      · rw [if_pos e2] at h2
        rw [if_neg (by omega)]
        omega
      · rw [if_neg e2] at h2
        rw [if_neg (by omega)]
        omega
theorem ltK_tri : ∀ a b : List (List Nat), ltK a b = true ∨ a = b ∨ ltK b a = true
  | [], ys => by
    rw [ltK_end (Or.inl rfl)]
    cases ys with
    | nil => exact Or.inr (Or.inl rfl)
    | cons => exact Or.inl (by simp)
  | x :: xs, [] => by
    rw [ltK_end (la := []) (Or.inl rfl)]
    exact Or.inr (Or.inr (by simp))
  | x :: xs, y :: ys => by
    rw [ltK, ltK]
    by_cases h : cmpL x y = 0
    · have e := (cmpL_zero x y).mp h
      rw [if_pos h, if_pos ((cmpL_zero y x).mpr e.symm)]
      rcases ltK_tri xs ys with q | q | q
      · exact Or.inl q
      · exact Or.inr (Or.inl (by rw [e, q]))
      · exact Or.inr (Or.inr q)
    · have h2 : cmpL y x ≠ 0 := fun q => h ((cmpL_zero x y).mpr ((cmpL_zero y x).mp q).symm)
      have h3 := cmpL_neg x y
      rw [if_neg h, if_neg h2]
      by_cases c : cmpL x y < 0
      · exact Or.inl (by simp [c])
      · exact Or.inr (Or.inr (by simp; omega))
theorem ltK_asy : ∀ a b : List (List Nat), ltK a b = true → ltK b a = false ∧ a ≠ b
  | [], ys, h => by
    rw [ltK_end (Or.inl rfl)] at h
    cases ys with
    | nil => simp at h
    | cons => exact ⟨by rw [ltK_end (Or.inr rfl)]; simp, by simp⟩
  | x :: xs, [], h => by rw [ltK_end (Or.inr rfl)] at h; simp at h
  | x :: xs, y :: ys, h => by
    rw [ltK] at h
    rw [ltK]
    by_cases h0 : cmpL x y = 0
    · have e := (cmpL_zero x y).mp h0
      rw [if_pos h0] at h
      rw [if_pos ((cmpL_zero y x).mpr e.symm)]
      obtain ⟨q1, q2⟩ := ltK_asy xs ys h
      exact ⟨q1, fun z => q2 (List.cons.inj z).2⟩
    · rw [if_neg h0] at h
      have h2 : cmpL y x ≠ 0 := fun q => h0 ((cmpL_zero x y).mpr ((cmpL_zero y x).mp q).symm)
      have h3 := cmpL_neg x y
      rw [if_neg h2]
      simp at h
      exact ⟨by simp; omega, fun z => h0 ((cmpL_zero x y).mpr (List.cons.inj z).1)⟩
theorem ltK_trans : ∀ a b c : List (List Nat), ltK a b = true → ltK b c = true → ltK a c = true
  | [], b, c, h1, h2 => by
    rw [ltK_end (Or.inl rfl)] at h1 ⊢
    cases b with
    | nil => simp at h1
    | cons y ys =>
      cases c with
      | nil => rw [ltK_end (Or.inr rfl)] at h2; simp at h2
      | cons => simp
  | x :: xs, [], c, h1, h2 => by rw [ltK_end (Or.inr rfl)] at h1; simp at h1
  | x :: xs, y :: ys, [], h1, h2 => by rw [ltK_end (Or.inr rfl)] at h2; simp at h2
  | x :: xs, y :: ys, z :: zs, h1, h2 => by
    rw [ltK] at h1 h2 ⊢
    by_cases e1 : cmpL x y = 0
    · have f1 := (cmpL_zero x y).mp e1
      subst f1
      rw [if_pos e1] at h1
      by_cases e2 : cmpL x z = 0
      · rw [if_pos e2] at h2 ⊢
        exact ltK_trans xs ys zs h1 h2
      · rw [if_neg e2] at h2 ⊢
        exact h2
    · rw [if_neg e1] at h1
      by_cases e2 : cmpL y z = 0
      · have f2 := (cmpL_zero y z).mp e2
        subst f2
        rw [if_neg e1]
        exact h1
      · rw [if_neg e2] at h2
        simp at h1 h2
        have h3 := cmpL_trans x y z h1 h2
        rw [if_neg (by omega)]
        simp
        exact h3
/-- whether i is ahead of j -/
def ahF (r : Nat → Bool) (κ : Nat → List (List Nat)) (i j : Nat) : Bool := if r i = r j then (if r i = true then (ltK (κ i) (κ j) || (decide (κ i = κ j) && decide (i < j))) else decide (i < j)) else r i
theorem ahF_tot {r : Nat → Bool} {κ : Nat → List (List Nat)} {i j : Nat} (h : i ≠ j) : ahF r κ i j = !ahF r κ j i := by
  unfold ahF
  by_cases e : r i = r j
  · rw [if_pos e, if_pos e.symm, ← e]
    by_cases t : r i = true
    · rw [if_pos t, if_pos t]
      rcases ltK_tri (κ i) (κ j) with q | q | q
      · have := ltK_asy _ _ q
        rw [q, this.1, show decide (κ j = κ i) = false from decide_eq_false (fun z => this.2 z.symm)]
        rfl
      · have e1 : ltK (κ i) (κ j) = false := by
          cases c : ltK (κ i) (κ j) with
          | false => rfl
          | true => exact absurd q (ltK_asy _ _ c).2
        have e2 : ltK (κ j) (κ i) = false := by
          cases c : ltK (κ j) (κ i) with
          | false => rfl
          | true => exact absurd q.symm (ltK_asy _ _ c).2
        rw [e1, e2, show decide (κ i = κ j) = true from decide_eq_true q, show decide (κ j = κ i) = true from decide_eq_true q.symm]
        by_cases c : i < j
        · simp [c]; omega
        · simp [c]; omega
      · have := ltK_asy _ _ q
        rw [q, this.1, show decide (κ i = κ j) = false from decide_eq_false (fun z => this.2 z.symm)]
        rfl
    · rw [if_neg t, if_neg t]
      by_cases c : i < j
      · simp [c]; omega
      · simp [c]; omega
  · rw [if_neg e, if_neg (fun q => e q.symm)]
    cases h1 : r i <;> cases h2 : r j <;> simp_all
theorem ahF_trans {r : Nat → Bool} {κ : Nat → List (List Nat)} {i j l : Nat} (h1 : ahF r κ i j = true) (h2 : ahF r κ j l = true) : ahF r κ i l = true := by
  unfold ahF at h1 h2 ⊢
  cases ri : r i with
  | false =>
    cases rj : r j with
    | true => rw [ri, rj] at h1; simp at h1
    | false =>
      rw [ri, rj] at h1
      simp at h1
      cases rl : r l with
      | true => rw [rj, rl] at h2; simp at h2
      | false =>
        rw [rj, rl] at h2
        simp at h2
        simp
        omega
  | true =>
    cases rl : r l with
    | false => simp
    | true =>
      cases rj : r j with
      | false => rw [rj, rl] at h2; simp at h2
      | true =>
        rw [ri, rj] at h1
        rw [rj, rl] at h2
        simp at h1 h2 ⊢
        rcases h1 with a | ⟨a1, a2⟩
        · rcases h2 with b | ⟨b1, b2⟩
          · exact Or.inl (ltK_trans _ _ _ a b)
          · exact Or.inl (b1 ▸ a)
        · rcases h2 with b | ⟨b1, b2⟩
          · exact Or.inl (a1.symm ▸ b)
          · exact Or.inr ⟨a1.trans b1, by omega⟩
theorem bef_ah {r : Nat → Bool} {κ : Nat → List (List Nat)} {i j : Nat} (h : j < i) : befL (r i) (κ i) (r j) (κ j) = ahF r κ i j := by
  unfold befL ahF
  have hlt : decide (i < j) = false := decide_eq_false (by omega)
  cases r i <;> cases r j <;> simp [hlt]
theorem insB_perm {bef : Nat → Nat → Bool} {x : Nat} : ∀ l : List Nat, (insB bef x l).Perm (x :: l) := by
  intro l
  induction l with
  | nil => exact List.Perm.refl _
  | cons y r ih =>
    unfold insB
    split
    · exact (List.Perm.cons y ih).trans (List.Perm.swap x y r)
    · exact List.Perm.refl _
theorem rnkR_perm {bef : Nat → Nat → Bool} : ∀ n, (rnkR bef n).Perm (List.range n) := by
  intro n
  induction n with
  | zero => exact List.Perm.refl _
  | succ n ih =>
    rw [rnkR, List.range_succ]
    exact (insB_perm _).trans ((List.Perm.cons n ih).trans (List.perm_append_comm (l₁ := [n]) (l₂ := List.range n)))
theorem rnkR_sorted {bef : Nat → Nat → Bool} {r : Nat → Bool} {κ : Nat → List (List Nat)} : ∀ n, (∀ i j, i < n → j < i → bef i j = ahF r κ i j) → (rnkR bef n).Pairwise (fun x y => ahF r κ y x = true) := by
  intro n
  induction n with
  | zero => intro _; exact List.Pairwise.nil
  | succ n ih =>
    intro hb
    have hs := ih (fun i j hi hj => hb i j (by omega) hj)
    have hm : ∀ y ∈ rnkR bef n, y < n := fun y hy => (rnkR_mem n y).mp hy
    rw [rnkR]
    have : ∀ l : List Nat, (∀ y ∈ l, y < n) → l.Pairwise (fun x y => ahF r κ y x = true) → (insB bef n l).Pairwise (fun x y => ahF r κ y x = true) := by
      intro l
      induction l with
      | nil => intro _ _; exact List.pairwise_singleton _ _
      | cons y l ihl =>
        intro hl hp
        have hy := hl y List.mem_cons_self
        have hb1 := hb n y (by omega) hy
        rw [List.pairwise_cons] at hp
        unfold insB
        by_cases c : bef n y = true
        · rw [if_pos c, List.pairwise_cons]
          refine ⟨fun z hz => ?_, ihl (fun z hz => hl z (List.mem_cons_of_mem _ hz)) hp.2⟩
          rcases (insB_mem l z).mp hz with e | e
          · rw [e, ← hb1]; exact c
          · exact hp.1 z e
        · rw [if_neg c, List.pairwise_cons]
          have hyn : ahF r κ y n = true := by
            rw [ahF_tot (by omega), ← hb1]
            simp at c
            rw [c]; rfl
          refine ⟨fun z hz => ?_, List.pairwise_cons.mpr hp⟩
          rcases List.mem_cons.mp hz with e | e
          · rw [e]; exact hyn
          · exact ahF_trans (hp.1 z e) hyn
    exact this _ hm hs
theorem idx_count {r : Nat → Bool} {κ : Nat → List (List Nat)} {R : List Nat} {n i : Nat} (hp : R.Perm (List.range n)) (hs : R.Pairwise (fun x y => ahF r κ x y = true)) (hi : i < n) : R.idxOf i = ((List.range n).filter (fun j => decide (j ≠ i) && ahF r κ j i)).length := by
  have hnd : R.Nodup := hp.nodup_iff.mpr List.nodup_range
  have him : i ∈ R := hp.mem_iff.mpr (List.mem_range.mpr hi)
  obtain ⟨L, Q, e⟩ := List.append_of_mem him
  rw [← (hp.filter _).length_eq]
  subst e
  rw [List.nodup_append, List.nodup_cons] at hnd
  obtain ⟨n1, ⟨n2, n3⟩, n4⟩ := hnd
  rw [List.pairwise_append, List.pairwise_cons] at hs
  obtain ⟨_, ⟨s1, _⟩, s2⟩ := hs
  have hiL : i ∉ L := fun q => n4 i q i List.mem_cons_self rfl
  rw [List.idxOf_append, if_neg hiL, List.idxOf_cons_self, List.filter_append, List.length_append, List.filter_cons, if_neg (by simp)]
  have e1 : L.filter (fun j => decide (j ≠ i) && ahF r κ j i) = L := List.filter_eq_self.mpr (fun j hj => by
    have := s2 j hj i List.mem_cons_self
    have hne : j ≠ i := fun q => hiL (q ▸ hj)
    simp [hne, this])
  have e2 : Q.filter (fun j => decide (j ≠ i) && ahF r κ j i) = [] := List.filter_eq_nil_iff.mpr (fun j hj => by
    have h1 := s1 j hj
    have hne : j ≠ i := fun q => n2 (q ▸ hj)
    rw [ahF_tot (fun q => hne q.symm)] at h1
    simp at h1
    simp [h1])
  rw [e1, e2]
  simp
end ORDER
