/-! readings: pure words -/
section RDS
theorem mk_ex (p : Nat → Prop) : ∀ n, ∃ v, v < 2 ^ n ∧ ∀ q, v.testBit q = true ↔ q < n ∧ p q := by
  intro n
  induction n with
  | zero => exact ⟨0, by decide, fun q => by simp⟩
  | succ n ih =>
    obtain ⟨v, h1, h2⟩ := ih
    have h1' : v < 2 ^ (n + 1) := Nat.lt_of_lt_of_le h1 (Nat.pow_le_pow_right (by decide) (by omega))
    by_cases c : p n
    · refine ⟨v ||| 2 ^ n, or_lt h1' (pow_lt (by omega)), fun q => ?_⟩
      rw [tb_or, h2, tb_pow]
      constructor
      · rintro (⟨a, b⟩ | a)
        · exact ⟨by omega, b⟩
        · subst a; exact ⟨by omega, c⟩
      · rintro ⟨a, b⟩
        by_cases e : q = n
        · exact Or.inr e
        · exact Or.inl ⟨by omega, b⟩
    · refine ⟨v, h1', fun q => ?_⟩
      rw [h2]
      constructor
      · rintro ⟨a, b⟩; exact ⟨by omega, b⟩
      · rintro ⟨a, b⟩
        have : q ≠ n := fun e => c (e ▸ b)
        exact ⟨by omega, b⟩
noncomputable def msk (p : Nat → Prop) : Nat := (mk_ex p 9).choose
theorem msk_lt (p : Nat → Prop) : msk p < 512 := (mk_ex p 9).choose_spec.1
theorem msk_bit (p : Nat → Prop) (q : Nat) : (msk p).testBit q = true ↔ q < 9 ∧ p q := (mk_ex p 9).choose_spec.2 q
theorem bits_eq {v u : Nat} (h : ∀ q, v.testBit q = true ↔ u.testBit q = true) : v = u := Nat.eq_of_testBit_eq (fun q => by
  have := h q
  cases a : v.testBit q <;> cases b : u.testBit q <;> simp_all)
theorem tb9 {v q : Nat} (hv : v < 512) (h : v.testBit q = true) : q < 9 := by
  rcases Nat.lt_or_ge q 9 with a | a
  · exact a
  · rw [Nat.testBit_lt_two_pow (Nat.lt_of_lt_of_le hv (Nat.pow_le_pow_right (n := 2) (i := 9) (by decide) a))] at h; cases h
theorem msk_of {p : Nat → Prop} {v : Nat} (hv : v < 512) (h : ∀ q, v.testBit q = true ↔ p q) : v = msk p := bits_eq (fun q => by
  rw [msk_bit]
  exact ⟨fun a => ⟨tb9 hv a, (h q).mp a⟩, fun a => (h q).mpr a.2⟩)
noncomputable def stp (sl : List Slot0) (o k : Nat) : Nat := msk (fun q => ∃ i x, o.testBit i = true ∧ sl[i]? = some x ∧ x.1 = k ∧ Bhd sl i q)
noncomputable def bhm (sl : List Slot0) (i : Nat) : Nat := msk (Bhd sl i)
theorem Opn_lt {sl : List Slot0} {i q : Nat} (h : Opn sl i q) : (i ≤ q ∧ q < sl.length) ∨ q = 8 := by
  rcases h with h | h
  · exact Or.inl ⟨h.1, h.2.1⟩
  · exact Or.inr h.1
theorem Bhd_lt {sl : List Slot0} {i q : Nat} (h : Bhd sl i q) : (i ≤ q ∧ q < sl.length) ∨ q = 8 := by
  rcases h with h | ⟨h, x, hx, _⟩
  · rcases Opn_lt h with g | g
    · exact Or.inl ⟨by omega, g.2⟩
    · exact Or.inr g
  · exact Or.inl ⟨by omega, h ▸ (List.getElem?_eq_some_iff.mp hx).1⟩
theorem stp_bit {sl : List Slot0} (hn : sl.length ≤ 8) (o k q : Nat) : (stp sl o k).testBit q = true ↔ ∃ i x, o.testBit i = true ∧ sl[i]? = some x ∧ x.1 = k ∧ Bhd sl i q := by
  unfold stp
  rw [msk_bit]
  refine ⟨fun h => h.2, fun h => ⟨?_, h⟩⟩
  obtain ⟨i, x, _, _, _, hb⟩ := h
  rcases Bhd_lt hb with g | g <;> omega
theorem bhm_bit {sl : List Slot0} (hn : sl.length ≤ 8) (i q : Nat) : (bhm sl i).testBit q = true ↔ Bhd sl i q := by
  unfold bhm
  rw [msk_bit]
  refine ⟨fun h => h.2, fun h => ⟨?_, h⟩⟩
  rcases Bhd_lt h with g | g <;> omega
/-- a mask of slots of the shape, and the end -/
def Om (sl : List Slot0) (o : Nat) : Prop := o < 512 ∧ ∀ q, o.testBit q = true → q < sl.length ∨ q = 8
theorem Om_stp {sl : List Slot0} (hn : sl.length ≤ 8) (o k : Nat) : Om sl (stp sl o k) := ⟨msk_lt _, fun q h => by
  obtain ⟨i, x, _, _, _, hb⟩ := (stp_bit hn o k q).mp h
  rcases Bhd_lt hb with g | g
  · exact Or.inl g.2
  · exact Or.inr g⟩
theorem Om_bhm {sl : List Slot0} (hn : sl.length ≤ 8) (i : Nat) : Om sl (bhm sl i) := ⟨msk_lt _, fun q h => by
  rcases Bhd_lt ((bhm_bit hn i q).mp h) with g | g
  · exact Or.inl g.2
  · exact Or.inr g⟩
/-- all readings, in the order of their kinds: cost and kinds -/
noncomputable def AR (sl : List Slot0) (C : Nat → Nat → Nat) : Nat → Nat → Nat → Nat → Nat → List (Nat × Nat)
  | 0, _, c, m, o => if o.testBit 8 = true then [(c, m)] else []
  | f + 1, w, c, m, o => (List.range 7).flatMap (fun k => if C w k < 1000 then AR sl C f (w + 1) (c + C w k) (m * 8 + k) (stp sl o k) else [])
/-- there is a reading with this cost -/
def Rn (sl : List Slot0) (C : Nat → Nat → Nat) : Nat → Nat → Nat → Nat → Prop
  | 0, _, o, d => d = 0 ∧ o.testBit 8 = true
  | f + 1, w, o, d => ∃ k, k < 7 ∧ C w k < 1000 ∧ ∃ d', d = C w k + d' ∧ Rn sl C f (w + 1) (stp sl o k) d'
theorem AR_mem {sl : List Slot0} {C : Nat → Nat → Nat} : ∀ f w c m o x, x ∈ AR sl C f w c m o → ∃ d, x.1 = c + d ∧ Rn sl C f w o d := by
  intro f
  induction f with
  | zero =>
    intro w c m o x h
    unfold AR at h
    split at h
    next q => simp at h; subst h; exact ⟨0, rfl, rfl, q⟩
    next => simp at h
  | succ f ih =>
    intro w c m o x h
    unfold AR at h
    obtain ⟨k, hk, hx⟩ := List.mem_flatMap.mp h
    split at hx
    next q =>
      obtain ⟨d, e, r⟩ := ih _ _ _ _ _ hx
      exact ⟨C w k + d, by omega, k, List.mem_range.mp hk, q, d, rfl, r⟩
    next => simp at hx
theorem Rn_AR {sl : List Slot0} {C : Nat → Nat → Nat} : ∀ f w c m o d, Rn sl C f w o d → ∃ m', (c + d, m') ∈ AR sl C f w c m o := by
  intro f
  induction f with
  | zero =>
    intro w c m o d h
    obtain ⟨h1, h2⟩ := h
    subst h1
    exact ⟨m, by unfold AR; rw [if_pos h2]; simp⟩
  | succ f ih =>
    intro w c m o d h
    obtain ⟨k, hk, hc, d', e, r⟩ := h
    obtain ⟨m', hm⟩ := ih (w + 1) (c + C w k) (m * 8 + k) _ d' r
    refine ⟨m', ?_⟩
    unfold AR
    refine List.mem_flatMap.mpr ⟨k, List.mem_range.mpr hk, ?_⟩
    rw [if_pos hc, e, ← Nat.add_assoc]
    exact hm
theorem AR_nil {sl : List Slot0} {C : Nat → Nat → Nat} {f w c m o : Nat} (h : ∀ d, ¬ Rn sl C f w o d) : AR sl C f w c m o = [] := by
  cases e : AR sl C f w c m o with
  | nil => rfl
  | cons x r =>
    obtain ⟨d, _, hd⟩ := AR_mem f w c m o x (by rw [e]; simp)
    exact absurd hd (h d)
theorem Rn_le {sl : List Slot0} {C : Nat → Nat → Nat} (hC : ∀ w k, C w k < 1000 → C w k ≤ 5) : ∀ f w o d, Rn sl C f w o d → d ≤ 5 * f := by
  intro f
  induction f with
  | zero => intro w o d h; rw [h.1]; omega
  | succ f ih =>
    intro w o d h
    obtain ⟨k, hk, hc, d', e, r⟩ := h
    have := ih _ _ _ r
    have := hC w k hc
    omega
theorem Rn_un {sl : List Slot0} {C : Nat → Nat → Nat} (hn : sl.length ≤ 8) (I : Nat → Prop) : ∀ f w (g : Nat → Nat) o d, (∀ q, o.testBit q = true ↔ ∃ a, I a ∧ (g a).testBit q = true) → (Rn sl C f w o d ↔ ∃ a, I a ∧ Rn sl C f w (g a) d) := by
  intro f
  induction f with
  | zero =>
    intro w g o d h
    unfold Rn
    rw [h 8]
    constructor
    · rintro ⟨a, i, b, c⟩; exact ⟨i, b, a, c⟩
    · rintro ⟨i, b, a, c⟩; exact ⟨a, i, b, c⟩
  | succ f ih =>
    intro w g o d h
    have hs : ∀ k q, (stp sl o k).testBit q = true ↔ ∃ a, I a ∧ (stp sl (g a) k).testBit q = true := by
      intro k q
      rw [stp_bit hn]
      constructor
      · rintro ⟨i, x, a, b⟩
        obtain ⟨y, h1, h2⟩ := (h i).mp a
        exact ⟨y, h1, (stp_bit hn _ _ _).mpr ⟨i, x, h2, b⟩⟩
      · rintro ⟨y, h1, h2⟩
        obtain ⟨i, x, a, b⟩ := (stp_bit hn _ _ _).mp h2
        exact ⟨i, x, (h i).mpr ⟨y, h1, a⟩, b⟩
    unfold Rn
    constructor
    · rintro ⟨k, k1, k2, d', k3, k4⟩
      obtain ⟨a, a1, a2⟩ := (ih (w + 1) (fun a => stp sl (g a) k) _ d' (hs k)).mp k4
      exact ⟨a, a1, k, k1, k2, d', k3, a2⟩
    · rintro ⟨a, a1, k, k1, k2, d', k3, a2⟩
      exact ⟨k, k1, k2, d', k3, (ih (w + 1) (fun a => stp sl (g a) k) _ d' (hs k)).mpr ⟨a, a1, a2⟩⟩
theorem Rn_stp {sl : List Slot0} {C : Nat → Nat → Nat} (hn : sl.length ≤ 8) (f w o k d : Nat) : Rn sl C f w (stp sl o k) d ↔ ∃ i, (o.testBit i = true ∧ ∃ x, sl[i]? = some x ∧ x.1 = k) ∧ Rn sl C f w (bhm sl i) d := by
  refine Rn_un hn (fun i => o.testBit i = true ∧ ∃ x, sl[i]? = some x ∧ x.1 = k) f w (fun i => bhm sl i) _ d (fun q => ?_)
  rw [stp_bit hn]
  constructor
  · rintro ⟨i, x, a, b, c, e⟩; exact ⟨i, ⟨a, x, b, c⟩, (bhm_bit hn i q).mpr e⟩
  · rintro ⟨i, ⟨a, x, b, c⟩, e⟩; exact ⟨i, x, a, b, c, (bhm_bit hn i q).mp e⟩
/-- the word w in slot i, and those behind it -/
def Rs (sl : List Slot0) (C : Nat → Nat → Nat) (f w i d : Nat) : Prop := ∃ x, sl[i]? = some x ∧ C w x.1 < 1000 ∧ ∃ d', d = C w x.1 + d' ∧ Rn sl C f (w + 1) (bhm sl i) d'
theorem Rn_slots {sl : List Slot0} {C : Nat → Nat → Nat} (hn : sl.length ≤ 8) (h7 : ∀ x ∈ sl, x.1 < 7) (f w o d : Nat) : Rn sl C (f + 1) w o d ↔ ∃ i, o.testBit i = true ∧ Rs sl C f w i d := by
  show (∃ k, k < 7 ∧ C w k < 1000 ∧ ∃ d', d = C w k + d' ∧ Rn sl C f (w + 1) (stp sl o k) d') ↔ _
  constructor
  · rintro ⟨k, k1, k2, d', k3, k4⟩
    obtain ⟨i, ⟨a, x, b, c⟩, e⟩ := (Rn_stp hn f (w + 1) o k d').mp k4
    exact ⟨i, a, x, b, by rw [c]; exact k2, d', by rw [c]; exact k3, e⟩
  · rintro ⟨i, a, x, b, c, d', e, r⟩
    exact ⟨x.1, h7 x (List.mem_of_getElem? b), c, d', e, (Rn_stp hn f (w + 1) o x.1 d').mpr ⟨i, ⟨a, x, b, rfl⟩, r⟩⟩
/-- the least number with P, 1000 if there is none -/
def Mo (P : Nat → Prop) (v : Nat) : Prop := (v = 1000 ∧ ∀ d, ¬ P d) ∨ (v ≤ 900 ∧ P v ∧ ∀ d, P d → v ≤ d)
theorem Mo.le {P : Nat → Prop} {v : Nat} (h : Mo P v) : v ≤ 1000 := by rcases h with h | h <;> omega
theorem Mo.uniq {P : Nat → Prop} {v u : Nat} (h : Mo P v) (g : Mo P u) : v = u := by
  rcases h with ⟨h1, h2⟩ | ⟨h1, h2, h3⟩ <;> rcases g with ⟨g1, g2⟩ | ⟨g1, g2, g3⟩
  · omega
  · exact absurd g2 (h2 u)
  · exact absurd h2 (g2 v)
  · have := h3 u g2; have := g3 v h2; omega
theorem Mo.congr {P Q : Nat → Prop} {v : Nat} (h : Mo P v) (e : ∀ d, P d ↔ Q d) : Mo Q v := by
  rcases h with ⟨h1, h2⟩ | ⟨h1, h2, h3⟩
  · exact Or.inl ⟨h1, fun d q => h2 d ((e d).mpr q)⟩
  · exact Or.inr ⟨h1, (e v).mp h2, fun d q => h3 d ((e d).mpr q)⟩
theorem Mo.lt {P : Nat → Prop} {v : Nat} (h : Mo P v) : v < 1000 ↔ ∃ d, P d := by
  rcases h with ⟨h1, h2⟩ | ⟨h1, h2, h3⟩
  · exact ⟨fun q => by omega, fun ⟨d, q⟩ => absurd q (h2 d)⟩
  · exact ⟨fun _ => ⟨v, h2⟩, fun _ => by omega⟩
theorem Mo.or {P Q : Nat → Prop} {v u : Nat} (h : Mo P v) (g : Mo Q u) : Mo (fun d => P d ∨ Q d) (min v u) := by
  rcases h with ⟨h1, h2⟩ | ⟨h1, h2, h3⟩ <;> rcases g with ⟨g1, g2⟩ | ⟨g1, g2, g3⟩
  · exact Or.inl ⟨by omega, fun d q => q.elim (h2 d) (g2 d)⟩
  · refine Or.inr ⟨by omega, Or.inr (by rw [Nat.min_eq_right (by omega)]; exact g2), fun d q => ?_⟩
    rcases q with q | q
    · exact absurd q (h2 d)
    · have := g3 d q; omega
  · refine Or.inr ⟨by omega, Or.inl (by rw [Nat.min_eq_left (by omega)]; exact h2), fun d q => ?_⟩
    rcases q with q | q
    · have := h3 d q; omega
    · exact absurd q (g2 d)
  · refine Or.inr ⟨by omega, ?_, fun d q => ?_⟩
    · rcases Nat.le_total v u with z | z
      · rw [Nat.min_eq_left z]; exact Or.inl h2
      · rw [Nat.min_eq_right z]; exact Or.inr g2
    · rcases q with q | q
      · have := h3 d q; omega
      · have := g3 d q; omega
theorem Mo.add {P : Nat → Prop} {v c : Nat} (h : Mo P v) (hc : c ≤ 5 ∨ c = 1000) (hb : ∀ d, P d → d ≤ 800) : Mo (fun d => c < 1000 ∧ ∃ d', d = c + d' ∧ P d') (min (c + v) 1000) := by
  rcases h with ⟨h1, h2⟩ | ⟨h1, h2, h3⟩
  · exact Or.inl ⟨by omega, fun d ⟨_, d', _, q⟩ => h2 d' q⟩
  · have := hb v h2
    rcases hc with hc | hc
    · refine Or.inr ⟨by omega, ⟨by omega, v, by omega, h2⟩, fun d ⟨_, d', e, q⟩ => ?_⟩
      have := h3 d' q
      omega
    · exact Or.inl ⟨by omega, fun d q => by omega⟩
end RDS
