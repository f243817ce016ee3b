/-! the memory of the system, and what a heap that holds it is -/
section CORE
/-- next address; kind of each cell; length of an array; int fields; byte and boolean arrays; int arrays; long arrays; reference fields; reference arrays -/
abbrev Mm : Type := Nat × (Nat → Nat) × (Nat → Nat) × (Nat → Nat → Int32) × (Nat → Nat → Int32) × (Nat → Nat → Int32) × (Nat → Nat → Int64) × (Nat → Nat → Option Nat) × (Nat → Nat → Option Nat)
def mN (μ : Mm) : Nat := μ.1
def mK (μ : Mm) : Nat → Nat := μ.2.1
def mL (μ : Mm) : Nat → Nat := μ.2.2.1
def mF (μ : Mm) : Nat → Nat → Int32 := μ.2.2.2.1
def mB (μ : Mm) : Nat → Nat → Int32 := μ.2.2.2.2.1
def mA (μ : Mm) : Nat → Nat → Int32 := μ.2.2.2.2.2.1
def mJ (μ : Mm) : Nat → Nat → Int64 := μ.2.2.2.2.2.2.1
def mP (μ : Mm) : Nat → Nat → Option Nat := μ.2.2.2.2.2.2.2.1
def mO (μ : Mm) : Nat → Nat → Option Nat := μ.2.2.2.2.2.2.2.2
def up2 {α : Type} (f : Nat → Nat → α) (a k : Nat) (v : α) : Nat → Nat → α := fun b j => if b = a then (if j = k then v else f b j) else f b j
def up1 {α : Type} (f : Nat → α) (a : Nat) (v : α) : Nat → α := fun b => if b = a then v else f b
def sF (μ : Mm) (a k : Nat) (v : Int32) : Mm := (mN μ, mK μ, mL μ, up2 (mF μ) a k v, mB μ, mA μ, mJ μ, mP μ, mO μ)
def sB (μ : Mm) (a k : Nat) (v : Int32) : Mm := (mN μ, mK μ, mL μ, mF μ, up2 (mB μ) a k v, mA μ, mJ μ, mP μ, mO μ)
def sA (μ : Mm) (a k : Nat) (v : Int32) : Mm := (mN μ, mK μ, mL μ, mF μ, mB μ, up2 (mA μ) a k v, mJ μ, mP μ, mO μ)
def sJ (μ : Mm) (a k : Nat) (v : Int64) : Mm := (mN μ, mK μ, mL μ, mF μ, mB μ, mA μ, up2 (mJ μ) a k v, mP μ, mO μ)
def sP (μ : Mm) (a k : Nat) (v : Option Nat) : Mm := (mN μ, mK μ, mL μ, mF μ, mB μ, mA μ, mJ μ, up2 (mP μ) a k v, mO μ)
def sO (μ : Mm) (a k : Nat) (v : Option Nat) : Mm := (mN μ, mK μ, mL μ, mF μ, mB μ, mA μ, mJ μ, mP μ, up2 (mO μ) a k v)
/-- a new object or array of kind k and length n, all zero, at the next address -/
def sN (μ : Mm) (k n : Nat) : Mm := (mN μ + 1, up1 (mK μ) (mN μ) k, up1 (mL μ) (mN μ) n, up1 (mF μ) (mN μ) (fun _ => 0), up1 (mB μ) (mN μ) (fun _ => 0), up1 (mA μ) (mN μ) (fun _ => 0), up1 (mJ μ) (mN μ) (fun _ => 0), up1 (mP μ) (mN μ) (fun _ => none), up1 (mO μ) (mN μ) (fun _ => none))
/-- launch; class and field tables; array classes; first address of the system; the heap below it; what else a state must say -/
abbrev En : Type := Launch × va_G × (Nat → ClassId) × Nat × Heap × (State → Prop)
def xl (E : En) : Launch := E.1
def xD (E : En) : va_G := E.2.1
def xC (E : En) : Nat → ClassId := E.2.2.1
def xo (E : En) : Nat := E.2.2.2.1
def xH (E : En) : Heap := E.2.2.2.2.1
def xP (E : En) : State → Prop := E.2.2.2.2.2
def xT (E : En) : List (ClassId × FieldType) := [(xC E 0, .byte), (xC E 1, .int), (xC E 2, .long), (xC E 3, .boolean), (xC E 4, .object RX2), (xC E 5, .object RX4), (xC E 6, .object RX8), (xC E 7, .array .int)]
def XP (E : En) : Prop := ∀ s U : State, s.WarmedH U.vm → xP E s → xP E U
/-- which fields of a class are references -/
def fty (c : Nat) : List Bool :=
  if c = 0 then [true, true, true, false] else if c = 1 then [true, false] else if c = 2 then [false, false, true, false, false, true, true, false, false, true]
  else if c = 3 then [true, false, true, true, true, true, false, true] else if c = 4 then [false, true, true, true, false, true, true, true, false, true, false, true, false]
  else if c = 5 then [true, false, false, false, false] else if c = 6 then [true, true] else if c = 7 then [true, false] else if c = 8 then [true, false, true, false]
  else if c = 9 then [true, true, true, true, true, true, true, false, true, false, true, false, true, true, true]
  else [true, false, false, false, true, true, true, true, true, true, true, true, true, true, true, true, true, true, false, false, false, true, true, true, true, true, true, true, true, false, false, false, true, true, true, true, false, true, true, false, true, true, true, true, false, true, true, true, true]
def flds (μ : Mm) (a : Nat) : Nat → List Bool → List Value
  | _, [] => []
  | k, b :: r => (if b then va_rf (mP μ a k) else .int (mF μ a k)) :: flds μ a (k + 1) r
def cellOf (E : En) (μ : Mm) (a : Nat) : Option va_E :=
  if mK μ a = 0 then none
  else if mK μ a < 12 then some (.inr (mK μ a - 1, flds μ a 0 (fty (mK μ a - 1))))
  else if mK μ a = 12 then some (.inl (xC E 0, mL μ a, .inl (mB μ a)))
  else if mK μ a = 13 then some (.inl (xC E 1, mL μ a, .inl (mA μ a)))
  else if mK μ a = 14 then some (.inl (xC E 2, mL μ a, .inr (.inl (mJ μ a))))
  else if mK μ a = 15 then some (.inl (xC E 3, mL μ a, .inl (mB μ a)))
  else if mK μ a < 20 then some (.inl (xC E (mK μ a - 12), mL μ a, .inr (.inr (.inr (.inr (mO μ a))))))
  else none
/-- the heap holds the memory -/
def Rl (E : En) (μ : Mm) (H : Heap) : Prop := mN μ = H.size ∧ xo E ≤ mN μ ∧ (∀ q : Nat, q < xo E → H[q]? = (xH E)[q]?) ∧ (∀ a : Nat, mN μ ≤ a → mK μ a = 0) ∧ ∀ (a : Nat) (e : va_E), cellOf E μ a = some e → xo E ≤ a ∧ va_at (xD E) vwCl (a, e) H
theorem up1_s {α : Type} {f : Nat → α} {a : Nat} {v : α} : up1 f a v a = v := by simp [up1]
theorem up1_n {α : Type} {f : Nat → α} {a b : Nat} {v : α} (h : b ≠ a) : up1 f a v b = f b := by simp [up1, h]
theorem up2_s {α : Type} {f : Nat → Nat → α} {a k : Nat} {v : α} : up2 f a k v a k = v := by simp [up2]
theorem up2_a {α : Type} {f : Nat → Nat → α} {a b k : Nat} {v : α} (h : b ≠ a) : up2 f a k v b = f b := by funext j; simp [up2, h]
theorem up2_k {α : Type} {f : Nat → Nat → α} {a b k j : Nat} {v : α} (h : j ≠ k) : up2 f a k v b j = f b j := by unfold up2; split <;> simp [h]
theorem up2_row (f : Nat → Nat → Int32) (a k : Nat) (v : Int32) : up2 f a k v a = upd (f a) k v := by funext j; by_cases h : j = k <;> simp [up2, upd, h]
theorem up2_rowL (f : Nat → Nat → Int64) (a k : Nat) (v : Int64) : up2 f a k v a = vp_updL (f a) k v := by funext j; by_cases h : j = k <;> simp [up2, vp_updL, h]
theorem up2_rowP {α : Type} (f : Nat → Nat → α) (a k : Nat) (v : α) : up2 f a k v a = va_up (f a) k v := by funext j; by_cases h : j = k <;> simp [up2, va_up, h]
theorem flds_get (μ : Mm) (a : Nat) : ∀ (l : List Bool) (j k : Nat), (flds μ a j l)[k]? = (l[k]?).map (fun b => if b then va_rf (mP μ a (j + k)) else .int (mF μ a (j + k)))
  | [], j, k => by simp [flds]
  | b :: r, j, 0 => by simp [flds]
  | b :: r, j, k + 1 => by
    have e : j + 1 + k = j + (k + 1) := by omega
    simp [flds, flds_get μ a r (j + 1) k, e]
theorem flds_len (μ : Mm) (a : Nat) : ∀ (l : List Bool) (j : Nat), (flds μ a j l).length = l.length
  | [], j => rfl
  | b :: r, j => by simp [flds, flds_len μ a r (j + 1)]
theorem flds_setF (μ : Mm) (a k : Nat) (v : Int32) (l : List Bool) (hk : l[k]? = some false) : flds (sF μ a k v) a 0 l = (flds μ a 0 l).set k (.int v) := by
  apply List.ext_getElem?
  intro i
  rw [flds_get, List.getElem?_set, flds_get, flds_len]
  by_cases h : k = i
  · subst h
    have hl : k < l.length := (List.getElem?_eq_some_iff.mp hk).1
    rw [hk, if_pos rfl, if_pos hl]
    simp [sF, mF, up2]
  · have h' : ¬ i = k := fun e => h e.symm
    simp [h, sF, mF, mP, up2, h']
theorem flds_setP (μ : Mm) (a k : Nat) (v : Option Nat) (l : List Bool) (hk : l[k]? = some true) : flds (sP μ a k v) a 0 l = (flds μ a 0 l).set k (va_rf v) := by
  apply List.ext_getElem?
  intro i
  rw [flds_get, List.getElem?_set, flds_get, flds_len]
  by_cases h : k = i
  · subst h
    have hl : k < l.length := (List.getElem?_eq_some_iff.mp hk).1
    rw [hk, if_pos rfl, if_pos hl]
    simp [sP, mP, up2]
  · have h' : ¬ i = k := fun e => h e.symm
    simp [h, sP, mF, mP, up2, h']
theorem flds_congr {μ μ' : Mm} {a : Nat} (hF : mF μ' a = mF μ a) (hP : mP μ' a = mP μ a) : ∀ (l : List Bool) (j : Nat), flds μ' a j l = flds μ a j l
  | [], _ => rfl
  | b :: r, j => by simp only [flds, hF, hP, flds_congr hF hP r (j + 1)]
/-- the cells of the kinds -/
theorem cell_obj {E : En} {μ : Mm} {a c : Nat} (h : mK μ a = c + 1) (hc : c < 11) : cellOf E μ a = some (.inr (c, flds μ a 0 (fty c))) := by
  have h1 : ¬ mK μ a = 0 := by omega
  have h2 : mK μ a < 12 := by omega
  have h3 : mK μ a - 1 = c := by omega
  simp [cellOf, h1, h2, h3]
theorem cell_B {E : En} {μ : Mm} {a : Nat} (h : mK μ a = 12) : cellOf E μ a = some (.inl (xC E 0, mL μ a, .inl (mB μ a))) := by simp [cellOf, h]
theorem cell_A {E : En} {μ : Mm} {a : Nat} (h : mK μ a = 13) : cellOf E μ a = some (.inl (xC E 1, mL μ a, .inl (mA μ a))) := by simp [cellOf, h]
theorem cell_J {E : En} {μ : Mm} {a : Nat} (h : mK μ a = 14) : cellOf E μ a = some (.inl (xC E 2, mL μ a, .inr (.inl (mJ μ a)))) := by simp [cellOf, h]
theorem cell_Z {E : En} {μ : Mm} {a : Nat} (h : mK μ a = 15) : cellOf E μ a = some (.inl (xC E 3, mL μ a, .inl (mB μ a))) := by simp [cellOf, h]
theorem cell_O {E : En} {μ : Mm} {a k : Nat} (h : mK μ a = k + 16) (hk : k < 4) : cellOf E μ a = some (.inl (xC E (k + 4), mL μ a, .inr (.inr (.inr (.inr (mO μ a)))))) := by
  have h1 : ¬ mK μ a = 0 := by omega
  have h2 : ¬ mK μ a < 12 := by omega
  have h3 : ¬ mK μ a = 12 := by omega
  have h4 : ¬ mK μ a = 13 := by omega
  have h5 : ¬ mK μ a = 14 := by omega
  have h6 : ¬ mK μ a = 15 := by omega
  have h7 : mK μ a < 20 := by omega
  have h8 : mK μ a - 12 = k + 4 := by omega
  simp [cellOf, h1, h2, h3, h4, h5, h6, h7, h8]
/-- a cell depends on its own rows alone -/
theorem cell_congr {E : En} {μ μ' : Mm} {a : Nat} (hK : mK μ' a = mK μ a) (hL : mL μ' a = mL μ a) (hF : mF μ' a = mF μ a) (hB : mB μ' a = mB μ a) (hA : mA μ' a = mA μ a) (hJ : mJ μ' a = mJ μ a) (hP : mP μ' a = mP μ a) (hO : mO μ' a = mO μ a) : cellOf E μ' a = cellOf E μ a := by
  simp only [cellOf, hK, hL, hB, hA, hJ, hO, flds_congr hF hP]
theorem Rl.at {E : En} {μ : Mm} {H : Heap} (h : Rl E μ H) {a : Nat} {e : va_E} (he : cellOf E μ a = some e) : va_P (xD E) vwCl [(a, e)] H := by
  intro k q hk
  cases k with
  | zero => cases hk; exact (h.2.2.2.2 a e he).2
  | succ k => simp at hk
/-- one cell was written -/
theorem Rl.put {E : En} {μ μ' : Mm} {H H' : Heap} {a : Nat} {e : va_E} (h : Rl E μ H) (hz : H'.size = H.size) (ho : ∀ q, q ≠ a → H'[q]? = H[q]?) (hN : mN μ' = mN μ) (hK : mK μ' = mK μ) (hoff : ∀ b, b ≠ a → cellOf E μ' b = cellOf E μ b) (hc : cellOf E μ' a = some e) (hlo : xo E ≤ a) (hat : va_at (xD E) vwCl (a, e) H') : Rl E μ' H' := by
  obtain ⟨h1, h2, h3, h4, h5⟩ := h
  refine ⟨by rw [hN, hz]; exact h1, by rw [hN]; exact h2, fun q hq => ?_, fun b hb => by rw [hK]; exact h4 b (by rw [← hN]; exact hb), fun b x hx => ?_⟩
  · rw [ho q (by omega)]; exact h3 q hq
  · by_cases hb : b = a
    · subst hb
      rw [hc] at hx
      cases hx
      exact ⟨hlo, hat⟩
    · rw [hoff b hb] at hx
      exact ⟨(h5 b x hx).1, (h5 b x hx).2.kept (ho b hb)⟩
/-- one cell was made -/
theorem Rl.new {E : En} {μ : Mm} {H H' : Heap} {k n : Nat} {e : va_E} (h : Rl E μ H) (hz : H'.size = H.size + 1) (ho : ∀ q, q < H.size → H'[q]? = H[q]?) (hc : cellOf E (sN μ k n) (mN μ) = some e) (hat : va_at (xD E) vwCl (mN μ, e) H') : Rl E (sN μ k n) H' := by
  obtain ⟨h1, h2, h3, h4, h5⟩ := h
  refine ⟨show mN μ + 1 = H'.size by rw [hz, h1], Nat.le_succ_of_le h2, fun q hq => ?_, fun b hb => ?_, fun b x hx => ?_⟩
  · rw [ho q (by omega)]; exact h3 q hq
  · have hb' : mN μ + 1 ≤ b := hb
    show up1 (mK μ) (mN μ) k b = 0
    rw [up1_n (by omega)]
    exact h4 b (by omega)
  · by_cases hb : b = mN μ
    · subst hb
      rw [hc] at hx
      cases hx
      exact ⟨h2, hat⟩
    · have e1 : cellOf E (sN μ k n) b = cellOf E μ b := cell_congr (up1_n hb) (up1_n hb) (up1_n hb) (up1_n hb) (up1_n hb) (up1_n hb) (up1_n hb) (up1_n hb)
      rw [e1] at hx
      have h6 := h5 b x hx
      exact ⟨h6.1, h6.2.kept (ho b h6.2.lt)⟩
end CORE
