/-! words for the memory: frames, what rows hold -/
section LIB
/-- nothing has changed but numbers in rows of S -/
def Fr (S : Nat → Prop) (μ μ' : Mm) : Prop := mN μ' = mN μ ∧ mK μ' = mK μ ∧ mL μ' = mL μ ∧ mP μ' = mP μ ∧ mO μ' = mO μ ∧ ∀ b, ¬ S b → mF μ' b = mF μ b ∧ mB μ' b = mB μ b ∧ mA μ' b = mA μ b ∧ mJ μ' b = mJ μ b
theorem Fr.rf {S : Nat → Prop} {μ : Mm} : Fr S μ μ := ⟨rfl, rfl, rfl, rfl, rfl, fun _ _ => ⟨rfl, rfl, rfl, rfl⟩⟩
theorem Fr.trans {S : Nat → Prop} {μ μ' μ'' : Mm} (h : Fr S μ μ') (h' : Fr S μ' μ'') : Fr S μ μ'' :=
  ⟨h'.1.trans h.1, h'.2.1.trans h.2.1, h'.2.2.1.trans h.2.2.1, h'.2.2.2.1.trans h.2.2.2.1, h'.2.2.2.2.1.trans h.2.2.2.2.1, fun b hb => ⟨(h'.2.2.2.2.2 b hb).1.trans (h.2.2.2.2.2 b hb).1, (h'.2.2.2.2.2 b hb).2.1.trans (h.2.2.2.2.2 b hb).2.1, (h'.2.2.2.2.2 b hb).2.2.1.trans (h.2.2.2.2.2 b hb).2.2.1, (h'.2.2.2.2.2 b hb).2.2.2.trans (h.2.2.2.2.2 b hb).2.2.2⟩⟩
theorem Fr.mono {S S' : Nat → Prop} {μ μ' : Mm} (hS : ∀ b, S b → S' b) (h : Fr S μ μ') : Fr S' μ μ' := ⟨h.1, h.2.1, h.2.2.1, h.2.2.2.1, h.2.2.2.2.1, fun b hb => h.2.2.2.2.2 b (fun q => hb (hS b q))⟩
theorem ne_of_S {S : Nat → Prop} {a b : Nat} (ha : S a) (hb : ¬ S b) : b ≠ a := fun e => hb (e ▸ ha)
theorem Fr.sF {S : Nat → Prop} {μ μ' : Mm} (h : Fr S μ μ') {a : Nat} (ha : S a) (k : Nat) (v : Int32) : Fr S μ (sF μ' a k v) := h.trans ⟨rfl, rfl, rfl, rfl, rfl, fun _ hb => ⟨up2_a (ne_of_S ha hb), rfl, rfl, rfl⟩⟩
theorem Fr.sB {S : Nat → Prop} {μ μ' : Mm} (h : Fr S μ μ') {a : Nat} (ha : S a) (k : Nat) (v : Int32) : Fr S μ (sB μ' a k v) := h.trans ⟨rfl, rfl, rfl, rfl, rfl, fun _ hb => ⟨rfl, up2_a (ne_of_S ha hb), rfl, rfl⟩⟩
theorem Fr.sA {S : Nat → Prop} {μ μ' : Mm} (h : Fr S μ μ') {a : Nat} (ha : S a) (k : Nat) (v : Int32) : Fr S μ (sA μ' a k v) := h.trans ⟨rfl, rfl, rfl, rfl, rfl, fun _ hb => ⟨rfl, rfl, up2_a (ne_of_S ha hb), rfl⟩⟩
theorem Fr.sJ {S : Nat → Prop} {μ μ' : Mm} (h : Fr S μ μ') {a : Nat} (ha : S a) (k : Nat) (v : Int64) : Fr S μ (sJ μ' a k v) := h.trans ⟨rfl, rfl, rfl, rfl, rfl, fun _ hb => ⟨rfl, rfl, rfl, up2_a (ne_of_S ha hb)⟩⟩
/-- a row holds the numbers of a list -/
def Hd (f : Nat → Int32) (l : List Nat) : Prop := ∀ i c, l[i]? = some c → f i = nI c
theorem Hd.nil {f : Nat → Int32} : Hd f [] := fun i c h => by simp at h
theorem Hd.at {f : Nat → Int32} {l : List Nat} (h : Hd f l) {i : Nat} (hi : i < l.length) : f i = nI l[i] := h i _ (List.getElem?_eq_getElem hi)
theorem Hd.push {f g : Nat → Int32} {l : List Nat} {c : Nat} (h : Hd f l) (ho : ∀ i, i < l.length → g i = f i) (hc : g l.length = nI c) : Hd g (l ++ [c]) := by
  intro i d hi
  rcases Nat.lt_trichotomy i l.length with q | q | q
  · rw [List.getElem?_append_left q] at hi
    rw [ho i q]
    exact h i d hi
  · subst q
    simp at hi
    subst hi
    exact hc
  · rw [List.getElem?_append_right (by omega)] at hi
    have : i - l.length < 1 := (List.getElem?_eq_some_iff.mp hi).1
    omega
theorem Hd.congr {f g : Nat → Int32} {l : List Nat} (h : Hd f l) (ho : ∀ i, i < l.length → g i = f i) : Hd g l := fun i c hi => by
  rw [ho i (List.getElem?_eq_some_iff.mp hi).1]; exact h i c hi
/-- two rows with small numbers -/
theorem Hd.eq {f g : Nat → Int32} {l r : List Nat} (hf : Hd f l) (hg : Hd g r) (hl : ∀ c ∈ l, c < 2 ^ 31) (hr : ∀ c ∈ r, c < 2 ^ 31) {i : Nat} (h1 : i < l.length) (h2 : i < r.length) : f i = g i ↔ l[i] = r[i] := by
  rw [hf.at h1, hg.at h2]
  exact nI_eq (hl _ (List.getElem_mem h1)) (hr _ (List.getElem_mem h2))
/-- signs -/
def isSm (c : Nat) : Bool := decide (97 ≤ c ∧ c ≤ 122)
def isBg (c : Nat) : Bool := decide (65 ≤ c ∧ c ≤ 90)
def isLt (c : Nat) : Bool := isSm c || isBg c
def fld (c : Nat) : Nat := if c < 97 then c + 32 else c
def okS (c : Nat) : Bool := isLt c || c == 39 || c == 45
def foldL (l : List Nat) : List Nat := (l.filter isLt).map fld
theorem foldL_app (l r : List Nat) : foldL (l ++ r) = foldL l ++ foldL r := by simp [foldL]
theorem foldL_len (l : List Nat) : (foldL l).length ≤ l.length := by simp [foldL]; exact List.length_filter_le _ _
/-- what a word without its point is -/
def coreL (l : List Nat) : List Nat := if l.getLast? = some 46 then l.dropLast else l
def isWordL (l : List Nat) : Bool := decide (1 ≤ (coreL l).length ∧ (coreL l).length ≤ 20) && ((coreL l).head?.any isLt) && (coreL l).all okS
theorem sb_small : ∀ c, c < 128 → sb_b c = nI c := by decide +kernel
theorem sb_sm : ∀ c, c < 256 → ((nI 97 ≤ sb_b c ∧ sb_b c ≤ nI 122) ↔ isSm c = true) := by decide +kernel
theorem sb_bg : ∀ c, c < 256 → ((nI 65 ≤ sb_b c ∧ sb_b c ≤ nI 90) ↔ isBg c = true) := by decide +kernel
theorem sb_eq : ∀ c, c < 256 → ∀ d, d < 128 → (sb_b c = nI d ↔ c = d) := by decide +kernel
theorem sb_b8 : ∀ c, c < 256 → (sb_b c).toInt8.toInt32 = sb_b c := by decide +kernel
theorem nI_b8 : ∀ c, c < 128 → (nI c).toInt8.toInt32 = nI c := by decide +kernel
end LIB
