/-! NameDeskModel: where its rows lie -/
section MODEL
variable {E : En} {μ : Mm} {K : Option Value → Mm → Prop}
def Mg (μ : Mm) (m : Nat) : Prop := mK μ m = 11 ∧ (mP μ m 0 = some (m + 1) ∧ mK μ (m + 1) = 13 ∧ mL μ (m + 1) = 400) ∧ (mP μ m 4 = some (m + 2) ∧ mK μ (m + 2) = 13 ∧ mL μ (m + 2) = 80) ∧ (mP μ m 5 = some (m + 3) ∧ mK μ (m + 3) = 13 ∧ mL μ (m + 3) = 80) ∧ (mP μ m 6 = some (m + 4) ∧ mK μ (m + 4) = 13 ∧ mL μ (m + 4) = 80) ∧ (mP μ m 7 = some (m + 5) ∧ mK μ (m + 5) = 13 ∧ mL μ (m + 5) = 1680) ∧ (mP μ m 8 = some (m + 6) ∧ mK μ (m + 6) = 15 ∧ mL μ (m + 6) = 6) ∧ (mP μ m 9 = some (m + 7) ∧ mK μ (m + 7) = 13 ∧ mL μ (m + 7) = 6) ∧ (mP μ m 10 = some (m + 8) ∧ mK μ (m + 8) = 13 ∧ mL μ (m + 8) = 48) ∧ (mP μ m 11 = some (m + 9) ∧ mK μ (m + 9) = 13 ∧ mL μ (m + 9) = 48) ∧ (mP μ m 12 = some (m + 10) ∧ mK μ (m + 10) = 13 ∧ mL μ (m + 10) = 6) ∧ (mP μ m 13 = some (m + 11) ∧ mK μ (m + 11) = 13 ∧ mL μ (m + 11) = 42) ∧ (mP μ m 14 = some (m + 12) ∧ mK μ (m + 12) = 13 ∧ mL μ (m + 12) = 6) ∧ (mP μ m 15 = some (m + 13) ∧ mK μ (m + 13) = 13 ∧ mL μ (m + 13) = 42) ∧ (mP μ m 16 = some (m + 14) ∧ mK μ (m + 14) = 13 ∧ mL μ (m + 14) = 6) ∧ (mP μ m 17 = some (m + 15) ∧ mK μ (m + 15) = 13 ∧ mL μ (m + 15) = 36) ∧ (mP μ m 21 = some (m + 16) ∧ mK μ (m + 16) = 13 ∧ mL μ (m + 16) = 30) ∧ (mP μ m 22 = some (m + 17) ∧ mK μ (m + 17) = 13 ∧ mL μ (m + 17) = 30) ∧ (mP μ m 23 = some (m + 18) ∧ mK μ (m + 18) = 13 ∧ mL μ (m + 18) = 5040) ∧ (mP μ m 24 = some (m + 19) ∧ mK μ (m + 19) = 13 ∧ mL μ (m + 19) = 240) ∧ (mP μ m 25 = some (m + 20) ∧ mK μ (m + 20) = 13 ∧ mL μ (m + 20) = 5040) ∧ (mP μ m 26 = some (m + 21) ∧ mK μ (m + 21) = 13 ∧ mL μ (m + 21) = 240) ∧ (mP μ m 27 = some (m + 22) ∧ mK μ (m + 22) = 13 ∧ mL μ (m + 22) = 78) ∧ (mP μ m 28 = some (m + 23) ∧ mK μ (m + 23) = 13 ∧ mL μ (m + 23) = 26) ∧ (mP μ m 32 = some (m + 24) ∧ mK μ (m + 24) = 13 ∧ mL μ (m + 24) = 8) ∧ (mP μ m 33 = some (m + 25) ∧ mK μ (m + 25) = 13 ∧ mL μ (m + 25) = 8) ∧ (mP μ m 34 = some (m + 26) ∧ mK μ (m + 26) = 13 ∧ mL μ (m + 26) = 14) ∧ (mP μ m 35 = some (m + 27) ∧ mK μ (m + 27) = 13 ∧ mL μ (m + 27) = 2) ∧ (mP μ m 37 = some (m + 28) ∧ mK μ (m + 28) = 13 ∧ mL μ (m + 28) = 6) ∧ (mP μ m 38 = some (m + 29) ∧ mK μ (m + 29) = 13 ∧ mL μ (m + 29) = 24) ∧ (mP μ m 40 = some (m + 30) ∧ mK μ (m + 30) = 13 ∧ mL μ (m + 30) = 56) ∧ (mP μ m 41 = some (m + 31) ∧ mK μ (m + 31) = 13 ∧ mL μ (m + 31) = 9) ∧ (mP μ m 42 = some (m + 32) ∧ mK μ (m + 32) = 13 ∧ mL μ (m + 32) = 6500) ∧ (mP μ m 43 = some (m + 33) ∧ mK μ (m + 33) = 13 ∧ mL μ (m + 33) = 6500) ∧ (mP μ m 45 = some (m + 34) ∧ mK μ (m + 34) = 13 ∧ mL μ (m + 34) = 240) ∧ (mP μ m 46 = some (m + 35) ∧ mK μ (m + 35) = 15 ∧ mL μ (m + 35) = 30) ∧ (mP μ m 47 = some (m + 36) ∧ mK μ (m + 36) = 13 ∧ mL μ (m + 36) = 240) ∧ (mP μ m 48 = some (m + 37) ∧ mK μ (m + 37) = 13 ∧ mL μ (m + 37) = 30)
theorem Mg.fr {S : Nat → Prop} {μ' : Mm} {m : Nat} (h : Mg μ m) (f : Fr S μ μ') : Mg μ' m := by unfold Mg; rw [f.2.1, f.2.2.1, f.2.2.2.1]; exact h
theorem Mg.tape {m : Nat} (h : Mg μ m) : mP μ m 0 = some (m + 1) ∧ mK μ (m + 1) = 13 ∧ mL μ (m + 1) = 400 := h.2.1
theorem Mg.eLand {m : Nat} (h : Mg μ m) : mP μ m 4 = some (m + 2) ∧ mK μ (m + 2) = 13 ∧ mL μ (m + 2) = 80 := h.2.2.1
theorem Mg.eKind {m : Nat} (h : Mg μ m) : mP μ m 5 = some (m + 3) ∧ mK μ (m + 3) = 13 ∧ mL μ (m + 3) = 80 := h.2.2.2.1
theorem Mg.eSize {m : Nat} (h : Mg μ m) : mP μ m 6 = some (m + 4) ∧ mK μ (m + 4) = 13 ∧ mL μ (m + 4) = 80 := h.2.2.2.2.1
theorem Mg.eWord {m : Nat} (h : Mg μ m) : mP μ m 7 = some (m + 5) ∧ mK μ (m + 5) = 13 ∧ mL μ (m + 5) = 1680 := h.2.2.2.2.2.1
theorem Mg.has {m : Nat} (h : Mg μ m) : mP μ m 8 = some (m + 6) ∧ mK μ (m + 6) = 15 ∧ mL μ (m + 6) = 6 := h.2.2.2.2.2.2.1
theorem Mg.slots {m : Nat} (h : Mg μ m) : mP μ m 9 = some (m + 7) ∧ mK μ (m + 7) = 13 ∧ mL μ (m + 7) = 6 := h.2.2.2.2.2.2.2.1
theorem Mg.slotKind {m : Nat} (h : Mg μ m) : mP μ m 10 = some (m + 8) ∧ mK μ (m + 8) = 13 ∧ mL μ (m + 8) = 48 := h.2.2.2.2.2.2.2.2.1
theorem Mg.slotHow {m : Nat} (h : Mg μ m) : mP μ m 11 = some (m + 9) ∧ mK μ (m + 9) = 13 ∧ mL μ (m + 9) = 48 := h.2.2.2.2.2.2.2.2.2.1
theorem Mg.sortMany {m : Nat} (h : Mg μ m) : mP μ m 12 = some (m + 10) ∧ mK μ (m + 10) = 13 ∧ mL μ (m + 10) = 6 := h.2.2.2.2.2.2.2.2.2.2.1
theorem Mg.sortBy {m : Nat} (h : Mg μ m) : mP μ m 13 = some (m + 11) ∧ mK μ (m + 11) = 13 ∧ mL μ (m + 11) = 42 := h.2.2.2.2.2.2.2.2.2.2.2.1
theorem Mg.callMany {m : Nat} (h : Mg μ m) : mP μ m 14 = some (m + 12) ∧ mK μ (m + 12) = 13 ∧ mL μ (m + 12) = 6 := h.2.2.2.2.2.2.2.2.2.2.2.2.1
theorem Mg.callBy {m : Nat} (h : Mg μ m) : mP μ m 15 = some (m + 13) ∧ mK μ (m + 13) = 13 ∧ mL μ (m + 13) = 42 := h.2.2.2.2.2.2.2.2.2.2.2.2.2.1
theorem Mg.endSize {m : Nat} (h : Mg μ m) : mP μ m 16 = some (m + 14) ∧ mK μ (m + 14) = 13 ∧ mL μ (m + 14) = 6 := h.2.2.2.2.2.2.2.2.2.2.2.2.2.2.1
theorem Mg.endBy {m : Nat} (h : Mg μ m) : mP μ m 17 = some (m + 15) ∧ mK μ (m + 15) = 13 ∧ mL μ (m + 15) = 36 := h.2.2.2.2.2.2.2.2.2.2.2.2.2.2.2.1
theorem Mg.nLand {m : Nat} (h : Mg μ m) : mP μ m 21 = some (m + 16) ∧ mK μ (m + 16) = 13 ∧ mL μ (m + 16) = 30 := h.2.2.2.2.2.2.2.2.2.2.2.2.2.2.2.2.1
theorem Mg.nWords {m : Nat} (h : Mg μ m) : mP μ m 22 = some (m + 17) ∧ mK μ (m + 17) = 13 ∧ mL μ (m + 17) = 30 := h.2.2.2.2.2.2.2.2.2.2.2.2.2.2.2.2.2.1
theorem Mg.told {m : Nat} (h : Mg μ m) : mP μ m 23 = some (m + 18) ∧ mK μ (m + 18) = 13 ∧ mL μ (m + 18) = 5040 := h.2.2.2.2.2.2.2.2.2.2.2.2.2.2.2.2.2.2.1
theorem Mg.toldSize {m : Nat} (h : Mg μ m) : mP μ m 24 = some (m + 19) ∧ mK μ (m + 19) = 13 ∧ mL μ (m + 19) = 240 := h.2.2.2.2.2.2.2.2.2.2.2.2.2.2.2.2.2.2.2.1
theorem Mg.fold {m : Nat} (h : Mg μ m) : mP μ m 25 = some (m + 20) ∧ mK μ (m + 20) = 13 ∧ mL μ (m + 20) = 5040 := h.2.2.2.2.2.2.2.2.2.2.2.2.2.2.2.2.2.2.2.2.1
theorem Mg.foldSize {m : Nat} (h : Mg μ m) : mP μ m 26 = some (m + 21) ∧ mK μ (m + 21) = 13 ∧ mL μ (m + 21) = 240 := h.2.2.2.2.2.2.2.2.2.2.2.2.2.2.2.2.2.2.2.2.2.1
theorem Mg.becomes {m : Nat} (h : Mg μ m) : mP μ m 27 = some (m + 22) ∧ mK μ (m + 22) = 13 ∧ mL μ (m + 22) = 78 := h.2.2.2.2.2.2.2.2.2.2.2.2.2.2.2.2.2.2.2.2.2.2.1
theorem Mg.becomesSize {m : Nat} (h : Mg μ m) : mP μ m 28 = some (m + 23) ∧ mK μ (m + 23) = 13 ∧ mL μ (m + 23) = 26 := h.2.2.2.2.2.2.2.2.2.2.2.2.2.2.2.2.2.2.2.2.2.2.2.1
theorem Mg.rKind {m : Nat} (h : Mg μ m) : mP μ m 32 = some (m + 24) ∧ mK μ (m + 24) = 13 ∧ mL μ (m + 24) = 8 := h.2.2.2.2.2.2.2.2.2.2.2.2.2.2.2.2.2.2.2.2.2.2.2.2.1
theorem Mg.rHow {m : Nat} (h : Mg μ m) : mP μ m 33 = some (m + 25) ∧ mK μ (m + 25) = 13 ∧ mL μ (m + 25) = 8 := h.2.2.2.2.2.2.2.2.2.2.2.2.2.2.2.2.2.2.2.2.2.2.2.2.2.1
theorem Mg.rBy {m : Nat} (h : Mg μ m) : mP μ m 34 = some (m + 26) ∧ mK μ (m + 26) = 13 ∧ mL μ (m + 26) = 14 := h.2.2.2.2.2.2.2.2.2.2.2.2.2.2.2.2.2.2.2.2.2.2.2.2.2.2.1
theorem Mg.rMany {m : Nat} (h : Mg μ m) : mP μ m 35 = some (m + 27) ∧ mK μ (m + 27) = 13 ∧ mL μ (m + 27) = 2 := h.2.2.2.2.2.2.2.2.2.2.2.2.2.2.2.2.2.2.2.2.2.2.2.2.2.2.2.1
theorem Mg.rEnding {m : Nat} (h : Mg μ m) : mP μ m 37 = some (m + 28) ∧ mK μ (m + 28) = 13 ∧ mL μ (m + 28) = 6 := h.2.2.2.2.2.2.2.2.2.2.2.2.2.2.2.2.2.2.2.2.2.2.2.2.2.2.2.2.1
theorem Mg.folded {m : Nat} (h : Mg μ m) : mP μ m 38 = some (m + 29) ∧ mK μ (m + 29) = 13 ∧ mL μ (m + 29) = 24 := h.2.2.2.2.2.2.2.2.2.2.2.2.2.2.2.2.2.2.2.2.2.2.2.2.2.2.2.2.2.1
theorem Mg.costs {m : Nat} (h : Mg μ m) : mP μ m 40 = some (m + 30) ∧ mK μ (m + 30) = 13 ∧ mL μ (m + 30) = 56 := h.2.2.2.2.2.2.2.2.2.2.2.2.2.2.2.2.2.2.2.2.2.2.2.2.2.2.2.2.2.2.1
theorem Mg.places {m : Nat} (h : Mg μ m) : mP μ m 41 = some (m + 31) ∧ mK μ (m + 31) = 13 ∧ mL μ (m + 31) = 9 := h.2.2.2.2.2.2.2.2.2.2.2.2.2.2.2.2.2.2.2.2.2.2.2.2.2.2.2.2.2.2.2.1
theorem Mg.rows {m : Nat} (h : Mg μ m) : mP μ m 42 = some (m + 32) ∧ mK μ (m + 32) = 13 ∧ mL μ (m + 32) = 6500 := h.2.2.2.2.2.2.2.2.2.2.2.2.2.2.2.2.2.2.2.2.2.2.2.2.2.2.2.2.2.2.2.2.1
theorem Mg.rowCost {m : Nat} (h : Mg μ m) : mP μ m 43 = some (m + 33) ∧ mK μ (m + 33) = 13 ∧ mL μ (m + 33) = 6500 := h.2.2.2.2.2.2.2.2.2.2.2.2.2.2.2.2.2.2.2.2.2.2.2.2.2.2.2.2.2.2.2.2.2.1
theorem Mg.kinds {m : Nat} (h : Mg μ m) : mP μ m 45 = some (m + 34) ∧ mK μ (m + 34) = 13 ∧ mL μ (m + 34) = 240 := h.2.2.2.2.2.2.2.2.2.2.2.2.2.2.2.2.2.2.2.2.2.2.2.2.2.2.2.2.2.2.2.2.2.2.1
theorem Mg.isRead {m : Nat} (h : Mg μ m) : mP μ m 46 = some (m + 35) ∧ mK μ (m + 35) = 15 ∧ mL μ (m + 35) = 30 := h.2.2.2.2.2.2.2.2.2.2.2.2.2.2.2.2.2.2.2.2.2.2.2.2.2.2.2.2.2.2.2.2.2.2.2.1
theorem Mg.picked {m : Nat} (h : Mg μ m) : mP μ m 47 = some (m + 36) ∧ mK μ (m + 36) = 13 ∧ mL μ (m + 36) = 240 := h.2.2.2.2.2.2.2.2.2.2.2.2.2.2.2.2.2.2.2.2.2.2.2.2.2.2.2.2.2.2.2.2.2.2.2.2.1
theorem Mg.pickedMany {m : Nat} (h : Mg μ m) : mP μ m 48 = some (m + 37) ∧ mK μ (m + 37) = 13 ∧ mL μ (m + 37) = 30 := h.2.2.2.2.2.2.2.2.2.2.2.2.2.2.2.2.2.2.2.2.2.2.2.2.2.2.2.2.2.2.2.2.2.2.2.2.2
/-! what they hold -/
def mTp (μ : Mm) (m : Nat) (T : List Nat) : Prop := mF μ m 1 = nI T.length ∧ Hd (mA μ (m + 1)) T
def mBk (μ : Mm) (m : Nat) (es : List Ent) : Prop := mF μ m 3 = nI es.length ∧ ∀ i e, es[i]? = some e → mA μ (m + 2) i = nI e.1 ∧ mA μ (m + 3) i = nI e.2.1 ∧ mA μ (m + 4) i = nI e.2.2.length ∧ Hd (fun j => mA μ (m + 5) (21 * i + j)) e.2.2
def mShp (μ : Mm) (m l : Nat) (x : Shp) : Prop := mA μ (m + 7) l = nI x.1.length ∧ (∀ i s, x.1[i]? = some s → mA μ (m + 8) (8 * l + i) = nI s.1 ∧ mA μ (m + 9) (8 * l + i) = nI s.2) ∧ (mA μ (m + 10) l = nI x.2.1.length ∧ Hd (fun j => mA μ (m + 11) (7 * l + j)) x.2.1) ∧ (mA μ (m + 12) l = nI x.2.2.1.length ∧ Hd (fun j => mA μ (m + 13) (7 * l + j)) x.2.2.1) ∧ mA μ (m + 14) l = nI x.2.2.2.length ∧ Hd (fun j => mA μ (m + 15) (6 * l + j)) x.2.2.2
def mSh (μ : Mm) (m : Nat) (sh : Nat → Option Shp) : Prop := ∀ l, l < 6 → mB μ (m + 6) l = bI (sh l).isSome ∧ ∀ x, sh l = some x → mShp μ m l x
def mFt (μ : Mm) (m f : Nat) (p : Int32) : Prop := mF μ m 18 = nI f ∧ mF μ m 19 = p
def mWd (μ : Mm) (m q : Nat) (v : List Nat) : Prop := (mA μ (m + 19) q = nI v.length ∧ Hd (fun j => mA μ (m + 18) (21 * q + j)) v) ∧ mA μ (m + 21) q = nI (foldL v).length ∧ Hd (fun j => mA μ (m + 20) (21 * q + j)) (foldL v)
def mNm (μ : Mm) (m : Nat) (ns : List Nm) : Prop := mF μ m 20 = nI ns.length ∧ ∀ i nm, ns[i]? = some nm → mA μ (m + 16) i = nI nm.1 ∧ mA μ (m + 17) i = nI nm.2.length ∧ ∀ w v, nm.2[w]? = some v → mWd μ m (8 * i + w) v
def mTb (μ : Mm) (m : Nat) (tb : Nat → List Nat) : Prop := ∀ i, i < 26 → mA μ (m + 23) i = nI (tb i).length ∧ Hd (fun j => mA μ (m + 22) (3 * i + j)) (tb i)
def MI (m : Nat) (S : Ast) (μ : Mm) : Prop := Mg μ m ∧ mTp μ m (aT S) ∧ (∃ es, es.Perm (aB S) ∧ mBk μ m es) ∧ mSh μ m (aS S) ∧ mFt μ m (aF S) (aP S) ∧ mNm μ m (aN S) ∧ mTb μ m (aL S)
theorem mTp.fr {S : Nat → Prop} {μ' : Mm} {m : Nat} {T : List Nat} (h : mTp μ m T) (f : Fr S μ μ') (h1 : mF μ' m 1 = mF μ m 1) (hS : ¬ S (m + 1)) : mTp μ' m T := by
  unfold mTp; rw [h1, (f.2.2.2.2.2 _ hS).2.2.1]; exact h
theorem mBk.fr {S : Nat → Prop} {μ' : Mm} {m : Nat} {es : List Ent} (h : mBk μ m es) (f : Fr S μ μ') (h1 : mF μ' m 3 = mF μ m 3) (hS : ∀ q, m + 2 ≤ q → q ≤ m + 5 → ¬ S q) : mBk μ' m es := by
  unfold mBk
  rw [h1, (f.2.2.2.2.2 (m + 2) (hS _ (by omega) (by omega))).2.2.1, (f.2.2.2.2.2 (m + 3) (hS _ (by omega) (by omega))).2.2.1, (f.2.2.2.2.2 (m + 4) (hS _ (by omega) (by omega))).2.2.1, (f.2.2.2.2.2 (m + 5) (hS _ (by omega) (by omega))).2.2.1]; exact h
theorem mShp.fr {S : Nat → Prop} {μ' : Mm} {m l : Nat} {x : Shp} (h : mShp μ m l x) (f : Fr S μ μ') (hS : ∀ q, m + 7 ≤ q → q ≤ m + 15 → ¬ S q) : mShp μ' m l x := by
  unfold mShp
  rw [(f.2.2.2.2.2 (m + 7) (hS _ (by omega) (by omega))).2.2.1, (f.2.2.2.2.2 (m + 8) (hS _ (by omega) (by omega))).2.2.1, (f.2.2.2.2.2 (m + 9) (hS _ (by omega) (by omega))).2.2.1, (f.2.2.2.2.2 (m + 10) (hS _ (by omega) (by omega))).2.2.1, (f.2.2.2.2.2 (m + 11) (hS _ (by omega) (by omega))).2.2.1, (f.2.2.2.2.2 (m + 12) (hS _ (by omega) (by omega))).2.2.1, (f.2.2.2.2.2 (m + 13) (hS _ (by omega) (by omega))).2.2.1, (f.2.2.2.2.2 (m + 14) (hS _ (by omega) (by omega))).2.2.1, (f.2.2.2.2.2 (m + 15) (hS _ (by omega) (by omega))).2.2.1]; exact h
theorem mSh.fr {S : Nat → Prop} {μ' : Mm} {m : Nat} {sh : Nat → Option Shp} (h : mSh μ m sh) (f : Fr S μ μ') (hS : ∀ q, m + 6 ≤ q → q ≤ m + 15 → ¬ S q) : mSh μ' m sh := fun l hl => ⟨by rw [(f.2.2.2.2.2 (m + 6) (hS _ (by omega) (by omega))).2.1]; exact (h l hl).1, fun x hx => ((h l hl).2 x hx).fr f (fun q a b => hS q (by omega) b)⟩
theorem mWd.fr {S : Nat → Prop} {μ' : Mm} {m q : Nat} {v : List Nat} (h : mWd μ m q v) (f : Fr S μ μ') (hS : ∀ q, m + 18 ≤ q → q ≤ m + 21 → ¬ S q) : mWd μ' m q v := by
  unfold mWd
  rw [(f.2.2.2.2.2 (m + 18) (hS _ (by omega) (by omega))).2.2.1, (f.2.2.2.2.2 (m + 19) (hS _ (by omega) (by omega))).2.2.1, (f.2.2.2.2.2 (m + 20) (hS _ (by omega) (by omega))).2.2.1, (f.2.2.2.2.2 (m + 21) (hS _ (by omega) (by omega))).2.2.1]; exact h
theorem mNm.fr {S : Nat → Prop} {μ' : Mm} {m : Nat} {ns : List Nm} (h : mNm μ m ns) (f : Fr S μ μ') (h1 : mF μ' m 20 = mF μ m 20) (hS : ∀ q, m + 16 ≤ q → q ≤ m + 21 → ¬ S q) : mNm μ' m ns := by
  refine ⟨by rw [h1]; exact h.1, fun i nm hi => ⟨?_, ?_, fun w v hv => ((h.2 i nm hi).2.2 w v hv).fr f (fun q a b => hS q (by omega) b)⟩⟩
  · rw [(f.2.2.2.2.2 (m + 16) (hS _ (by omega) (by omega))).2.2.1]; exact (h.2 i nm hi).1
  · rw [(f.2.2.2.2.2 (m + 17) (hS _ (by omega) (by omega))).2.2.1]; exact (h.2 i nm hi).2.1
theorem mTb.fr {S : Nat → Prop} {μ' : Mm} {m : Nat} {tb : Nat → List Nat} (h : mTb μ m tb) (f : Fr S μ μ') (hS : ∀ q, m + 22 ≤ q → q ≤ m + 23 → ¬ S q) : mTb μ' m tb := by
  unfold mTb
  rw [(f.2.2.2.2.2 (m + 22) (hS _ (by omega) (by omega))).2.2.1, (f.2.2.2.2.2 (m + 23) (hS _ (by omega) (by omega))).2.2.1]; exact h
/-- scratch rows, and the model itself -/
def mQ (m : Nat) : Nat → Prop := fun q => q = m ∨ (m + 24 ≤ q ∧ q < m + 38)
def kF (m : Nat) (μ μ' : Mm) : Prop := ∀ f, f = 1 ∨ f = 3 ∨ f = 18 ∨ f = 19 ∨ f = 20 → mF μ' m f = mF μ m f
theorem kF.rf {m : Nat} : kF m μ μ := fun _ _ => rfl
theorem kF.trans {m : Nat} {μ' μ'' : Mm} (h : kF m μ μ') (h' : kF m μ' μ'') : kF m μ μ'' := fun f hf => (h' f hf).trans (h f hf)
theorem kF.sF {m : Nat} {μ' : Mm} (h : kF m μ μ') {f : Nat} (hf : ¬ (f = 1 ∨ f = 3 ∨ f = 18 ∨ f = 19 ∨ f = 20)) (v : Int32) : kF m μ (sF μ' m f v) := fun g hg => by
  show up2 _ m f v m g = _
  rw [up2_k (fun e => hf (by rw [← e]; exact hg))]
  exact h g hg
theorem kF.of {m : Nat} {S : Nat → Prop} {μ' : Mm} (f : Fr S μ μ') (h : ¬ S m) : kF m μ μ' := fun g _ => by rw [(f.2.2.2.2.2 m h).1]
theorem MI.scr {m : Nat} {S : Ast} {μ' : Mm} (h : MI m S μ) (f : Fr (mQ m) μ μ') (hk : kF m μ μ') : MI m S μ' := by
  obtain ⟨h1, h2, ⟨es, he, h3⟩, h4, h5, h6, h7⟩ := h
  have nq : ∀ q, m + 1 ≤ q → q ≤ m + 23 → ¬ mQ m q := fun q a b => by unfold mQ; omega
  exact ⟨h1.fr f, h2.fr f (hk 1 (by omega)) (nq _ (by omega) (by omega)), ⟨es, he, h3.fr f (hk 3 (by omega)) (fun q a b => nq q (by omega) (by omega))⟩, h4.fr f (fun q a b => nq q (by omega) (by omega)), ⟨by rw [hk 18 (by omega)]; exact h5.1, by rw [hk 19 (by omega)]; exact h5.2⟩, h6.fr f (hk 20 (by omega)) (fun q a b => nq q (by omega) (by omega)), h7.fr f (fun q a b => nq q (by omega) (by omega))⟩
def MF (m : Nat) (μ μ' : Mm) : Prop := Fr (fun q => m ≤ q ∧ q < m + 38) μ μ'
theorem mQ_MF {m : Nat} {μ' : Mm} (f : Fr (mQ m) μ μ') : MF m μ μ' := f.mono (fun q a => by unfold mQ at a; omega)
theorem MI.thr {m : Nat} {S : Ast} (h : MI m S μ) (v : Int32) : MI m S (sF μ m 2 v) := h.scr ((Fr.rf (S := mQ m)).sF (Or.inl rfl) 2 v) (kF.rf.sF (by omega) v)
theorem MF.thr {m : Nat} (v : Int32) : MF m μ (sF μ m 2 v) := (Fr.rf (S := fun q => m ≤ q ∧ q < m + 38)).sF ⟨by omega, by omega⟩ 2 v
theorem MF.trans {m : Nat} {μ' μ'' : Mm} (h : MF m μ μ') (h' : MF m μ' μ'') : MF m μ μ'' := Fr.trans h h'
theorem m_thrown {m : Nat} (hk : mK μ m = 11) (k : K (some (.int (mF μ m 2))) μ) : Cl E M_X10_thrown [.ref m] μ K := by
  refine Cl.of0 0 pn_X10 (Nat.le_of_ble_eq_true rfl) ⟨rfl, rfl⟩ rfl ?_
  refine e_al0 1 rfl dX10_thrown_0 ?_
  first | refine e_getIv 4 rfl dX10_thrown_1 f_X10_126 (by assumption) (by first | assumption | (simp only [mN_sF, mK_sF, mL_sF, mF_sF, mB_sF, mA_sF, mJ_sF, mP_sF, mO_sF, mN_sB, mK_sB, mL_sB, mF_sB, mB_sB, mA_sB, mJ_sB, mP_sB, mO_sB, mN_sA, mK_sA, mL_sA, mF_sA, mB_sA, mA_sA, mJ_sA, mP_sA, mO_sA, mN_sJ, mK_sJ, mL_sJ, mF_sJ, mB_sJ, mA_sJ, mJ_sJ, mP_sJ, mO_sJ, mN_sP, mK_sP, mL_sP, mF_sP, mB_sP, mA_sP, mJ_sP, mP_sP, mO_sP, mN_sO, mK_sO, mL_sO, mF_sO, mB_sO, mA_sO, mJ_sO, mP_sO, mO_sO, up2, if_true, if_false, eq_self, ite_true, ite_false, reduceIte, Nat.add_left_cancel_iff, Nat.add_eq_left, Nat.left_eq_add, Nat.reduceEqDiff]; assumption) | (simp only [mN_sF, mK_sF, mL_sF, mF_sF, mB_sF, mA_sF, mJ_sF, mP_sF, mO_sF, mN_sB, mK_sB, mL_sB, mF_sB, mB_sB, mA_sB, mJ_sB, mP_sB, mO_sB, mN_sA, mK_sA, mL_sA, mF_sA, mB_sA, mA_sA, mJ_sA, mP_sA, mO_sA, mN_sJ, mK_sJ, mL_sJ, mF_sJ, mB_sJ, mA_sJ, mJ_sJ, mP_sJ, mO_sJ, mN_sP, mK_sP, mL_sP, mF_sP, mB_sP, mA_sP, mJ_sP, mP_sP, mO_sP, mN_sO, mK_sO, mL_sO, mF_sO, mB_sO, mA_sO, mJ_sO, mP_sO, mO_sO, up2, if_true, if_false, eq_self, ite_true, ite_false, reduceIte, Nat.add_left_cancel_iff, Nat.add_eq_left, Nat.left_eq_add, Nat.reduceEqDiff]; done)) ?_ | refine e_getI 4 rfl dX10_thrown_1 f_X10_126 (by assumption) ?_
  refine e_iret dX10_thrown_4 rfl ?_
  exact k
theorem m_fault {m : Nat} {S : Ast} {x : Int32} (hM : MI m S μ) (k : ∀ μ', MF m μ μ' → MI m S μ' → K (some (.int (q_fault S x))) μ') : Cl E M_X10_fault [.ref m, .int x] μ K := by
  have mk := hM.1.1
  have k0 := k (sF μ m 2 (nI 0)) (MF.thr _) (hM.thr _)
  have mk2 : mK (sF μ m 2 (nI 0)) m = 11 := mk
  have hv := (hM.thr (nI 0)).2.2.2.2.1
  obtain ⟨v1, v2⟩ := hv
  unfold q_fault at k0
  refine Cl.of0 0 pn_X10 (Nat.le_of_ble_eq_true rfl) ⟨rfl, rfl⟩ rfl ?_
  refine e_al0 1 rfl dX10_fault_0 ?_
  refine e_iconst (nI 0) 2 rfl dX10_fault_1 ic_0 ?_
  refine e_putI 5 rfl dX10_fault_2 f_X10_126 (by assumption) ?_
  refine e_il1 6 rfl dX10_fault_5 ?_
  refine e_if_ne 16 9 (by decide) rfl dX10_fault_6 (fun y1 => ?_) (fun y1 => ?_)
  rotate_left
  · rw [if_pos y1] at k0
    refine e_al0 10 rfl dX10_fault_9 ?_
    first | refine e_getIv 13 rfl dX10_fault_10 f_X10_132 (by assumption) (by first | assumption | (simp only [mN_sF, mK_sF, mL_sF, mF_sF, mB_sF, mA_sF, mJ_sF, mP_sF, mO_sF, mN_sB, mK_sB, mL_sB, mF_sB, mB_sB, mA_sB, mJ_sB, mP_sB, mO_sB, mN_sA, mK_sA, mL_sA, mF_sA, mB_sA, mA_sA, mJ_sA, mP_sA, mO_sA, mN_sJ, mK_sJ, mL_sJ, mF_sJ, mB_sJ, mA_sJ, mJ_sJ, mP_sJ, mO_sJ, mN_sP, mK_sP, mL_sP, mF_sP, mB_sP, mA_sP, mJ_sP, mP_sP, mO_sP, mN_sO, mK_sO, mL_sO, mF_sO, mB_sO, mA_sO, mJ_sO, mP_sO, mO_sO, up2, if_true, if_false, eq_self, ite_true, ite_false, reduceIte, Nat.add_left_cancel_iff, Nat.add_eq_left, Nat.left_eq_add, Nat.reduceEqDiff]; assumption) | (simp only [mN_sF, mK_sF, mL_sF, mF_sF, mB_sF, mA_sF, mJ_sF, mP_sF, mO_sF, mN_sB, mK_sB, mL_sB, mF_sB, mB_sB, mA_sB, mJ_sB, mP_sB, mO_sB, mN_sA, mK_sA, mL_sA, mF_sA, mB_sA, mA_sA, mJ_sA, mP_sA, mO_sA, mN_sJ, mK_sJ, mL_sJ, mF_sJ, mB_sJ, mA_sJ, mJ_sJ, mP_sJ, mO_sJ, mN_sP, mK_sP, mL_sP, mF_sP, mB_sP, mA_sP, mJ_sP, mP_sP, mO_sP, mN_sO, mK_sO, mL_sO, mF_sO, mB_sO, mA_sO, mJ_sO, mP_sO, mO_sO, up2, if_true, if_false, eq_self, ite_true, ite_false, reduceIte, Nat.add_left_cancel_iff, Nat.add_eq_left, Nat.left_eq_add, Nat.reduceEqDiff]; done)) ?_ | refine e_getI 13 rfl dX10_fault_10 f_X10_132 (by assumption) ?_
    refine e_goto 29 (by decide) dX10_fault_13 ?_
    refine e_iret dX10_fault_29 rfl ?_
    exact k0
  rw [if_neg y1] at k0
  refine e_il1 17 rfl dX10_fault_16 ?_
  refine e_iconst (nI 1) 18 rfl dX10_fault_17 ic_1 ?_
  refine e_cmp_ne 28 21 (by decide) rfl dX10_fault_18 (fun y2 => ?_) (fun y2 => ?_)
  · rw [if_neg (fun q => y2 q)] at k0
    refine e_iconst (-1) 29 rfl dX10_fault_28 ic_m1 ?_
    refine e_iret dX10_fault_29 rfl ?_
    exact k0
  · rw [if_pos y2] at k0
    refine e_al0 22 rfl dX10_fault_21 ?_
    first | refine e_getIv 25 rfl dX10_fault_22 f_X10_56 (by assumption) (by first | assumption | (simp only [mN_sF, mK_sF, mL_sF, mF_sF, mB_sF, mA_sF, mJ_sF, mP_sF, mO_sF, mN_sB, mK_sB, mL_sB, mF_sB, mB_sB, mA_sB, mJ_sB, mP_sB, mO_sB, mN_sA, mK_sA, mL_sA, mF_sA, mB_sA, mA_sA, mJ_sA, mP_sA, mO_sA, mN_sJ, mK_sJ, mL_sJ, mF_sJ, mB_sJ, mA_sJ, mJ_sJ, mP_sJ, mO_sJ, mN_sP, mK_sP, mL_sP, mF_sP, mB_sP, mA_sP, mJ_sP, mP_sP, mO_sP, mN_sO, mK_sO, mL_sO, mF_sO, mB_sO, mA_sO, mJ_sO, mP_sO, mO_sO, up2, if_true, if_false, eq_self, ite_true, ite_false, reduceIte, Nat.add_left_cancel_iff, Nat.add_eq_left, Nat.left_eq_add, Nat.reduceEqDiff]; assumption) | (simp only [mN_sF, mK_sF, mL_sF, mF_sF, mB_sF, mA_sF, mJ_sF, mP_sF, mO_sF, mN_sB, mK_sB, mL_sB, mF_sB, mB_sB, mA_sB, mJ_sB, mP_sB, mO_sB, mN_sA, mK_sA, mL_sA, mF_sA, mB_sA, mA_sA, mJ_sA, mP_sA, mO_sA, mN_sJ, mK_sJ, mL_sJ, mF_sJ, mB_sJ, mA_sJ, mJ_sJ, mP_sJ, mO_sJ, mN_sP, mK_sP, mL_sP, mF_sP, mB_sP, mA_sP, mJ_sP, mP_sP, mO_sP, mN_sO, mK_sO, mL_sO, mF_sO, mB_sO, mA_sO, mJ_sO, mP_sO, mO_sO, up2, if_true, if_false, eq_self, ite_true, ite_false, reduceIte, Nat.add_left_cancel_iff, Nat.add_eq_left, Nat.left_eq_add, Nat.reduceEqDiff]; done)) ?_ | refine e_getI 25 rfl dX10_fault_22 f_X10_56 (by assumption) ?_
    refine e_goto 29 (by decide) dX10_fault_25 ?_
    refine e_iret dX10_fault_29 rfl ?_
    exact k0
theorem c_mIsName {m : Nat} {x : Int32} {ns : List Nm} (hk : mK μ m = 11) (h7 : mF μ m 20 = nI ns.length) (hn : ns.length ≤ 30) (k : K (some (.int (bI (nmx ns x).isSome))) μ) : Cl E M_X10_isName [.ref m, .int x] μ K := by
  unfold nmx at k
  rcases iN_cases x with ⟨hx, q⟩ | ⟨j, h1, h2, q⟩
  · rw [q] at k
    refine Cl.of0 0 pn_X10 (Nat.le_of_ble_eq_true rfl) ⟨rfl, rfl⟩ rfl ?_
    refine e_il1 1 rfl dX10_isName_0 ?_
    refine e_if_lt 16 4 (by decide) rfl dX10_isName_1 (fun y1 => ?_) (fun y1 => ?_)
    · refine e_iconst (nI 0) 17 rfl dX10_isName_16 ic_0 ?_
      refine e_zret dX10_isName_17 rfl (by first | exact z0 | exact z1 | exact bI01 _ | assumption) ?_
      exact k
    · exact absurd hx y1
  · subst h2
    rw [q] at k
    have k2 : K (some (.int (bI (ns[j]?).isSome))) μ := k
    refine Cl.of0 0 pn_X10 (Nat.le_of_ble_eq_true rfl) ⟨rfl, rfl⟩ rfl ?_
    refine e_il1 1 rfl dX10_isName_0 ?_
    first | refine e_if_ltN 16 4 (by decide) rfl dX10_isName_1 rfl (by omega) ?_ | refine e_if_lt 16 4 (by decide) rfl dX10_isName_1 (fun h => ?_) (fun h => ?_)
    refine e_il1 5 rfl dX10_isName_4 ?_
    refine e_al0 6 rfl dX10_isName_5 ?_
    first | refine e_getIv 9 rfl dX10_isName_6 f_X10_189 (by assumption) (by first | assumption | (simp only [mN_sF, mK_sF, mL_sF, mF_sF, mB_sF, mA_sF, mJ_sF, mP_sF, mO_sF, mN_sB, mK_sB, mL_sB, mF_sB, mB_sB, mA_sB, mJ_sB, mP_sB, mO_sB, mN_sA, mK_sA, mL_sA, mF_sA, mB_sA, mA_sA, mJ_sA, mP_sA, mO_sA, mN_sJ, mK_sJ, mL_sJ, mF_sJ, mB_sJ, mA_sJ, mJ_sJ, mP_sJ, mO_sJ, mN_sP, mK_sP, mL_sP, mF_sP, mB_sP, mA_sP, mJ_sP, mP_sP, mO_sP, mN_sO, mK_sO, mL_sO, mF_sO, mB_sO, mA_sO, mJ_sO, mP_sO, mO_sO, up2, if_true, if_false, eq_self, ite_true, ite_false, reduceIte, Nat.add_left_cancel_iff, Nat.add_eq_left, Nat.left_eq_add, Nat.reduceEqDiff]; assumption) | (simp only [mN_sF, mK_sF, mL_sF, mF_sF, mB_sF, mA_sF, mJ_sF, mP_sF, mO_sF, mN_sB, mK_sB, mL_sB, mF_sB, mB_sB, mA_sB, mJ_sB, mP_sB, mO_sB, mN_sA, mK_sA, mL_sA, mF_sA, mB_sA, mA_sA, mJ_sA, mP_sA, mO_sA, mN_sJ, mK_sJ, mL_sJ, mF_sJ, mB_sJ, mA_sJ, mJ_sJ, mP_sJ, mO_sJ, mN_sP, mK_sP, mL_sP, mF_sP, mB_sP, mA_sP, mJ_sP, mP_sP, mO_sP, mN_sO, mK_sO, mL_sO, mF_sO, mB_sO, mA_sO, mJ_sO, mP_sO, mO_sO, up2, if_true, if_false, eq_self, ite_true, ite_false, reduceIte, Nat.add_left_cancel_iff, Nat.add_eq_left, Nat.left_eq_add, Nat.reduceEqDiff]; done)) ?_ | refine e_getI 9 rfl dX10_isName_6 f_X10_189 (by assumption) ?_
    first | refine e_cmp_geN 16 12 (by decide) rfl dX10_isName_9 rfl rfl (by omega) (by omega) (fun y1 => ?_) (fun y1 => ?_) | refine e_cmp_ge 16 12 (by decide) rfl dX10_isName_9 (fun y1 => ?_) (fun y1 => ?_)
    · refine e_iconst (nI 0) 17 rfl dX10_isName_16 ic_0 ?_
      refine e_zret dX10_isName_17 rfl (by first | exact z0 | exact z1 | exact bI01 _ | assumption) ?_
      rw [← bI_f (b := (ns[j]?).isSome) (by rw [List.getElem?_eq_none (by omega)]; rfl)]; exact k2
    · refine e_iconst (nI 1) 13 rfl dX10_isName_12 ic_1 ?_
      refine e_goto 17 (by decide) dX10_isName_13 ?_
      refine e_zret dX10_isName_17 rfl (by first | exact z0 | exact z1 | exact bI01 _ | assumption) ?_
      rw [← bI_t (b := (ns[j]?).isSome) (by rw [List.getElem?_eq_getElem (by omega)]; rfl)]; exact k2
theorem c_mIsKept {x : Int32} (k : K (some (.int (bI (okK x).isSome))) μ) : Cl E M_X10_isKept [.int x] μ K := by
  unfold okK at k
  rcases iN_cases x with ⟨hx, q⟩ | ⟨j, h1, h2, q⟩
  · rw [q] at k
    refine Cl.of0 0 pn_X10 (Nat.le_of_ble_eq_true rfl) ⟨rfl, rfl⟩ rfl ?_
    refine e_il0 1 rfl dX10_isKept_0 ?_
    refine e_if_lt 13 4 (by decide) rfl dX10_isKept_1 (fun y1 => ?_) (fun y1 => ?_)
    · refine e_iconst (nI 0) 14 rfl dX10_isKept_13 ic_0 ?_
      refine e_zret dX10_isKept_14 rfl (by first | exact z0 | exact z1 | exact bI01 _ | assumption) ?_
      exact k
    · exact absurd hx y1
  · subst h2
    rw [q] at k
    refine Cl.of0 0 pn_X10 (Nat.le_of_ble_eq_true rfl) ⟨rfl, rfl⟩ rfl ?_
    refine e_il0 1 rfl dX10_isKept_0 ?_
    first | refine e_if_ltN 13 4 (by decide) rfl dX10_isKept_1 rfl (by omega) ?_ | refine e_if_lt 13 4 (by decide) rfl dX10_isKept_1 (fun h => ?_) (fun h => ?_)
    refine e_il0 5 rfl dX10_isKept_4 ?_
    refine e_iconst (nI 4) 6 rfl dX10_isKept_5 ic_4 ?_
    first | refine e_cmp_gtN 13 9 (by decide) rfl dX10_isKept_6 rfl rfl (by omega) (by omega) (fun y1 => ?_) (fun y1 => ?_) | refine e_cmp_gt 13 9 (by decide) rfl dX10_isKept_6 (fun y1 => ?_) (fun y1 => ?_)
    · refine e_iconst (nI 0) 14 rfl dX10_isKept_13 ic_0 ?_
      refine e_zret dX10_isKept_14 rfl (by first | exact z0 | exact z1 | exact bI01 _ | assumption) ?_
      rw [← bI_f (b := ((some j).filter (fun i => decide (i < 5))).isSome) (by rw [Option.filter_some]; simp; omega)]; exact k
    · refine e_iconst (nI 1) 10 rfl dX10_isKept_9 ic_1 ?_
      refine e_goto 14 (by decide) dX10_isKept_10 ?_
      refine e_zret dX10_isKept_14 rfl (by first | exact z0 | exact z1 | exact bI01 _ | assumption) ?_
      rw [← bI_t (b := ((some j).filter (fun i => decide (i < 5))).isSome) (by rw [Option.filter_some]; simp; omega)]; exact k
theorem c_isLetter {c : Nat} (hc : c < 256) (k : K (some (.int (bI (isLt c)))) μ) : Cl E M_X10_isLetter [.int (nI c)] μ K := by
  have ye : isLt c = true → K (some (.int (nI 1))) μ := fun h => by rw [← bI_t h]; exact k
  have no : isLt c = false → K (some (.int (nI 0))) μ := fun h => by rw [← bI_f h]; exact k
  unfold isLt isSm isBg at ye no
  simp at ye no
  refine Cl.of0 0 pn_X10 (Nat.le_of_ble_eq_true rfl) ⟨rfl, rfl⟩ rfl ?_
  refine e_il0 1 rfl dX10_isLetter_0 ?_
  refine e_bipush (nI 65) 3 rfl dX10_isLetter_1 bc_65 ?_
  first | refine e_cmp_ltN 12 6 (by decide) rfl dX10_isLetter_3 rfl rfl (by omega) (by omega) (fun y1 => ?_) (fun y1 => ?_) | refine e_cmp_lt 12 6 (by decide) rfl dX10_isLetter_3 (fun y1 => ?_) (fun y1 => ?_)
  · refine e_il0 13 rfl dX10_isLetter_12 ?_
    refine e_bipush (nI 97) 15 rfl dX10_isLetter_13 bc_97 ?_
    first | refine e_cmp_ltN 28 18 (by decide) rfl dX10_isLetter_15 rfl rfl (by omega) (by omega) (fun y2 => ?_) (fun y2 => ?_) | refine e_cmp_lt 28 18 (by decide) rfl dX10_isLetter_15 (fun y2 => ?_) (fun y2 => ?_)
    · refine e_iconst (nI 0) 29 rfl dX10_isLetter_28 ic_0 ?_
      refine e_zret dX10_isLetter_29 rfl (by first | exact z0 | exact z1 | exact bI01 _ | assumption) ?_
      exact no (by omega) (by omega)
    refine e_il0 19 rfl dX10_isLetter_18 ?_
    refine e_bipush (nI 122) 21 rfl dX10_isLetter_19 bc_122 ?_
    first | refine e_cmp_gtN 28 24 (by decide) rfl dX10_isLetter_21 rfl rfl (by omega) (by omega) (fun y3 => ?_) (fun y3 => ?_) | refine e_cmp_gt 28 24 (by decide) rfl dX10_isLetter_21 (fun y3 => ?_) (fun y3 => ?_)
    · refine e_iconst (nI 0) 29 rfl dX10_isLetter_28 ic_0 ?_
      refine e_zret dX10_isLetter_29 rfl (by first | exact z0 | exact z1 | exact bI01 _ | assumption) ?_
      exact no (by omega) (by omega)
    · refine e_iconst (nI 1) 25 rfl dX10_isLetter_24 ic_1 ?_
      refine e_goto 29 (by decide) dX10_isLetter_25 ?_
      refine e_zret dX10_isLetter_29 rfl (by first | exact z0 | exact z1 | exact bI01 _ | assumption) ?_
      exact ye (by omega)
  refine e_il0 7 rfl dX10_isLetter_6 ?_
  refine e_bipush (nI 90) 9 rfl dX10_isLetter_7 bc_90 ?_
  first | refine e_cmp_leN 24 12 (by decide) rfl dX10_isLetter_9 rfl rfl (by omega) (by omega) (fun y2 => ?_) (fun y2 => ?_) | refine e_cmp_le 24 12 (by decide) rfl dX10_isLetter_9 (fun y2 => ?_) (fun y2 => ?_)
  · refine e_iconst (nI 1) 25 rfl dX10_isLetter_24 ic_1 ?_
    refine e_goto 29 (by decide) dX10_isLetter_25 ?_
    refine e_zret dX10_isLetter_29 rfl (by first | exact z0 | exact z1 | exact bI01 _ | assumption) ?_
    exact ye (by omega)
  refine e_il0 13 rfl dX10_isLetter_12 ?_
  refine e_bipush (nI 97) 15 rfl dX10_isLetter_13 bc_97 ?_
  first | refine e_cmp_ltN 28 18 (by decide) rfl dX10_isLetter_15 rfl rfl (by omega) (by omega) (fun y3 => ?_) (fun y3 => ?_) | refine e_cmp_lt 28 18 (by decide) rfl dX10_isLetter_15 (fun y3 => ?_) (fun y3 => ?_)
  · refine e_iconst (nI 0) 29 rfl dX10_isLetter_28 ic_0 ?_
    refine e_zret dX10_isLetter_29 rfl (by first | exact z0 | exact z1 | exact bI01 _ | assumption) ?_
    exact no (by omega) (by omega)
  refine e_il0 19 rfl dX10_isLetter_18 ?_
  refine e_bipush (nI 122) 21 rfl dX10_isLetter_19 bc_122 ?_
  first | refine e_cmp_gtN 28 24 (by decide) rfl dX10_isLetter_21 rfl rfl (by omega) (by omega) (fun y4 => ?_) (fun y4 => ?_) | refine e_cmp_gt 28 24 (by decide) rfl dX10_isLetter_21 (fun y4 => ?_) (fun y4 => ?_)
  · refine e_iconst (nI 0) 29 rfl dX10_isLetter_28 ic_0 ?_
    refine e_zret dX10_isLetter_29 rfl (by first | exact z0 | exact z1 | exact bI01 _ | assumption) ?_
    exact no (by omega) (by omega)
  · refine e_iconst (nI 1) 25 rfl dX10_isLetter_24 ic_1 ?_
    refine e_goto 29 (by decide) dX10_isLetter_25 ?_
    refine e_zret dX10_isLetter_29 rfl (by first | exact z0 | exact z1 | exact bI01 _ | assumption) ?_
    exact ye (by omega)
theorem and255 (y : Int32) : y &&& nI 255 = nI (y.toBitVec.toNat % 256) := by
  apply Int32.toBitVec_inj.mp
  apply BitVec.eq_of_toNat_eq
  have h1 : (y &&& nI 255).toBitVec.toNat = y.toBitVec.toNat &&& 255 := by simp [nI]
  rw [h1, show (255 : Nat) = 2 ^ 8 - 1 by decide, Nat.and_two_pow_sub_one_eq_mod]
  simp [nI]
  omega
theorem rem4 : ∀ k, k < 20 → nI k - nI k / nI 4 * nI 4 = nI (k % 4) := by decide +kernel
theorem m_feed {m : Nat} {S : Ast} {a b c e f : Int32} (hW : WF S) (hM : MI m S μ) (k : ∀ μ', MF m μ μ' → MI m (q_feed S a b c e f).2 μ' → K (some (.int (q_feed S a b c e f).1)) μ') : Cl E M_X10_feed [.ref m, .int a, .int b, .int c, .int e, .int f] μ K := by
  have h400 := hW.1.1
  have mk : mK (sF μ m 2 (nI 0)) m = 11 := hM.1.1
  have hM1 := hM.thr (nI 0)
  have t1 := hM1.2.1.1
  have mk0 := hM.1.1
  unfold q_feed at k
  refine Cl.of0 2 pn_X10 (Nat.le_of_ble_eq_true rfl) ⟨rfl, rfl⟩ rfl ?_
  refine e_al0 1 rfl dX10_feed_0 ?_
  refine e_iconst (nI 0) 2 rfl dX10_feed_1 ic_0 ?_
  refine e_putI 5 rfl dX10_feed_2 f_X10_126 (by assumption) ?_
  refine e_al0 6 rfl dX10_feed_5 ?_
  first | refine e_getIv 9 rfl dX10_feed_6 f_X10_129 (by assumption) (by first | assumption | (simp only [mN_sF, mK_sF, mL_sF, mF_sF, mB_sF, mA_sF, mJ_sF, mP_sF, mO_sF, mN_sB, mK_sB, mL_sB, mF_sB, mB_sB, mA_sB, mJ_sB, mP_sB, mO_sB, mN_sA, mK_sA, mL_sA, mF_sA, mB_sA, mA_sA, mJ_sA, mP_sA, mO_sA, mN_sJ, mK_sJ, mL_sJ, mF_sJ, mB_sJ, mA_sJ, mJ_sJ, mP_sJ, mO_sJ, mN_sP, mK_sP, mL_sP, mF_sP, mB_sP, mA_sP, mJ_sP, mP_sP, mO_sP, mN_sO, mK_sO, mL_sO, mF_sO, mB_sO, mA_sO, mJ_sO, mP_sO, mO_sO, up2, if_true, if_false, eq_self, ite_true, ite_false, reduceIte, Nat.add_left_cancel_iff, Nat.add_eq_left, Nat.left_eq_add, Nat.reduceEqDiff]; assumption) | (simp only [mN_sF, mK_sF, mL_sF, mF_sF, mB_sF, mA_sF, mJ_sF, mP_sF, mO_sF, mN_sB, mK_sB, mL_sB, mF_sB, mB_sB, mA_sB, mJ_sB, mP_sB, mO_sB, mN_sA, mK_sA, mL_sA, mF_sA, mB_sA, mA_sA, mJ_sA, mP_sA, mO_sA, mN_sJ, mK_sJ, mL_sJ, mF_sJ, mB_sJ, mA_sJ, mJ_sJ, mP_sJ, mO_sJ, mN_sP, mK_sP, mL_sP, mF_sP, mB_sP, mA_sP, mJ_sP, mP_sP, mO_sP, mN_sO, mK_sO, mL_sO, mF_sO, mB_sO, mA_sO, mJ_sO, mP_sO, mO_sO, up2, if_true, if_false, eq_self, ite_true, ite_false, reduceIte, Nat.add_left_cancel_iff, Nat.add_eq_left, Nat.left_eq_add, Nat.reduceEqDiff]; done)) ?_ | refine e_getI 9 rfl dX10_feed_6 f_X10_129 (by assumption) ?_
  refine e_bipush (nI 20) 11 rfl dX10_feed_9 bc_20 ?_
  first | refine e_iaddN 12 rfl dX10_feed_11 rfl rfl ?_ | refine e_iadd 12 rfl dX10_feed_11 ?_
  refine e_sipush (nI 400) 15 rfl dX10_feed_12 sc_400 ?_
  first | refine e_cmp_leN 20 18 (by decide) rfl dX10_feed_15 rfl rfl (by omega) (by omega) (fun y1 => ?_) (fun y1 => ?_) | refine e_cmp_le 20 18 (by decide) rfl dX10_feed_15 (fun y1 => ?_) (fun y1 => ?_)
  rotate_left
  · rw [if_neg (by omega)] at k
    refine e_iconst (-1) 19 rfl dX10_feed_18 ic_m1 ?_
    refine e_iret dX10_feed_19 rfl ?_
    exact k _ (MF.thr _) hM1
  rw [if_pos y1] at k
  refine e_iconst (nI 0) 21 rfl dX10_feed_20 ic_0 ?_
  refine e_is6 23 rfl dX10_feed_21 (by decide) rfl ?_
  have f1 : MF m μ (sF μ m 2 (nI 0)) := MF.thr _
  generalize sF μ m 2 (nI 0) = μ1 at mk hM1 t1 f1 ⊢
  obtain ⟨L, hL⟩ : ∃ L, L = by4 a ++ by4 b ++ by4 c ++ by4 e ++ by4 f := ⟨_, rfl⟩
  have hL20 : L.length = 20 := by rw [hL]; rfl
  have sel : ∀ j, j < 20 → ∃ w, L[j]? = some (by8 w (24 - 8 * (j % 4))) ∧ ((j < 4 ∧ w = a) ∨ (4 ≤ j ∧ j < 8 ∧ w = b) ∨ (8 ≤ j ∧ j < 12 ∧ w = c) ∨ (12 ≤ j ∧ j < 16 ∧ w = e) ∨ (16 ≤ j ∧ w = f)) := by
    intro j hj
    have hc : j = 0 ∨ j = 1 ∨ j = 2 ∨ j = 3 ∨ j = 4 ∨ j = 5 ∨ j = 6 ∨ j = 7 ∨ j = 8 ∨ j = 9 ∨ j = 10 ∨ j = 11 ∨ j = 12 ∨ j = 13 ∨ j = 14 ∨ j = 15 ∨ j = 16 ∨ j = 17 ∨ j = 18 ∨ j = 19 := by omega
    rw [hL]
    rcases hc with h | h | h | h | h | h | h | h | h | h | h | h | h | h | h | h | h | h | h | h <;> subst h
    · exact ⟨a, rfl, Or.inl ⟨by omega, rfl⟩⟩
    · exact ⟨a, rfl, Or.inl ⟨by omega, rfl⟩⟩
    · exact ⟨a, rfl, Or.inl ⟨by omega, rfl⟩⟩
    · exact ⟨a, rfl, Or.inl ⟨by omega, rfl⟩⟩
    · exact ⟨b, rfl, Or.inr (Or.inl ⟨by omega, by omega, rfl⟩)⟩
    · exact ⟨b, rfl, Or.inr (Or.inl ⟨by omega, by omega, rfl⟩)⟩
    · exact ⟨b, rfl, Or.inr (Or.inl ⟨by omega, by omega, rfl⟩)⟩
    · exact ⟨b, rfl, Or.inr (Or.inl ⟨by omega, by omega, rfl⟩)⟩
    · exact ⟨c, rfl, Or.inr (Or.inr (Or.inl ⟨by omega, by omega, rfl⟩))⟩
    · exact ⟨c, rfl, Or.inr (Or.inr (Or.inl ⟨by omega, by omega, rfl⟩))⟩
    · exact ⟨c, rfl, Or.inr (Or.inr (Or.inl ⟨by omega, by omega, rfl⟩))⟩
    · exact ⟨c, rfl, Or.inr (Or.inr (Or.inl ⟨by omega, by omega, rfl⟩))⟩
    · exact ⟨e, rfl, Or.inr (Or.inr (Or.inr (Or.inl ⟨by omega, by omega, rfl⟩)))⟩
    · exact ⟨e, rfl, Or.inr (Or.inr (Or.inr (Or.inl ⟨by omega, by omega, rfl⟩)))⟩
    · exact ⟨e, rfl, Or.inr (Or.inr (Or.inr (Or.inl ⟨by omega, by omega, rfl⟩)))⟩
    · exact ⟨e, rfl, Or.inr (Or.inr (Or.inr (Or.inl ⟨by omega, by omega, rfl⟩)))⟩
    · exact ⟨f, rfl, Or.inr (Or.inr (Or.inr (Or.inr ⟨by omega, rfl⟩)))⟩
    · exact ⟨f, rfl, Or.inr (Or.inr (Or.inr (Or.inr ⟨by omega, rfl⟩)))⟩
    · exact ⟨f, rfl, Or.inr (Or.inr (Or.inr (Or.inr ⟨by omega, rfl⟩)))⟩
    · exact ⟨f, rfl, Or.inr (Or.inr (Or.inr (Or.inr ⟨by omega, rfl⟩)))⟩
  have loop : ∀ (fu j : Nat), j + fu = 20 → ∀ μ2 l7, Fr (fun q => q = m + 1) μ1 μ2 → Hd (mA μ2 (m + 1)) (aT S ++ L.take j) → Ev E M_X10_feed 0 0 23 [some (.ref m), some (.int a), some (.int b), some (.int c), some (.int e), some (.int f), some (.int (nI j)), l7] [] μ2 K := by
    intro fu
    induction fu with
    | zero =>
      intro j hj μ2 l7 hF2 hH2
      have mk2 : mK μ2 m = 11 := by rw [hF2.2.1]; exact mk
      have t2 : mF μ2 m 1 = nI (aT S).length := by rw [(hF2.2.2.2.2.2 m (by omega)).1]; exact t1
      have mk3 : mK (sF μ2 m 1 (nI ((aT S).length + 20))) m = 11 := mk2
      have t3 : mF (sF μ2 m 1 (nI ((aT S).length + 20))) m 1 = nI ((aT S).length + 20) := by simp only [mN_sF, mK_sF, mL_sF, mF_sF, mB_sF, mA_sF, mJ_sF, mP_sF, mO_sF, mN_sB, mK_sB, mL_sB, mF_sB, mB_sB, mA_sB, mJ_sB, mP_sB, mO_sB, mN_sA, mK_sA, mL_sA, mF_sA, mB_sA, mA_sA, mJ_sA, mP_sA, mO_sA, mN_sJ, mK_sJ, mL_sJ, mF_sJ, mB_sJ, mA_sJ, mJ_sJ, mP_sJ, mO_sJ, mN_sP, mK_sP, mL_sP, mF_sP, mB_sP, mA_sP, mJ_sP, mP_sP, mO_sP, mN_sO, mK_sO, mL_sO, mF_sO, mB_sO, mA_sO, mJ_sO, mP_sO, mO_sO, up2, if_true, if_false, eq_self, ite_true, ite_false, reduceIte, Nat.add_left_cancel_iff, Nat.add_eq_left, Nat.left_eq_add, Nat.reduceEqDiff]
      refine e_il6 25 rfl dX10_feed_23 ?_
      refine e_bipush (nI 20) 27 rfl dX10_feed_25 bc_20 ?_
      first | refine e_cmp_geN 113 30 (by decide) rfl dX10_feed_27 rfl rfl (by omega) (by omega) (fun y2 => ?_) (fun y2 => ?_) | refine e_cmp_ge 113 30 (by decide) rfl dX10_feed_27 (fun y2 => ?_) (fun y2 => ?_)
      rotate_left
      · omega
      refine e_al0 114 rfl dX10_feed_113 ?_
      refine e_dup 115 rfl dX10_feed_114 rfl ?_
      first | refine e_getIv 118 rfl dX10_feed_115 f_X10_129 (by assumption) (by first | assumption | (simp only [mN_sF, mK_sF, mL_sF, mF_sF, mB_sF, mA_sF, mJ_sF, mP_sF, mO_sF, mN_sB, mK_sB, mL_sB, mF_sB, mB_sB, mA_sB, mJ_sB, mP_sB, mO_sB, mN_sA, mK_sA, mL_sA, mF_sA, mB_sA, mA_sA, mJ_sA, mP_sA, mO_sA, mN_sJ, mK_sJ, mL_sJ, mF_sJ, mB_sJ, mA_sJ, mJ_sJ, mP_sJ, mO_sJ, mN_sP, mK_sP, mL_sP, mF_sP, mB_sP, mA_sP, mJ_sP, mP_sP, mO_sP, mN_sO, mK_sO, mL_sO, mF_sO, mB_sO, mA_sO, mJ_sO, mP_sO, mO_sO, up2, if_true, if_false, eq_self, ite_true, ite_false, reduceIte, Nat.add_left_cancel_iff, Nat.add_eq_left, Nat.left_eq_add, Nat.reduceEqDiff]; assumption) | (simp only [mN_sF, mK_sF, mL_sF, mF_sF, mB_sF, mA_sF, mJ_sF, mP_sF, mO_sF, mN_sB, mK_sB, mL_sB, mF_sB, mB_sB, mA_sB, mJ_sB, mP_sB, mO_sB, mN_sA, mK_sA, mL_sA, mF_sA, mB_sA, mA_sA, mJ_sA, mP_sA, mO_sA, mN_sJ, mK_sJ, mL_sJ, mF_sJ, mB_sJ, mA_sJ, mJ_sJ, mP_sJ, mO_sJ, mN_sP, mK_sP, mL_sP, mF_sP, mB_sP, mA_sP, mJ_sP, mP_sP, mO_sP, mN_sO, mK_sO, mL_sO, mF_sO, mB_sO, mA_sO, mJ_sO, mP_sO, mO_sO, up2, if_true, if_false, eq_self, ite_true, ite_false, reduceIte, Nat.add_left_cancel_iff, Nat.add_eq_left, Nat.left_eq_add, Nat.reduceEqDiff]; done)) ?_ | refine e_getI 118 rfl dX10_feed_115 f_X10_129 (by assumption) ?_
      refine e_bipush (nI 20) 120 rfl dX10_feed_118 bc_20 ?_
      first | refine e_iaddN 121 rfl dX10_feed_120 rfl rfl ?_ | refine e_iadd 121 rfl dX10_feed_120 ?_
      refine e_putI 124 rfl dX10_feed_121 f_X10_129 (by assumption) ?_
      refine e_al0 125 rfl dX10_feed_124 ?_
      first | refine e_getIv 128 rfl dX10_feed_125 f_X10_129 (by assumption) (by first | assumption | (simp only [mN_sF, mK_sF, mL_sF, mF_sF, mB_sF, mA_sF, mJ_sF, mP_sF, mO_sF, mN_sB, mK_sB, mL_sB, mF_sB, mB_sB, mA_sB, mJ_sB, mP_sB, mO_sB, mN_sA, mK_sA, mL_sA, mF_sA, mB_sA, mA_sA, mJ_sA, mP_sA, mO_sA, mN_sJ, mK_sJ, mL_sJ, mF_sJ, mB_sJ, mA_sJ, mJ_sJ, mP_sJ, mO_sJ, mN_sP, mK_sP, mL_sP, mF_sP, mB_sP, mA_sP, mJ_sP, mP_sP, mO_sP, mN_sO, mK_sO, mL_sO, mF_sO, mB_sO, mA_sO, mJ_sO, mP_sO, mO_sO, up2, if_true, if_false, eq_self, ite_true, ite_false, reduceIte, Nat.add_left_cancel_iff, Nat.add_eq_left, Nat.left_eq_add, Nat.reduceEqDiff]; assumption) | (simp only [mN_sF, mK_sF, mL_sF, mF_sF, mB_sF, mA_sF, mJ_sF, mP_sF, mO_sF, mN_sB, mK_sB, mL_sB, mF_sB, mB_sB, mA_sB, mJ_sB, mP_sB, mO_sB, mN_sA, mK_sA, mL_sA, mF_sA, mB_sA, mA_sA, mJ_sA, mP_sA, mO_sA, mN_sJ, mK_sJ, mL_sJ, mF_sJ, mB_sJ, mA_sJ, mJ_sJ, mP_sJ, mO_sJ, mN_sP, mK_sP, mL_sP, mF_sP, mB_sP, mA_sP, mJ_sP, mP_sP, mO_sP, mN_sO, mK_sO, mL_sO, mF_sO, mB_sO, mA_sO, mJ_sO, mP_sO, mO_sO, up2, if_true, if_false, eq_self, ite_true, ite_false, reduceIte, Nat.add_left_cancel_iff, Nat.add_eq_left, Nat.left_eq_add, Nat.reduceEqDiff]; done)) ?_ | refine e_getI 128 rfl dX10_feed_125 f_X10_129 (by assumption) ?_
      refine e_iret dX10_feed_128 rfl ?_
      have ej : j = 20 := by omega
      subst ej
      rw [List.take_of_length_le (by omega)] at hH2
      have hF3 : Fr (fun q => q = m + 1 ∨ q = m) μ1 (sF μ2 m 1 (nI ((aT S).length + 20))) := (hF2.mono (S' := fun q => q = m + 1 ∨ q = m) (fun q h => Or.inl h)).sF (Or.inr rfl) _ _
      have hk3 : ∀ g, g ≠ 1 → mF (sF μ2 m 1 (nI ((aT S).length + 20))) m g = mF μ1 m g := fun g hg => by
        show up2 _ m 1 _ m g = _
        rw [up2_k hg, (hF2.2.2.2.2.2 m (by omega)).1]
      obtain ⟨h1, h2, ⟨es, he, h3⟩, h4, h5, h6, h7⟩ := hM1
      refine k _ (f1.trans (hF3.mono (fun q h => by omega))) ⟨h1.fr hF3, ⟨?_, ?_⟩, ⟨es, he, h3.fr hF3 (hk3 3 (by decide)) (fun q a b => by omega)⟩, h4.fr hF3 (fun q a b => by omega), ⟨by rw [hk3 18 (by decide)]; exact h5.1, by rw [hk3 19 (by decide)]; exact h5.2⟩, h6.fr hF3 (hk3 20 (by decide)) (fun q a b => by omega), h7.fr hF3 (fun q a b => by omega)⟩
      · show up2 _ m 1 _ m 1 = nI (aT S ++ by4 a ++ by4 b ++ by4 c ++ by4 e ++ by4 f).length
        rw [up2_s]
        congr 1
        simp only [List.length_append]
        rfl
      · show Hd (mA μ2 (m + 1)) (aT S ++ by4 a ++ by4 b ++ by4 c ++ by4 e ++ by4 f)
        rw [hL] at hH2
        simp only [List.append_assoc] at hH2 ⊢
        exact hH2
    | succ fu ih =>
      intro j hj μ2 l7 hF2 hH2
      have mk2 : mK μ2 m = 11 := by rw [hF2.2.1]; exact mk
      have t2 : mF μ2 m 1 = nI (aT S).length := by rw [(hF2.2.2.2.2.2 m (by omega)).1]; exact t1
      obtain ⟨pt, kt, lt⟩ := (hM1.1.fr hF2).tape
      obtain ⟨w, hw, hsel⟩ := sel j (by omega)
      have fin : Ev E M_X10_feed 0 0 76 [some (.ref m), some (.int a), some (.int b), some (.int c), some (.int e), some (.int f), some (.int (nI j)), l7] [.int w] μ2 K := by
        refine e_is7 78 rfl dX10_feed_76 (by decide) rfl ?_
        refine e_al0 79 rfl dX10_feed_78 ?_
        refine e_getR 82 rfl dX10_feed_79 f_X10_7 (by assumption) (by assumption) ?_
        refine e_al0 83 rfl dX10_feed_82 ?_
        first | refine e_getIv 86 rfl dX10_feed_83 f_X10_129 (by assumption) (by first | assumption | (simp only [mN_sF, mK_sF, mL_sF, mF_sF, mB_sF, mA_sF, mJ_sF, mP_sF, mO_sF, mN_sB, mK_sB, mL_sB, mF_sB, mB_sB, mA_sB, mJ_sB, mP_sB, mO_sB, mN_sA, mK_sA, mL_sA, mF_sA, mB_sA, mA_sA, mJ_sA, mP_sA, mO_sA, mN_sJ, mK_sJ, mL_sJ, mF_sJ, mB_sJ, mA_sJ, mJ_sJ, mP_sJ, mO_sJ, mN_sP, mK_sP, mL_sP, mF_sP, mB_sP, mA_sP, mJ_sP, mP_sP, mO_sP, mN_sO, mK_sO, mL_sO, mF_sO, mB_sO, mA_sO, mJ_sO, mP_sO, mO_sO, up2, if_true, if_false, eq_self, ite_true, ite_false, reduceIte, Nat.add_left_cancel_iff, Nat.add_eq_left, Nat.left_eq_add, Nat.reduceEqDiff]; assumption) | (simp only [mN_sF, mK_sF, mL_sF, mF_sF, mB_sF, mA_sF, mJ_sF, mP_sF, mO_sF, mN_sB, mK_sB, mL_sB, mF_sB, mB_sB, mA_sB, mJ_sB, mP_sB, mO_sB, mN_sA, mK_sA, mL_sA, mF_sA, mB_sA, mA_sA, mJ_sA, mP_sA, mO_sA, mN_sJ, mK_sJ, mL_sJ, mF_sJ, mB_sJ, mA_sJ, mJ_sJ, mP_sJ, mO_sJ, mN_sP, mK_sP, mL_sP, mF_sP, mB_sP, mA_sP, mJ_sP, mP_sP, mO_sP, mN_sO, mK_sO, mL_sO, mF_sO, mB_sO, mA_sO, mJ_sO, mP_sO, mO_sO, up2, if_true, if_false, eq_self, ite_true, ite_false, reduceIte, Nat.add_left_cancel_iff, Nat.add_eq_left, Nat.left_eq_add, Nat.reduceEqDiff]; done)) ?_ | refine e_getI 86 rfl dX10_feed_83 f_X10_129 (by assumption) ?_
        refine e_il6 88 rfl dX10_feed_86 ?_
        first | refine e_iaddN 89 rfl dX10_feed_88 rfl rfl ?_ | refine e_iadd 89 rfl dX10_feed_88 ?_
        refine e_il7 91 rfl dX10_feed_89 ?_
        refine e_bipush (nI 24) 93 rfl dX10_feed_91 bc_24 ?_
        refine e_bipush (nI 8) 95 rfl dX10_feed_93 bc_8 ?_
        refine e_il6 97 rfl dX10_feed_95 ?_
        refine e_iconst (nI 4) 98 rfl dX10_feed_97 ic_4 ?_
        refine e_irem 99 rfl dX10_feed_98 (by decide) ?_
        rw [rem4 j (by omega)]
        first | refine e_imulN 100 rfl dX10_feed_99 rfl rfl ?_ | refine e_imul 100 rfl dX10_feed_99 ?_
        first | refine e_isubN 101 rfl dX10_feed_100 rfl rfl (by omega) ?_ | refine e_isub 101 rfl dX10_feed_100 ?_
        refine e_ishr 102 rfl dX10_feed_101 ?_
        refine e_sipush (nI 255) 105 rfl dX10_feed_102 sc_255 ?_
        refine e_iand 106 rfl dX10_feed_105 ?_
        rw [and255]
        refine e_iast 107 rfl dX10_feed_106 (by assumption) (by assumption) (by first | rfl | simp only [pk_mul, nI_add]) (by omega) (by omega) ?_
        refine e_ii6 (nI (_ + 1)) 110 rfl dX10_feed_107 (ii1 _) rfl ?_
        refine e_goto 23 (by decide) dX10_feed_110 ?_
        refine ih (j + 1) (by omega) _ _ (hF2.sA rfl _ _) ?_
        have hjl : j < L.length := by omega
        rw [List.take_succ_eq_append_getElem hjl, ← List.append_assoc]
        have hlen : (aT S ++ L.take j).length = (aT S).length + j := by rw [List.length_append, List.length_take]; omega
        refine hH2.push (fun i hi => ?_) ?_
        · show up2 _ (m + 1) _ _ (m + 1) i = _
          rw [up2_k (by omega)]
        · show up2 _ (m + 1) _ _ (m + 1) _ = _
          rw [hlen, up2_s]
          have : L[j] = by8 w (24 - 8 * (j % 4)) := by rw [List.getElem?_eq_getElem hjl] at hw; exact Option.some.inj hw
          rw [this]
          rfl
      refine e_il6 25 rfl dX10_feed_23 ?_
      refine e_bipush (nI 20) 27 rfl dX10_feed_25 bc_20 ?_
      first | refine e_cmp_geN 113 30 (by decide) rfl dX10_feed_27 rfl rfl (by omega) (by omega) (fun y2 => ?_) (fun y2 => ?_) | refine e_cmp_ge 113 30 (by decide) rfl dX10_feed_27 (fun y2 => ?_) (fun y2 => ?_)
      · omega
      refine e_il6 32 rfl dX10_feed_30 ?_
      refine e_iconst (nI 4) 33 rfl dX10_feed_32 ic_4 ?_
      first | refine e_cmp_geN 40 36 (by decide) rfl dX10_feed_33 rfl rfl (by omega) (by omega) (fun y3 => ?_) (fun y3 => ?_) | refine e_cmp_ge 40 36 (by decide) rfl dX10_feed_33 (fun y3 => ?_) (fun y3 => ?_)
      rotate_left
      · refine e_il1 37 rfl dX10_feed_36 ?_
        refine e_goto 76 (by decide) dX10_feed_37 ?_
        have : w = a := by rcases hsel with q | q | q | q | q <;> first | exact q.2 | omega
        subst this
        exact fin
      refine e_il6 42 rfl dX10_feed_40 ?_
      refine e_bipush (nI 8) 44 rfl dX10_feed_42 bc_8 ?_
      first | refine e_cmp_geN 51 47 (by decide) rfl dX10_feed_44 rfl rfl (by omega) (by omega) (fun y4 => ?_) (fun y4 => ?_) | refine e_cmp_ge 51 47 (by decide) rfl dX10_feed_44 (fun y4 => ?_) (fun y4 => ?_)
      rotate_left
      · refine e_il2 48 rfl dX10_feed_47 ?_
        refine e_goto 76 (by decide) dX10_feed_48 ?_
        have : w = b := by rcases hsel with q | q | q | q | q <;> first | exact q.2.2 | omega
        subst this
        exact fin
      refine e_il6 53 rfl dX10_feed_51 ?_
      refine e_bipush (nI 12) 55 rfl dX10_feed_53 bc_12 ?_
      first | refine e_cmp_geN 62 58 (by decide) rfl dX10_feed_55 rfl rfl (by omega) (by omega) (fun y5 => ?_) (fun y5 => ?_) | refine e_cmp_ge 62 58 (by decide) rfl dX10_feed_55 (fun y5 => ?_) (fun y5 => ?_)
      rotate_left
      · refine e_il3 59 rfl dX10_feed_58 ?_
        refine e_goto 76 (by decide) dX10_feed_59 ?_
        have : w = c := by rcases hsel with q | q | q | q | q <;> first | exact q.2.2 | omega
        subst this
        exact fin
      refine e_il6 64 rfl dX10_feed_62 ?_
      refine e_bipush (nI 16) 66 rfl dX10_feed_64 bc_16 ?_
      first | refine e_cmp_geN 74 69 (by decide) rfl dX10_feed_66 rfl rfl (by omega) (by omega) (fun y6 => ?_) (fun y6 => ?_) | refine e_cmp_ge 74 69 (by decide) rfl dX10_feed_66 (fun y6 => ?_) (fun y6 => ?_)
      rotate_left
      · refine e_il4 71 rfl dX10_feed_69 ?_
        refine e_goto 76 (by decide) dX10_feed_71 ?_
        have : w = e := by rcases hsel with q | q | q | q | q <;> first | exact q.2.2 | omega
        subst this
        exact fin
      refine e_il5 76 rfl dX10_feed_74 ?_
      have : w = f := by rcases hsel with q | q | q | q | q <;> first | exact q.2 | omega
      subst this
      exact fin
  exact loop 20 0 (by omega) μ1 _ Fr.rf (by rw [List.take_zero, List.append_nil]; exact hM1.2.1.2)
end MODEL
