/-! long numbers -/
section LONGS
variable {E : En} {M : Mt} {kc ks pc : Nat} {ls : List (Option Value)} {st : List Value} {μ : Mm} {Q : Option Value → Mm → Prop}
def nL (n : Nat) : Int64 := Int64.ofNat n
theorem nL_or (a b : Nat) : nL a ||| nL b = nL (a ||| b) := by
  apply Int64.toBitVec_inj.mp
  simp [nL, BitVec.ofNat_or]
theorem nL_and (a b : Nat) : nL a &&& nL b = nL (a &&& b) := by
  apply Int64.toBitVec_inj.mp
  simp [nL, BitVec.ofNat_and]
theorem nL_add (a b : Nat) : nL a + nL b = nL (a + b) := by
  apply Int64.toBitVec_inj.mp
  simp [nL]
theorem nL_i32 (a : Nat) : (nL a).toInt32 = nI a := by
  apply Int32.toBitVec_inj.mp
  apply BitVec.eq_of_toNat_eq
  simp [nL, nI]
theorem nI_i64 {a : Nat} (h : a < 2 ^ 31) : (nI a).toInt64 = nL a := by
  apply Int64.toBitVec_inj.mp
  apply BitVec.eq_of_toNat_eq
  have hm : (BitVec.ofNat 32 a).msb = false := by rw [BitVec.msb_eq_false_iff_two_mul_lt]; simp; omega
  show (BitVec.signExtend 64 (BitVec.ofNat 32 a)).toNat = (BitVec.ofNat 64 a).toNat
  rw [BitVec.signExtend_eq_setWidth_of_msb_false hm]
  simp
  omega
theorem nL_shr {v s : Nat} (hv : v < 2 ^ 63) (x : Int64) (hs : (x.toBitVec.smod 64).toNat = s) : nL v >>> x = nL (v / 2 ^ s) := by
  apply Int64.toBitVec_inj.mp
  rw [Int64.toBitVec_shiftRight, BitVec.sshiftRight', hs, BitVec.sshiftRight_eq_of_msb_false]
  · apply BitVec.eq_of_toNat_eq
    have h1 : v / 2 ^ s ≤ v := Nat.div_le_self _ _
    have h2 : (nL v).toBitVec.toNat = v := by simp [nL]; omega
    rw [BitVec.toNat_ushiftRight, h2, Nat.shiftRight_eq_div_pow]
    show _ = (BitVec.ofNat 64 (v / 2 ^ s)).toNat
    rw [BitVec.toNat_ofNat, Nat.mod_eq_of_lt]
    exact Nat.lt_of_le_of_lt h1 (Nat.lt_trans hv (by decide))
  · rw [BitVec.msb_eq_false_iff_two_mul_lt]; simp [nL]; omega
theorem nL_shl {v s : Nat} (x : Int64) (hs : (x.toBitVec.smod 64).toNat = s) : nL v <<< x = nL (v * 2 ^ s) := by
  apply Int64.toBitVec_inj.mp
  rw [Int64.toBitVec_shiftLeft, BitVec.shiftLeft_eq', hs]
  apply BitVec.eq_of_toNat_eq
  simp [nL, Nat.shiftLeft_eq]
theorem sm63 : ∀ s, s < 64 → (((nI s).toInt64 &&& 63).toBitVec.smod 64).toNat = s := by decide +kernel

theorem e_lshrN {x : Int64} {y : Int32} {v s : Nat} (n : Nat) (hp : pc + 1 = n) (hd : decode M.2.1 pc = .ok (.lshr, 1)) (hx : x = nL v) (hy : y = nI s) (hv : v < 2 ^ 63) (hs : s < 64) (k : Ev E M kc ks n ls (.long (nL (v / 2 ^ s)) :: st) μ Q) : Ev E M kc ks pc ls (.int y :: .long x :: st) μ Q := e_lshr n hp hd (by rw [hx, hy, nL_shr hv _ (sm63 s hs)]; exact k)
theorem e_lshlN {x : Int64} {y : Int32} {v s : Nat} (n : Nat) (hp : pc + 1 = n) (hd : decode M.2.1 pc = .ok (.lshl, 1)) (hx : x = nL v) (hy : y = nI s) (hs : s < 64) (k : Ev E M kc ks n ls (.long (nL (v * 2 ^ s)) :: st) μ Q) : Ev E M kc ks pc ls (.int y :: .long x :: st) μ Q := e_lshl n hp hd (by rw [hx, hy, nL_shl _ (sm63 s hs)]; exact k)
theorem e_landN {x y : Int64} {a b : Nat} (n : Nat) (hp : pc + 1 = n) (hd : decode M.2.1 pc = .ok (.land, 1)) (hx : x = nL a) (hy : y = nL b) (k : Ev E M kc ks n ls (.long (nL (a &&& b)) :: st) μ Q) : Ev E M kc ks pc ls (.long y :: .long x :: st) μ Q := e_land n hp hd (by rw [hx, hy, nL_and]; exact k)
theorem e_lorN {x y : Int64} {a b : Nat} (n : Nat) (hp : pc + 1 = n) (hd : decode M.2.1 pc = .ok (.lor, 1)) (hx : x = nL a) (hy : y = nL b) (k : Ev E M kc ks n ls (.long (nL (a ||| b)) :: st) μ Q) : Ev E M kc ks pc ls (.long y :: .long x :: st) μ Q := e_lor n hp hd (by rw [hx, hy, nL_or]; exact k)
theorem e_laddN {x y : Int64} {a b : Nat} (n : Nat) (hp : pc + 1 = n) (hd : decode M.2.1 pc = .ok (.ladd, 1)) (hx : x = nL a) (hy : y = nL b) (k : Ev E M kc ks n ls (.long (nL (a + b)) :: st) μ Q) : Ev E M kc ks pc ls (.long y :: .long x :: st) μ Q := e_ladd n hp hd (by rw [hx, hy, nL_add]; exact k)
theorem e_i2lN {x : Int32} {a : Nat} (n : Nat) (hp : pc + 1 = n) (hd : decode M.2.1 pc = .ok (.i2l, 1)) (hx : x = nI a) (ha : a < 2 ^ 31) (k : Ev E M kc ks n ls (.long (nL a) :: st) μ Q) : Ev E M kc ks pc ls (.int x :: st) μ Q := e_i2l n hp hd (by rw [hx, nI_i64 ha]; exact k)
theorem e_l2iN {x : Int64} {a : Nat} (n : Nat) (hp : pc + 1 = n) (hd : decode M.2.1 pc = .ok (.l2i, 1)) (hx : x = nL a) (k : Ev E M kc ks n ls (.int (nI a) :: st) μ Q) : Ev E M kc ks pc ls (.long x :: st) μ Q := e_l2i n hp hd (by rw [hx, nL_i32]; exact k)
theorem e_ll11 {x0 x1 x2 x3 x4 x5 x6 x7 x8 x9 x10 : Option Value} {ls : List (Option Value)} {x : Int64} (n : Nat) (hp : pc + 2 = n) (hd : decode M.2.1 pc = .ok (.lload 11, 2)) (k : Ev E M kc ks n (x0 :: x1 :: x2 :: x3 :: x4 :: x5 :: x6 :: x7 :: x8 :: x9 :: x10 :: some (.long x) :: ls) (.long x :: st) μ Q) : Ev E M kc ks pc (x0 :: x1 :: x2 :: x3 :: x4 :: x5 :: x6 :: x7 :: x8 :: x9 :: x10 :: some (.long x) :: ls) st μ Q := e_lload n hp hd rfl k
theorem e_ls11 {x0 x1 x2 x3 x4 x5 x6 x7 x8 x9 x10 : Option Value} {y z : Option Value} {ls : List (Option Value)} {x : Int64} (n : Nat) (hp : pc + 2 = n) (hd : decode M.2.1 pc = .ok (.lstore 11, 2)) (hi : 11 + 1 < M.2.2.1) (hb : nl x10 = true) (k : Ev E M kc ks n (x0 :: x1 :: x2 :: x3 :: x4 :: x5 :: x6 :: x7 :: x8 :: x9 :: x10 :: some (.long x) :: none :: ls) st μ Q) : Ev E M kc ks pc (x0 :: x1 :: x2 :: x3 :: x4 :: x5 :: x6 :: x7 :: x8 :: x9 :: x10 :: y :: z :: ls) (.long x :: st) μ Q := e_lstore n hp hd hi (Or.inr (fun x h => by cases h; exact hb)) rfl k
/-- a row of the reader as a number -/
def enc (x : Rw) : Nat := x.1 * 2 ^ 40 + x.2.1 * 2 ^ 12 + x.2.2
def eOK (x : Rw) : Prop := x.1 ≤ 40 ∧ x.2.1 < 2 ^ 24 ∧ x.2.2 < 512
theorem enc_lt {x : Rw} (h : eOK x) : enc x < 2 ^ 63 := by obtain ⟨h1, h2, h3⟩ := h; unfold enc; omega
theorem enc_c {x : Rw} (h : eOK x) : enc x / 2 ^ 40 = x.1 := by obtain ⟨h1, h2, h3⟩ := h; unfold enc; omega
theorem enc_m {x : Rw} (h : eOK x) : (enc x / 2 ^ 12) &&& 16777215 = x.2.1 := by
  obtain ⟨h1, h2, h3⟩ := h
  rw [show (16777215 : Nat) = 2 ^ 24 - 1 from rfl, Nat.and_two_pow_sub_one_eq_mod]
  unfold enc; omega
theorem enc_o {x : Rw} (h : eOK x) : enc x &&& 511 = x.2.2 := by
  obtain ⟨h1, h2, h3⟩ := h
  rw [show (511 : Nat) = 2 ^ 9 - 1 from rfl, Nat.and_two_pow_sub_one_eq_mod]
  unfold enc; omega
theorem or_sum {a b i : Nat} (h : b < 2 ^ i) : a * 2 ^ i ||| b = a * 2 ^ i + b := by
  have := Nat.shiftLeft_add_eq_or_of_lt h a
  rw [Nat.shiftLeft_eq] at this
  exact this.symm
theorem enc_mk {c m o : Nat} (hm : m < 2 ^ 24) (ho : o < 512) : (c * 2 ^ 40 ||| m * 2 ^ 12) ||| o = enc (c, m, o) := by
  rw [or_sum (show m * 2 ^ 12 < 2 ^ 40 by omega), show c * 2 ^ 40 + m * 2 ^ 12 = (c * 2 ^ 28 + m) * 2 ^ 12 by omega, or_sum (by omega)]
  unfold enc
  simp only []
  omega
/-- rows in a row of longs -/
def HJ (f : Nat → Int64) (R : List Rw) : Prop := ∀ i x, R[i]? = some x → f i = nL (enc x)
theorem HJ.push {f g : Nat → Int64} {R : List Rw} {x : Rw} (h : HJ f R) (ho : ∀ i, i < R.length → g i = f i) (hc : g R.length = nL (enc x)) : HJ g (R ++ [x]) := by
  intro i d hi
  rcases Nat.lt_trichotomy i R.length with q | q | q
  · rw [List.getElem?_append_left q] at hi
    rw [ho i q]
    exact h i d hi
  · subst q
    simp at hi
    subst hi
    exact hc
  · rw [List.getElem?_append_right (by omega)] at hi
    have : i - R.length < 1 := (List.getElem?_eq_some_iff.mp hi).1
    omega
/-- where rows and spare lie -/
def Rp (μ : Mm) (r ra sa : Nat) : Prop := mP μ r 4 = some ra ∧ mP μ r 5 = some sa ∧ ((ra = r + 28 ∧ sa = r + 29) ∨ (ra = r + 29 ∧ sa = r + 28))
end LONGS
