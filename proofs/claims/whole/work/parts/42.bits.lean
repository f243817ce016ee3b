/-! bits as numbers -/
section BITS
variable {E : En} {M : Mt} {kc ks pc : Nat} {ls : List (Option Value)} {st : List Value} {μ : Mm} {Q : Option Value → Mm → Prop}
theorem nI_or (a b : Nat) : nI a ||| nI b = nI (a ||| b) := by
  apply Int32.toBitVec_inj.mp
  simp [nI, BitVec.ofNat_or]
theorem nI_and (a b : Nat) : nI a &&& nI b = nI (a &&& b) := by
  apply Int32.toBitVec_inj.mp
  simp [nI, BitVec.ofNat_and]
theorem nI_shl1 : ∀ s, s < 31 → nI 1 <<< (nI s &&& 31) = nI (2 ^ s) := by decide +kernel
theorem sm31 : ∀ s, s < 32 → ((nI s &&& 31).toBitVec.smod 32).toNat = s := by decide +kernel
theorem nI_shr {v s : Nat} (hv : v < 2 ^ 31) (hs : s < 32) : nI v >>> (nI s &&& 31) = nI (v >>> s) := by
  rw [pk_shrN hv (nI s &&& 31) s (sm31 s hs), Nat.shiftRight_eq_div_pow]
theorem nI_shl {v s : Nat} (hs : s < 32) (h : v * 2 ^ s < 2 ^ 32) : nI v <<< (nI s &&& 31) = nI (v * 2 ^ s) := pk_shlN (nI s &&& 31) s (sm31 s hs) h
theorem bit1 (v s : Nat) : (v >>> s) &&& 1 = 0 ↔ v.testBit s = false := by
  rw [Nat.testBit, Nat.and_one_is_mod]
  simp [Nat.and_comm, bne]
theorem e_iorN {x y : Int32} {a b : Nat} (n : Nat) (hp : pc + 1 = n) (hd : decode M.2.1 pc = .ok (.ior, 1)) (hx : x = nI a) (hy : y = nI b) (k : Ev E M kc ks n ls (.int (nI (a ||| b)) :: st) μ Q) : Ev E M kc ks pc ls (.int y :: .int x :: st) μ Q := e_ior n hp hd (by rw [hx, hy, nI_or]; exact k)
theorem e_iandN {x y : Int32} {a b : Nat} (n : Nat) (hp : pc + 1 = n) (hd : decode M.2.1 pc = .ok (.iand, 1)) (hx : x = nI a) (hy : y = nI b) (k : Ev E M kc ks n ls (.int (nI (a &&& b)) :: st) μ Q) : Ev E M kc ks pc ls (.int y :: .int x :: st) μ Q := e_iand n hp hd (by rw [hx, hy, nI_and]; exact k)
theorem e_ishl1 {x y : Int32} {s : Nat} (n : Nat) (hp : pc + 1 = n) (hd : decode M.2.1 pc = .ok (.ishl, 1)) (hx : x = nI 1) (hy : y = nI s) (hs : s < 31) (k : Ev E M kc ks n ls (.int (nI (2 ^ s)) :: st) μ Q) : Ev E M kc ks pc ls (.int y :: .int x :: st) μ Q := e_ishl n hp hd (by rw [hx, hy, nI_shl1 s hs]; exact k)
theorem e_ishrN {x y : Int32} {v s : Nat} (n : Nat) (hp : pc + 1 = n) (hd : decode M.2.1 pc = .ok (.ishr, 1)) (hx : x = nI v) (hy : y = nI s) (hv : v < 2 ^ 31) (hs : s < 32) (k : Ev E M kc ks n ls (.int (nI (v >>> s)) :: st) μ Q) : Ev E M kc ks pc ls (.int y :: .int x :: st) μ Q := e_ishr n hp hd (by rw [hx, hy, nI_shr hv hs]; exact k)
theorem e_minN {idx : Nat} {x y : Int32} {a b : Nat} (n : Nat) (hp : pc + 3 = n) (hd : decode M.2.1 pc = .ok (.invokestatic idx, 3)) (hV : LMn M.1.cls idx) (hf : 1 ≤ M.2.2.2.2.frames) (hl : (st.map fun v => v.category).sum + 13 ≤ M.2.2.2.2.locals) (hx : x = nI a) (hy : y = nI b) (ha : a < 2 ^ 31) (hb : b < 2 ^ 31) (kk : Ev E M kc ks n ls (.int (nI (min a b)) :: st) μ Q) : Ev E M kc ks pc ls (.int y :: .int x :: st) μ Q := e_min n hp hd hV hf hl (by
  have : (if y < x then y else x) = nI (min a b) := by
    subst hx; subst hy
    by_cases c : b < a
    · rw [if_pos ((nI_ltI hb ha).mpr c), Nat.min_eq_right (by omega)]
    · rw [if_neg (fun q => c ((nI_ltI hb ha).mp q)), Nat.min_eq_left (by omega)]
  rw [this]; exact kk)
theorem e_maxN {idx : Nat} {x y : Int32} {a b : Nat} (n : Nat) (hp : pc + 3 = n) (hd : decode M.2.1 pc = .ok (.invokestatic idx, 3)) (hV : LMx M.1.cls idx) (hf : 1 ≤ M.2.2.2.2.frames) (hl : (st.map fun v => v.category).sum + 13 ≤ M.2.2.2.2.locals) (hx : x = nI a) (hy : y = nI b) (ha : a < 2 ^ 31) (hb : b < 2 ^ 31) (kk : Ev E M kc ks n ls (.int (nI (max a b)) :: st) μ Q) : Ev E M kc ks pc ls (.int y :: .int x :: st) μ Q := e_max n hp hd hV hf hl (by
  have : (if x < y then y else x) = nI (max a b) := by
    subst hx; subst hy
    by_cases c : a < b
    · rw [if_pos ((nI_ltI ha hb).mpr c), Nat.max_eq_right (by omega)]
    · rw [if_neg (fun q => c ((nI_ltI ha hb).mp q)), Nat.max_eq_left (by omega)]
  rw [this]; exact kk)
theorem or_lt {a b n : Nat} (ha : a < 2 ^ n) (hb : b < 2 ^ n) : a ||| b < 2 ^ n := Nat.or_lt_two_pow ha hb
theorem pow_lt {s n : Nat} (h : s < n) : 2 ^ s < 2 ^ n := Nat.pow_lt_pow_right (by decide) h
theorem tb_pow (s q : Nat) : (2 ^ s).testBit q = true ↔ q = s := by rw [Nat.testBit_two_pow]; simp [eq_comm]
theorem tb_or (a b q : Nat) : (a ||| b).testBit q = true ↔ a.testBit q = true ∨ b.testBit q = true := by rw [Nat.testBit_or, Bool.or_eq_true]
theorem tb_and (a b q : Nat) : (a &&& b).testBit q = true ↔ a.testBit q = true ∧ b.testBit q = true := by rw [Nat.testBit_and, Bool.and_eq_true]
end BITS
