/-! derived rows: in numbers; calls that make nothing -/
section ROWS2
variable {E : En} {M : Mt} {kc ks pc : Nat} {ls : List (Option Value)} {st : List Value} {μ : Mm} {Q : Option Value → Mm → Prop}
theorem ii1 (i : Nat) : nI i + Int32.ofInt 1 = nI (i + 1) := nI_1 i
theorem ii6 (i : Nat) : nI i + Int32.ofInt 6 = nI (i + 6) := nI_add i 6
theorem iim1 (i : Nat) : nI (i + 1) + Int32.ofInt (-1) = nI i := pk_m1 i
def bI (b : Bool) : Int32 := if b then 1 else 0
theorem bI01 (b : Bool) : bI b = 0 ∨ bI b = 1 := by cases b; exact Or.inl rfl; exact Or.inr rfl
theorem bI_t {b : Bool} (h : b = true) : bI b = nI 1 := by subst h; rfl
theorem bI_f {b : Bool} (h : b = false) : bI b = nI 0 := by subst h; rfl
theorem bI_0 {b : Bool} : bI b = 0 ↔ b = false := by cases b <;> decide
theorem z0 : nI 0 = 0 ∨ nI 0 = 1 := Or.inl rfl
theorem z1 : nI 1 = 0 ∨ nI 1 = 1 := Or.inr rfl
theorem e_iaddN {x y : Int32} {a b : Nat} (n : Nat) (hp : pc + 1 = n) (hd : decode M.2.1 pc = .ok (.iadd, 1)) (hx : x = nI a) (hy : y = nI b) (k : Ev E M kc ks n ls (.int (nI (a + b)) :: st) μ Q) : Ev E M kc ks pc ls (.int y :: .int x :: st) μ Q := e_iadd n hp hd (by rw [hx, hy, nI_add]; exact k)
theorem e_imulN {x y : Int32} {a b : Nat} (n : Nat) (hp : pc + 1 = n) (hd : decode M.2.1 pc = .ok (.imul, 1)) (hx : x = nI a) (hy : y = nI b) (k : Ev E M kc ks n ls (.int (nI (a * b)) :: st) μ Q) : Ev E M kc ks pc ls (.int y :: .int x :: st) μ Q := e_imul n hp hd (by rw [hx, hy, pk_mul]; exact k)
theorem e_isubN {x y : Int32} {a b : Nat} (n : Nat) (hp : pc + 1 = n) (hd : decode M.2.1 pc = .ok (.isub, 1)) (hx : x = nI a) (hy : y = nI b) (h : b ≤ a) (k : Ev E M kc ks n ls (.int (nI (a - b)) :: st) μ Q) : Ev E M kc ks pc ls (.int y :: .int x :: st) μ Q := e_isub n hp hd (by rw [hx, hy, pk_sub h]; exact k)
theorem e_cmp_eqN {x y : Int32} {a b : Nat} {off : Int} (t n : Nat) (ht : (pc : Int) + off = (t : Int)) (hp : pc + 3 = n) (hd : decode M.2.1 pc = .ok (.if_icmp .eq off, 3)) (hx : x = nI a) (hy : y = nI b) (ha : a < 2 ^ 31) (hb : b < 2 ^ 31) (k1 : a = b → Ev E M kc ks t ls st μ Q) (k2 : a ≠ b → Ev E M kc ks n ls st μ Q) : Ev E M kc ks pc ls (.int y :: .int x :: st) μ Q := by
  subst hx; subst hy
  have E9 := (nI_eq ha hb)
  exact e_cmp_eq t n ht hp hd (fun h => k1 (E9.mp h)) (fun h => k2 (fun q => h (E9.mpr q)))
theorem e_cmp_ltN {x y : Int32} {a b : Nat} {off : Int} (t n : Nat) (ht : (pc : Int) + off = (t : Int)) (hp : pc + 3 = n) (hd : decode M.2.1 pc = .ok (.if_icmp .lt off, 3)) (hx : x = nI a) (hy : y = nI b) (ha : a < 2 ^ 31) (hb : b < 2 ^ 31) (k1 : a < b → Ev E M kc ks t ls st μ Q) (k2 : b ≤ a → Ev E M kc ks n ls st μ Q) : Ev E M kc ks pc ls (.int y :: .int x :: st) μ Q := by
  subst hx; subst hy
  have E9 := (nI_ltI ha hb)
  exact e_cmp_lt t n ht hp hd (fun h => k1 (E9.mp h)) (fun h => k2 (by have h9 : ¬ (a < b) := fun q => h (E9.mpr q); omega))
theorem e_cmp_geN {x y : Int32} {a b : Nat} {off : Int} (t n : Nat) (ht : (pc : Int) + off = (t : Int)) (hp : pc + 3 = n) (hd : decode M.2.1 pc = .ok (.if_icmp .ge off, 3)) (hx : x = nI a) (hy : y = nI b) (ha : a < 2 ^ 31) (hb : b < 2 ^ 31) (k1 : b ≤ a → Ev E M kc ks t ls st μ Q) (k2 : a < b → Ev E M kc ks n ls st μ Q) : Ev E M kc ks pc ls (.int y :: .int x :: st) μ Q := by
  subst hx; subst hy
  have E9 := (nI_leI hb ha)
  exact e_cmp_ge t n ht hp hd (fun h => k1 (E9.mp h)) (fun h => k2 (by have h9 : ¬ (b ≤ a) := fun q => h (E9.mpr q); omega))
theorem e_cmp_gtN {x y : Int32} {a b : Nat} {off : Int} (t n : Nat) (ht : (pc : Int) + off = (t : Int)) (hp : pc + 3 = n) (hd : decode M.2.1 pc = .ok (.if_icmp .gt off, 3)) (hx : x = nI a) (hy : y = nI b) (ha : a < 2 ^ 31) (hb : b < 2 ^ 31) (k1 : b < a → Ev E M kc ks t ls st μ Q) (k2 : a ≤ b → Ev E M kc ks n ls st μ Q) : Ev E M kc ks pc ls (.int y :: .int x :: st) μ Q := by
  subst hx; subst hy
  have E9 := (nI_ltI hb ha)
  exact e_cmp_gt t n ht hp hd (fun h => k1 (E9.mp h)) (fun h => k2 (by have h9 : ¬ (b < a) := fun q => h (E9.mpr q); omega))
theorem e_cmp_leN {x y : Int32} {a b : Nat} {off : Int} (t n : Nat) (ht : (pc : Int) + off = (t : Int)) (hp : pc + 3 = n) (hd : decode M.2.1 pc = .ok (.if_icmp .le off, 3)) (hx : x = nI a) (hy : y = nI b) (ha : a < 2 ^ 31) (hb : b < 2 ^ 31) (k1 : a ≤ b → Ev E M kc ks t ls st μ Q) (k2 : b < a → Ev E M kc ks n ls st μ Q) : Ev E M kc ks pc ls (.int y :: .int x :: st) μ Q := by
  subst hx; subst hy
  have E9 := (nI_leI ha hb)
  exact e_cmp_le t n ht hp hd (fun h => k1 (E9.mp h)) (fun h => k2 (by have h9 : ¬ (a ≤ b) := fun q => h (E9.mpr q); omega))
theorem e_cmp_neN {x y : Int32} {a b : Nat} {off : Int} (t n : Nat) (ht : (pc : Int) + off = (t : Int)) (hp : pc + 3 = n) (hd : decode M.2.1 pc = .ok (.if_icmp .ne off, 3)) (hx : x = nI a) (hy : y = nI b) (ha : a < 2 ^ 31) (hb : b < 2 ^ 31) (k1 : a ≠ b → Ev E M kc ks t ls st μ Q) (k2 : a = b → Ev E M kc ks n ls st μ Q) : Ev E M kc ks pc ls (.int y :: .int x :: st) μ Q := by
  subst hx; subst hy
  have E9 := nI_eq ha hb
  exact e_cmp_ne t n ht hp hd (fun h => k1 (fun q => h (E9.mpr q))) (fun h => k2 (E9.mp h))
theorem e_if_eqN {x : Int32} {a : Nat} {off : Int} (t n : Nat) (ht : (pc : Int) + off = (t : Int)) (hp : pc + 3 = n) (hd : decode M.2.1 pc = .ok (.ifCond .eq off, 3)) (hx : x = nI a) (ha : a < 2 ^ 31) (k1 : a = 0 → Ev E M kc ks t ls st μ Q) (k2 : a ≠ 0 → Ev E M kc ks n ls st μ Q) : Ev E M kc ks pc ls (.int x :: st) μ Q := by subst hx; exact e_if_eq t n ht hp hd (fun h => k1 ((nI_eq ha (by decide : 0 < 2 ^ 31)).mp h)) (fun h => k2 (fun q => h (by rw [q]; rfl)))
theorem e_if_neN {x : Int32} {a : Nat} {off : Int} (t n : Nat) (ht : (pc : Int) + off = (t : Int)) (hp : pc + 3 = n) (hd : decode M.2.1 pc = .ok (.ifCond .ne off, 3)) (hx : x = nI a) (ha : a < 2 ^ 31) (k1 : a ≠ 0 → Ev E M kc ks t ls st μ Q) (k2 : a = 0 → Ev E M kc ks n ls st μ Q) : Ev E M kc ks pc ls (.int x :: st) μ Q := by subst hx; exact e_if_ne t n ht hp hd (fun h => k1 (fun q => h (by rw [q]; rfl))) (fun h => k2 ((nI_eq ha (by decide : 0 < 2 ^ 31)).mp h))
theorem e_if_ltN {x : Int32} {a : Nat} {off : Int} (t n : Nat) (ht : (pc : Int) + off = (t : Int)) (hp : pc + 3 = n) (hd : decode M.2.1 pc = .ok (.ifCond .lt off, 3)) (hx : x = nI a) (ha : a < 2 ^ 31) (k2 : Ev E M kc ks n ls st μ Q) : Ev E M kc ks pc ls (.int x :: st) μ Q := by subst hx; exact e_if_lt t n ht hp hd (fun h => absurd h (nI_pos ha)) (fun _ => k2)
theorem e_if_geN {x : Int32} {a : Nat} {off : Int} (t n : Nat) (ht : (pc : Int) + off = (t : Int)) (hp : pc + 3 = n) (hd : decode M.2.1 pc = .ok (.ifCond .ge off, 3)) (hx : x = nI a) (ha : a < 2 ^ 31) (k1 : Ev E M kc ks t ls st μ Q) : Ev E M kc ks pc ls (.int x :: st) μ Q := by subst hx; exact e_if_ge t n ht hp hd (fun _ => k1) (fun h => absurd (nI_pos' ha) h)
theorem e_if_gtN {x : Int32} {a : Nat} {off : Int} (t n : Nat) (ht : (pc : Int) + off = (t : Int)) (hp : pc + 3 = n) (hd : decode M.2.1 pc = .ok (.ifCond .gt off, 3)) (hx : x = nI a) (ha : a < 2 ^ 31) (k1 : 0 < a → Ev E M kc ks t ls st μ Q) (k2 : a = 0 → Ev E M kc ks n ls st μ Q) : Ev E M kc ks pc ls (.int x :: st) μ Q := by subst hx; exact e_if_gt t n ht hp hd (fun h => k1 ((nI_ltI (by decide : 0 < 2 ^ 31) ha).mp h)) (fun h => k2 (by have h9 : ¬ (0 < a) := fun q => h ((nI_ltI (by decide : 0 < 2 ^ 31) ha).mpr q); omega))
theorem e_if_leN {x : Int32} {a : Nat} {off : Int} (t n : Nat) (ht : (pc : Int) + off = (t : Int)) (hp : pc + 3 = n) (hd : decode M.2.1 pc = .ok (.ifCond .le off, 3)) (hx : x = nI a) (ha : a < 2 ^ 31) (k1 : a = 0 → Ev E M kc ks t ls st μ Q) (k2 : 0 < a → Ev E M kc ks n ls st μ Q) : Ev E M kc ks pc ls (.int x :: st) μ Q := by subst hx; exact e_if_le t n ht hp hd (fun h => k1 (by have := (nI_leI ha (by decide : 0 < 2 ^ 31)).mp h; omega)) (fun h => k2 (by have h9 : ¬ (a ≤ 0) := fun q => h ((nI_leI ha (by decide : 0 < 2 ^ 31)).mpr q); omega))
theorem e_if_eqB {x : Int32} {b : Bool} {off : Int} (t n : Nat) (ht : (pc : Int) + off = (t : Int)) (hp : pc + 3 = n) (hd : decode M.2.1 pc = .ok (.ifCond .eq off, 3)) (hx : x = bI b) (k1 : b = false → Ev E M kc ks t ls st μ Q) (k2 : b = true → Ev E M kc ks n ls st μ Q) : Ev E M kc ks pc ls (.int x :: st) μ Q := by subst hx; exact e_if_eq t n ht hp hd (fun h => k1 (bI_0.mp h)) (fun h => k2 (by cases b; exact absurd rfl h; rfl))
theorem e_if_neB {x : Int32} {b : Bool} {off : Int} (t n : Nat) (ht : (pc : Int) + off = (t : Int)) (hp : pc + 3 = n) (hd : decode M.2.1 pc = .ok (.ifCond .ne off, 3)) (hx : x = bI b) (k1 : b = true → Ev E M kc ks t ls st μ Q) (k2 : b = false → Ev E M kc ks n ls st μ Q) : Ev E M kc ks pc ls (.int x :: st) μ Q := by subst hx; exact e_if_ne t n ht hp hd (fun h => k1 (by cases b; exact absurd rfl h; rfl)) (fun h => k2 (bI_0.mp h))
theorem e_invV0 {N : Mt} {idx ci na b : Nat} (As : List Value) {rest st0 : List Value} (n : Nat) (hp : pc + 3 = n) (hd : decode M.2.1 pc = .ok (.invokevirtual idx, 3)) (hV : LV M.1.cls idx ci N) (hO : MO N na) (hRm : RM M N) (hz : N.2.2.2.2.cells = 0 ∧ N.2.2.2.2.slots = 0) (hna : As.length = na) (hst : st0 = (As.reverse ++ .ref b :: rest)) (hk : mK μ b = ci + 1) (hrest : (rest.map fun v => v.category).sum ≤ 8) (k : Cl E N (.ref b :: As) μ (fun r μ' => Ev E M kc ks n ls (r.toList ++ rest) μ' Q)) : Ev E M kc ks pc ls st0 μ Q := by
  subst hst
  have h := e_invV (kc := kc) (ks := ks) As n hp hd hV hO hRm hna hk hrest k
  rw [hz.1, hz.2] at h; exact h
theorem e_invS0 {N : Mt} {idx na : Nat} (As : List Value) {rest st0 : List Value} (n : Nat) (hp : pc + 3 = n) (hd : decode M.2.1 pc = .ok (.invokestatic idx, 3)) (hV : LStat M.1.cls idx N) (hO : MO N na) (hRm : RM M N) (hz : N.2.2.2.2.cells = 0 ∧ N.2.2.2.2.slots = 0) (hna : As.length = na) (hst : st0 = (As.reverse ++ rest)) (hrest : (rest.map fun v => v.category).sum ≤ 8) (k : Cl E N As μ (fun r μ' => Ev E M kc ks n ls (r.toList ++ rest) μ' Q)) : Ev E M kc ks pc ls st0 μ Q := by
  subst hst
  have h := e_invS (kc := kc) (ks := ks) As n hp hd hV hO hRm hna hrest k
  rw [hz.1, hz.2] at h; exact h
theorem e_invSN0 {N : Mt} {idx na : Nat} (As : List Value) {rest st0 : List Value} (n : Nat) (hp : pc + 3 = n) (hd : decode M.2.1 pc = .ok (.invokestatic idx, 3)) (hV : LSN M.1.cls idx N) (hO : MO N na) (hRm : RM M N) (hz : N.2.2.2.2.cells = 0 ∧ N.2.2.2.2.slots = 0) (hna : As.length = na) (hst : st0 = (As.reverse ++ rest)) (hrest : (rest.map fun v => v.category).sum ≤ 8) (k : Cl E N As μ (fun r μ' => Ev E M kc ks n ls (r.toList ++ rest) μ' Q)) : Ev E M kc ks pc ls st0 μ Q := by
  subst hst
  have h := e_invSN (kc := kc) (ks := ks) As n hp hd hV hO hRm hna hrest k
  rw [hz.1, hz.2] at h; exact h
theorem e_invIB {N : Mt} {idx na b kc' ks' : Nat} (As : List Value) {rest st0 : List Value} (kc ks : Nat) (n : Nat) (hp : pc + 3 = n) (hd : decode M.2.1 pc = .ok (.invokespecial idx, 3)) (hV : LI M.1.cls idx N) (hO : MO N na) (hRm : RM M N) (hc : kc + N.2.2.2.2.cells = kc') (hs : ks + N.2.2.2.2.slots = ks') (hna : As.length = na) (hst : st0 = As.reverse ++ .ref b :: rest) (hrest : (rest.map fun v => v.category).sum ≤ 8) (k : Cl E N (.ref b :: As) μ (fun r μ' => Ev E M kc ks n ls (r.toList ++ rest) μ' Q)) : Ev E M kc' ks' pc ls st0 μ Q := by
  subst hc; subst hs; subst hst; exact e_invI As n hp hd hV hO hRm hna hrest k
theorem e_invINB {N : Mt} {idx na b kc' ks' : Nat} (As : List Value) {rest st0 : List Value} (kc ks : Nat) (n : Nat) (hp : pc + 3 = n) (hd : decode M.2.1 pc = .ok (.invokespecial idx, 3)) (hV : LIN M.1.cls idx N) (hO : MO N na) (hRm : RM M N) (hc : kc + N.2.2.2.2.cells = kc') (hs : ks + N.2.2.2.2.slots = ks') (hna : As.length = na) (hst : st0 = As.reverse ++ .ref b :: rest) (hrest : (rest.map fun v => v.category).sum ≤ 8) (k : Cl E N (.ref b :: As) μ (fun r μ' => Ev E M kc ks n ls (r.toList ++ rest) μ' Q)) : Ev E M kc' ks' pc ls st0 μ Q := by
  subst hc; subst hs; subst hst; exact e_invIN As n hp hd hV hO hRm hna hrest k
theorem e_newB {idx ci N kc' ks' : Nat} (kc ks : Nat) (n : Nat) (hp : pc + 3 = n) (hd : decode M.2.1 pc = .ok (.new idx, 3)) (hN : NC M.1.cls idx ci N) (hc : kc + 1 = kc') (hs : ks + N = ks') (kk : Ev E M kc ks n ls (.ref (mN μ) :: st) (sN μ (ci + 1) 0) Q) : Ev E M kc' ks' pc ls st μ Q := by subst hc; subst hs; exact e_new n hp hd hN kk
theorem e_newaB {at0 : ArrayType} {len k kc' ks' : Nat} {i : Int32} (kc ks : Nat) (n : Nat) (hp : pc + 2 = n) (hd : decode M.2.1 pc = .ok (.newarray at0, 2)) (hk : (k = 0 ∧ newarray.typeOf at0 = .byte) ∨ (k = 1 ∧ newarray.typeOf at0 = .int) ∨ (k = 2 ∧ newarray.typeOf at0 = .long) ∨ (k = 3 ∧ newarray.typeOf at0 = .boolean)) (hw : Cond.arrayClass (newarray.typeOf at0) ∈ wtab) (hi : i = nI len) (hs : len < 100000) (hc : kc + 1 = kc') (hsl : ks + len = ks') (kk : Ev E M kc ks n ls (.ref (mN μ) :: st) (sN μ (k + 12) len) Q) : Ev E M kc' ks' pc ls (.int i :: st) μ Q := by subst hc; subst hsl; exact e_newa n hp hd hk hw hi hs kk
theorem e_newqB {idx len k kc' ks' : Nat} {i : Int32} {C0 : String} (kc ks : Nat) (n : Nat) (hp : pc + 3 = n) (hd : decode M.2.1 pc = .ok (.anewarray idx, 3)) (hk : (k = 0 ∧ C0 = RX2) ∨ (k = 1 ∧ C0 = RX4) ∨ (k = 2 ∧ C0 = RX8)) (hw : Cond.classLink M.1.cls idx C0 ∈ wtab) (hi : i = nI len) (hs : len < 100000) (hc : kc + 1 = kc') (hsl : ks + len = ks') (kk : Ev E M kc ks n ls (.ref (mN μ) :: st) (sN μ (k + 16) len) Q) : Ev E M kc' ks' pc ls (.int i :: st) μ Q := by subst hc; subst hsl; exact e_newq n hp hd hk hw hi hs kk
theorem e_getIv {idx ci k a : Nat} {t : FieldType} {fin : Bool} {v : Int32} (n : Nat) (hp : pc + 3 = n) (hd : decode M.2.1 pc = .ok (.getfield idx, 3)) (hG : GF M.1.cls idx ci k t false fin) (hk : mK μ a = ci + 1) (hv : mF μ a k = v) (kk : Ev E M kc ks n ls (.int v :: st) μ Q) : Ev E M kc ks pc ls (.ref a :: st) μ Q := by subst hv; exact e_getI n hp hd hG hk kk
theorem e_baldv {a j len : Nat} {i : Int32} {v : Int32} (n : Nat) (hp : pc + 1 = n) (hd : decode M.2.1 pc = .ok (.baload, 1)) (hk : mK μ a = 12) (hL : mL μ a = len) (hi : i = nI j) (hj : j < len) (hs : len < 2 ^ 31) (hv : mB μ a j = v) (kk : Ev E M kc ks n ls (.int v :: st) μ Q) : Ev E M kc ks pc ls (.int i :: .ref a :: st) μ Q := by subst hv; exact e_bald n hp hd hk hL hi hj hs kk
theorem e_zaldv {a j len : Nat} {i : Int32} {v : Int32} (n : Nat) (hp : pc + 1 = n) (hd : decode M.2.1 pc = .ok (.baload, 1)) (hk : mK μ a = 15) (hL : mL μ a = len) (hi : i = nI j) (hj : j < len) (hs : len < 2 ^ 31) (hv : mB μ a j = v) (kk : Ev E M kc ks n ls (.int v :: st) μ Q) : Ev E M kc ks pc ls (.int i :: .ref a :: st) μ Q := by subst hv; exact e_zald n hp hd hk hL hi hj hs kk
theorem e_ialdv {a j len : Nat} {i : Int32} {v : Int32} (n : Nat) (hp : pc + 1 = n) (hd : decode M.2.1 pc = .ok (.iaload, 1)) (hk : mK μ a = 13) (hL : mL μ a = len) (hi : i = nI j) (hj : j < len) (hs : len < 2 ^ 31) (hv : mA μ a j = v) (kk : Ev E M kc ks n ls (.int v :: st) μ Q) : Ev E M kc ks pc ls (.int i :: .ref a :: st) μ Q := by subst hv; exact e_iald n hp hd hk hL hi hj hs kk
theorem e_laldv {a j len : Nat} {i : Int32} {v : Int64} (n : Nat) (hp : pc + 1 = n) (hd : decode M.2.1 pc = .ok (.laload, 1)) (hk : mK μ a = 14) (hL : mL μ a = len) (hi : i = nI j) (hj : j < len) (hs : len < 2 ^ 31) (hv : mJ μ a j = v) (kk : Ev E M kc ks n ls (.long v :: st) μ Q) : Ev E M kc ks pc ls (.int i :: .ref a :: st) μ Q := by subst hv; exact e_lald n hp hd hk hL hi hj hs kk
theorem Cl.of0 {As : List Value} {K : Option Value → Mm → Prop} (nn : Nat) (hy : plainName M.1.cls = true) (hle : (lg_sl As).length ≤ M.2.2.1) (hz : M.2.2.2.2.cells = 0 ∧ M.2.2.2.2.slots = 0) (hls : ent As ++ List.replicate nn none = ls) (k : Ev E M 0 0 0 ls [] μ K) : Cl E M As μ K := by
  refine Cl.of (nn := nn) hy hle hls ?_; rw [hz.1, hz.2]; exact k
theorem ic_0 : Int32.ofInt 0 = nI 0 := by decide
theorem ic_1 : Int32.ofInt 1 = nI 1 := by decide
theorem ic_2 : Int32.ofInt 2 = nI 2 := by decide
theorem ic_3 : Int32.ofInt 3 = nI 3 := by decide
theorem ic_4 : Int32.ofInt 4 = nI 4 := by decide
theorem ic_5 : Int32.ofInt 5 = nI 5 := by decide
theorem ic_m1 : Int32.ofInt (-1) = -1 := by decide
theorem bc_m2 : (Int8.ofInt (-2)).toInt32 = -2 := by decide
theorem bc_6 : (Int8.ofInt 6).toInt32 = nI 6 := by decide
theorem bc_7 : (Int8.ofInt 7).toInt32 = nI 7 := by decide
theorem bc_8 : (Int8.ofInt 8).toInt32 = nI 8 := by decide
theorem bc_9 : (Int8.ofInt 9).toInt32 = nI 9 := by decide
theorem bc_12 : (Int8.ofInt 12).toInt32 = nI 12 := by decide
theorem bc_13 : (Int8.ofInt 13).toInt32 = nI 13 := by decide
theorem bc_14 : (Int8.ofInt 14).toInt32 = nI 14 := by decide
theorem bc_16 : (Int8.ofInt 16).toInt32 = nI 16 := by decide
theorem bc_20 : (Int8.ofInt 20).toInt32 = nI 20 := by decide
theorem bc_21 : (Int8.ofInt 21).toInt32 = nI 21 := by decide
theorem bc_24 : (Int8.ofInt 24).toInt32 = nI 24 := by decide
theorem bc_25 : (Int8.ofInt 25).toInt32 = nI 25 := by decide
theorem bc_26 : (Int8.ofInt 26).toInt32 = nI 26 := by decide
theorem bc_30 : (Int8.ofInt 30).toInt32 = nI 30 := by decide
theorem bc_31 : (Int8.ofInt 31).toInt32 = nI 31 := by decide
theorem bc_32 : (Int8.ofInt 32).toInt32 = nI 32 := by decide
theorem bc_36 : (Int8.ofInt 36).toInt32 = nI 36 := by decide
theorem bc_39 : (Int8.ofInt 39).toInt32 = nI 39 := by decide
theorem bc_40 : (Int8.ofInt 40).toInt32 = nI 40 := by decide
theorem bc_41 : (Int8.ofInt 41).toInt32 = nI 41 := by decide
theorem bc_42 : (Int8.ofInt 42).toInt32 = nI 42 := by decide
theorem bc_43 : (Int8.ofInt 43).toInt32 = nI 43 := by decide
theorem bc_45 : (Int8.ofInt 45).toInt32 = nI 45 := by decide
theorem bc_46 : (Int8.ofInt 46).toInt32 = nI 46 := by decide
theorem bc_48 : (Int8.ofInt 48).toInt32 = nI 48 := by decide
theorem bc_56 : (Int8.ofInt 56).toInt32 = nI 56 := by decide
theorem bc_59 : (Int8.ofInt 59).toInt32 = nI 59 := by decide
theorem bc_63 : (Int8.ofInt 63).toInt32 = nI 63 := by decide
theorem bc_65 : (Int8.ofInt 65).toInt32 = nI 65 := by decide
theorem bc_66 : (Int8.ofInt 66).toInt32 = nI 66 := by decide
theorem bc_70 : (Int8.ofInt 70).toInt32 = nI 70 := by decide
theorem bc_71 : (Int8.ofInt 71).toInt32 = nI 71 := by decide
theorem bc_73 : (Int8.ofInt 73).toInt32 = nI 73 := by decide
theorem bc_77 : (Int8.ofInt 77).toInt32 = nI 77 := by decide
theorem bc_78 : (Int8.ofInt 78).toInt32 = nI 78 := by decide
theorem bc_80 : (Int8.ofInt 80).toInt32 = nI 80 := by decide
theorem bc_81 : (Int8.ofInt 81).toInt32 = nI 81 := by decide
theorem bc_84 : (Int8.ofInt 84).toInt32 = nI 84 := by decide
theorem bc_90 : (Int8.ofInt 90).toInt32 = nI 90 := by decide
theorem bc_97 : (Int8.ofInt 97).toInt32 = nI 97 := by decide
theorem bc_122 : (Int8.ofInt 122).toInt32 = nI 122 := by decide
theorem sc_240 : (Int16.ofInt 240).toInt32 = nI 240 := by decide
theorem sc_255 : (Int16.ofInt 255).toInt32 = nI 255 := by decide
theorem sc_256 : (Int16.ofInt 256).toInt32 = nI 256 := by decide
theorem sc_400 : (Int16.ofInt 400).toInt32 = nI 400 := by decide
theorem sc_488 : (Int16.ofInt 488).toInt32 = nI 488 := by decide
theorem sc_511 : (Int16.ofInt 511).toInt32 = nI 511 := by decide
theorem sc_1000 : (Int16.ofInt 1000).toInt32 = nI 1000 := by decide
theorem sc_1680 : (Int16.ofInt 1680).toInt32 = nI 1680 := by decide
theorem sc_5040 : (Int16.ofInt 5040).toInt32 = nI 5040 := by decide
theorem sc_6435 : (Int16.ofInt 6435).toInt32 = nI 6435 := by decide
theorem sc_6500 : (Int16.ofInt 6500).toInt32 = nI 6500 := by decide
theorem pn_X0 : plainName RX0 = true := by decide +kernel
theorem pn_X1 : plainName RX1 = true := by decide +kernel
theorem pn_X2 : plainName RX2 = true := by decide +kernel
theorem pn_X3 : plainName RX3 = true := by decide +kernel
theorem pn_X4 : plainName RX4 = true := by decide +kernel
theorem pn_X5 : plainName RX5 = true := by decide +kernel
theorem pn_X6 : plainName RX6 = true := by decide +kernel
theorem pn_X7 : plainName RX7 = true := by decide +kernel
theorem pn_X8 : plainName RX8 = true := by decide +kernel
theorem pn_X9 : plainName RX9 = true := by decide +kernel
theorem pn_X10 : plainName RX10 = true := by decide +kernel
end ROWS2
theorem mN_sF (μ : Mm) (a k : Nat) (v : Int32) : mN (sF μ a k v) = mN μ := rfl
theorem mK_sF (μ : Mm) (a k : Nat) (v : Int32) : mK (sF μ a k v) = mK μ := rfl
theorem mL_sF (μ : Mm) (a k : Nat) (v : Int32) : mL (sF μ a k v) = mL μ := rfl
theorem mF_sF (μ : Mm) (a k : Nat) (v : Int32) : mF (sF μ a k v) = up2 (mF μ) a k v := rfl
theorem mB_sF (μ : Mm) (a k : Nat) (v : Int32) : mB (sF μ a k v) = mB μ := rfl
theorem mA_sF (μ : Mm) (a k : Nat) (v : Int32) : mA (sF μ a k v) = mA μ := rfl
theorem mJ_sF (μ : Mm) (a k : Nat) (v : Int32) : mJ (sF μ a k v) = mJ μ := rfl
theorem mP_sF (μ : Mm) (a k : Nat) (v : Int32) : mP (sF μ a k v) = mP μ := rfl
theorem mO_sF (μ : Mm) (a k : Nat) (v : Int32) : mO (sF μ a k v) = mO μ := rfl
theorem mN_sB (μ : Mm) (a k : Nat) (v : Int32) : mN (sB μ a k v) = mN μ := rfl
theorem mK_sB (μ : Mm) (a k : Nat) (v : Int32) : mK (sB μ a k v) = mK μ := rfl
theorem mL_sB (μ : Mm) (a k : Nat) (v : Int32) : mL (sB μ a k v) = mL μ := rfl
theorem mF_sB (μ : Mm) (a k : Nat) (v : Int32) : mF (sB μ a k v) = mF μ := rfl
theorem mB_sB (μ : Mm) (a k : Nat) (v : Int32) : mB (sB μ a k v) = up2 (mB μ) a k v := rfl
theorem mA_sB (μ : Mm) (a k : Nat) (v : Int32) : mA (sB μ a k v) = mA μ := rfl
theorem mJ_sB (μ : Mm) (a k : Nat) (v : Int32) : mJ (sB μ a k v) = mJ μ := rfl
theorem mP_sB (μ : Mm) (a k : Nat) (v : Int32) : mP (sB μ a k v) = mP μ := rfl
theorem mO_sB (μ : Mm) (a k : Nat) (v : Int32) : mO (sB μ a k v) = mO μ := rfl
theorem mN_sA (μ : Mm) (a k : Nat) (v : Int32) : mN (sA μ a k v) = mN μ := rfl
theorem mK_sA (μ : Mm) (a k : Nat) (v : Int32) : mK (sA μ a k v) = mK μ := rfl
theorem mL_sA (μ : Mm) (a k : Nat) (v : Int32) : mL (sA μ a k v) = mL μ := rfl
theorem mF_sA (μ : Mm) (a k : Nat) (v : Int32) : mF (sA μ a k v) = mF μ := rfl
theorem mB_sA (μ : Mm) (a k : Nat) (v : Int32) : mB (sA μ a k v) = mB μ := rfl
theorem mA_sA (μ : Mm) (a k : Nat) (v : Int32) : mA (sA μ a k v) = up2 (mA μ) a k v := rfl
theorem mJ_sA (μ : Mm) (a k : Nat) (v : Int32) : mJ (sA μ a k v) = mJ μ := rfl
theorem mP_sA (μ : Mm) (a k : Nat) (v : Int32) : mP (sA μ a k v) = mP μ := rfl
theorem mO_sA (μ : Mm) (a k : Nat) (v : Int32) : mO (sA μ a k v) = mO μ := rfl
theorem mN_sJ (μ : Mm) (a k : Nat) (v : Int64) : mN (sJ μ a k v) = mN μ := rfl
theorem mK_sJ (μ : Mm) (a k : Nat) (v : Int64) : mK (sJ μ a k v) = mK μ := rfl
theorem mL_sJ (μ : Mm) (a k : Nat) (v : Int64) : mL (sJ μ a k v) = mL μ := rfl
theorem mF_sJ (μ : Mm) (a k : Nat) (v : Int64) : mF (sJ μ a k v) = mF μ := rfl
theorem mB_sJ (μ : Mm) (a k : Nat) (v : Int64) : mB (sJ μ a k v) = mB μ := rfl
theorem mA_sJ (μ : Mm) (a k : Nat) (v : Int64) : mA (sJ μ a k v) = mA μ := rfl
theorem mJ_sJ (μ : Mm) (a k : Nat) (v : Int64) : mJ (sJ μ a k v) = up2 (mJ μ) a k v := rfl
theorem mP_sJ (μ : Mm) (a k : Nat) (v : Int64) : mP (sJ μ a k v) = mP μ := rfl
theorem mO_sJ (μ : Mm) (a k : Nat) (v : Int64) : mO (sJ μ a k v) = mO μ := rfl
theorem mN_sP (μ : Mm) (a k : Nat) (v : Option Nat) : mN (sP μ a k v) = mN μ := rfl
theorem mK_sP (μ : Mm) (a k : Nat) (v : Option Nat) : mK (sP μ a k v) = mK μ := rfl
theorem mL_sP (μ : Mm) (a k : Nat) (v : Option Nat) : mL (sP μ a k v) = mL μ := rfl
theorem mF_sP (μ : Mm) (a k : Nat) (v : Option Nat) : mF (sP μ a k v) = mF μ := rfl
theorem mB_sP (μ : Mm) (a k : Nat) (v : Option Nat) : mB (sP μ a k v) = mB μ := rfl
theorem mA_sP (μ : Mm) (a k : Nat) (v : Option Nat) : mA (sP μ a k v) = mA μ := rfl
theorem mJ_sP (μ : Mm) (a k : Nat) (v : Option Nat) : mJ (sP μ a k v) = mJ μ := rfl
theorem mP_sP (μ : Mm) (a k : Nat) (v : Option Nat) : mP (sP μ a k v) = up2 (mP μ) a k v := rfl
theorem mO_sP (μ : Mm) (a k : Nat) (v : Option Nat) : mO (sP μ a k v) = mO μ := rfl
theorem mN_sO (μ : Mm) (a k : Nat) (v : Option Nat) : mN (sO μ a k v) = mN μ := rfl
theorem mK_sO (μ : Mm) (a k : Nat) (v : Option Nat) : mK (sO μ a k v) = mK μ := rfl
theorem mL_sO (μ : Mm) (a k : Nat) (v : Option Nat) : mL (sO μ a k v) = mL μ := rfl
theorem mF_sO (μ : Mm) (a k : Nat) (v : Option Nat) : mF (sO μ a k v) = mF μ := rfl
theorem mB_sO (μ : Mm) (a k : Nat) (v : Option Nat) : mB (sO μ a k v) = mB μ := rfl
theorem mA_sO (μ : Mm) (a k : Nat) (v : Option Nat) : mA (sO μ a k v) = mA μ := rfl
theorem mJ_sO (μ : Mm) (a k : Nat) (v : Option Nat) : mJ (sO μ a k v) = mJ μ := rfl
theorem mP_sO (μ : Mm) (a k : Nat) (v : Option Nat) : mP (sO μ a k v) = mP μ := rfl
theorem mO_sO (μ : Mm) (a k : Nat) (v : Option Nat) : mO (sO μ a k v) = up2 (mO μ) a k v := rfl
