/-! rows of the judgement: stores into arrays, references out of arrays, new cells -/
section STORES
variable {E : En} {M : Mt} {kc ks pc : Nat} {ls : List (Option Value)} {st : List Value} {μ : Mm} {Q : Option Value → Mm → Prop}
theorem e_iast {a j len : Nat} {i x : Int32} (n : Nat) (hp : pc + 1 = n) (hd : decode M.2.1 pc = .ok (.iastore, 1)) (hk : mK μ a = 13) (hL : mL μ a = len) (hi : i = nI j) (hj : j < len) (hs : len < 2 ^ 31) (kk : Ev E M kc ks n ls st (sA μ a j x) Q) : Ev E M kc ks pc ls (.int x :: .int i :: .ref a :: st) μ Q := by
  subst hp; subst hi; subst hL
  refine Ev.store (a := a) (μ' := sA μ a j x) (fun p e s m args below meth c H locs cells slots lsA Z C R k2 => ?_) (fun H R => R.lo (cell_A hk)) kk
  have hin := vp_in_nI hj hs
  refine W.iast C.1 C.2.1 (R.at (cell_A hk) 0 _ rfl) ((C.2.2.2.2.2.1.1.2 1 _ rfl).1 (mL μ a) (fun j => .int (mA μ a j))) (fun q => by cases q) (by show ¬ (nI j < 0 ∨ (arrV _ _ _).slots.size ≤ _); rw [arrV_size]; exact hin) rfl rfl hd fun H1 e z oq => k2 H1 _ ?_
  refine R.put z oq rfl rfl (fun b hb => cell_sA hb) (cell_A (show mK (sA μ a j x) a = 13 from hk)) (R.lo (cell_A hk)) ?_
  show H1[a]? = some (vp_cell _ _)
  rw [e, nI_clamp (by omega)]
  rw [vp_cell_i, vp_cell_i, arrV_store]
  congr 2
  funext q
  show updV _ _ _ _ = Value.int (up2 (mA μ) a j x a q)
  by_cases hq : q = j
  · simp [updV, up2, hq]
  · simp [updV, up2, hq]
theorem e_bast {a j len : Nat} {i x : Int32} (n : Nat) (hp : pc + 1 = n) (hd : decode M.2.1 pc = .ok (.bastore, 1)) (hk : mK μ a = 12) (hL : mL μ a = len) (hi : i = nI j) (hj : j < len) (hs : len < 2 ^ 31) (kk : Ev E M kc ks n ls st (sB μ a j x.toInt8.toInt32) Q) : Ev E M kc ks pc ls (.int x :: .int i :: .ref a :: st) μ Q := by
  subst hp; subst hi; subst hL
  refine Ev.store (a := a) (μ' := sB μ a j x.toInt8.toInt32) (fun p e s m args below meth c H locs cells slots lsA Z C R k2 => ?_) (fun H R => R.lo (cell_B hk)) kk
  have hin := vp_in_nI hj hs
  refine W.bast C.1 C.2.1 (R.at (cell_B hk) 0 _ rfl) ((C.2.2.2.2.2.1.1.2 0 _ rfl).1 (mL μ a) (fun j => .int (mB μ a j))) (fun q => by cases q) (by show ¬ (nI j < 0 ∨ (arrV _ _ _).slots.size ≤ _); rw [arrV_size]; exact hin) rfl rfl hd fun H1 e z oq => k2 H1 _ ?_
  refine R.put z oq rfl rfl (fun b hb => cell_sB hb) (cell_B (show mK (sB μ a j x.toInt8.toInt32) a = 12 from hk)) (R.lo (cell_B hk)) ?_
  show H1[a]? = some (vp_cell _ _)
  rw [e, nI_clamp (by omega)]
  rw [vp_cell_i, vp_cell_i, arrV_store]
  congr 2
  funext q
  show updV _ _ _ _ = Value.int (up2 (mB μ) a j x.toInt8.toInt32 a q)
  by_cases hq : q = j
  · simp [updV, up2, hq]
    try rfl
  · simp [updV, up2, hq]
theorem e_zast {a j len : Nat} {i x : Int32} (n : Nat) (hp : pc + 1 = n) (hd : decode M.2.1 pc = .ok (.bastore, 1)) (hk : mK μ a = 15) (hL : mL μ a = len) (hi : i = nI j) (hj : j < len) (hs : len < 2 ^ 31) (hx : x = 0 ∨ x = 1) (kk : Ev E M kc ks n ls st (sB μ a j x) Q) : Ev E M kc ks pc ls (.int x :: .int i :: .ref a :: st) μ Q := by
  subst hp; subst hi; subst hL
  refine Ev.store (a := a) (μ' := sB μ a j x) (fun p e s m args below meth c H locs cells slots lsA Z C R k2 => ?_) (fun H R => R.lo (cell_Z hk)) kk
  have hin := vp_in_nI hj hs
  refine W.zast C.1 C.2.1 (R.at (cell_Z hk) 0 _ rfl) ((C.2.2.2.2.2.1.1.2 3 _ rfl).1 (mL μ a) (fun j => .int (mB μ a j))) (fun q => by cases q) (by show ¬ (nI j < 0 ∨ (arrV _ _ _).slots.size ≤ _); rw [arrV_size]; exact hin) rfl rfl hd fun H1 e z oq => k2 H1 _ ?_
  refine R.put z oq rfl rfl (fun b hb => cell_sB hb) (cell_Z (show mK (sB μ a j x) a = 15 from hk)) (R.lo (cell_Z hk)) ?_
  show H1[a]? = some (vp_cell _ _)
  rw [e, nI_clamp (by omega)]
  rw [vp_cell_i, vp_cell_i, arrV_store]
  congr 2
  funext q
  show updV _ _ _ _ = Value.int (up2 (mB μ) a j x a q)
  by_cases hq : q = j
  · rcases hx with rfl | rfl
    · simp [updV, up2, hq]
      try rfl
    · simp [updV, up2, hq]
      try rfl
  · simp [updV, up2, hq]
theorem e_last {a j len : Nat} {i : Int32} {x : Int64} (n : Nat) (hp : pc + 1 = n) (hd : decode M.2.1 pc = .ok (.lastore, 1)) (hk : mK μ a = 14) (hL : mL μ a = len) (hi : i = nI j) (hj : j < len) (hs : len < 2 ^ 31) (kk : Ev E M kc ks n ls st (sJ μ a j x) Q) : Ev E M kc ks pc ls (.long x :: .int i :: .ref a :: st) μ Q := by
  subst hp; subst hi; subst hL
  refine Ev.store (a := a) (μ' := sJ μ a j x) (fun p e s m args below meth c H locs cells slots lsA Z C R k2 => ?_) (fun H R => R.lo (cell_J hk)) kk
  have hin := vp_in_nI hj hs
  refine W.last C.1 C.2.1 (R.at (cell_J hk) 0 _ rfl) ((C.2.2.2.2.2.1.1.2 2 _ rfl).1 (mL μ a) (fun j => .long (mJ μ a j))) (fun q => by cases q) (by show ¬ (nI j < 0 ∨ (arrV _ _ _).slots.size ≤ _); rw [arrV_size]; exact hin) rfl rfl hd fun H1 e z oq => k2 H1 _ ?_
  refine R.put z oq rfl rfl (fun b hb => cell_sJ hb) (cell_J (show mK (sJ μ a j x) a = 14 from hk)) (R.lo (cell_J hk)) ?_
  show H1[a]? = some (vp_cell _ _)
  rw [e, nI_clamp (by omega)]
  rw [vp_cell_l, vp_cell_l, arrV_store]
  congr 2
  funext q
  show updV _ _ _ _ = Value.long (up2 (mJ μ) a j x a q)
  by_cases hq : q = j
  · simp [updV, up2, hq]
  · simp [updV, up2, hq]
/-- a reference out of an array; k: 0 Name, 1 Shape, 2 Word, 3 int[] -/
theorem e_aald {a b j len k : Nat} {i : Int32} (n : Nat) (hp : pc + 1 = n) (hd : decode M.2.1 pc = .ok (.aaload, 1)) (hk : mK μ a = k + 16) (hk4 : k < 4) (hL : mL μ a = len) (hi : i = nI j) (hj : j < len) (hs : len < 2 ^ 31) (hv : mO μ a j = some b) (kk : Ev E M kc ks n ls (.ref b :: st) μ Q) : Ev E M kc ks pc ls (.int i :: .ref a :: st) μ Q := by
  subst hp; subst hi; subst hL
  refine Ev.step (fun p e s m args below meth c H locs cells slots lsA Z C R hL k2 => ?_) kk
  have k3 := k2 lsA hL
  have hin := vp_in_nI hj hs
  have hK := C.2.2.2.2.2.1.1
  have key : ∀ (t : FieldType), (xT E)[k + 4]? = some (xC E (k + 4), t) → t.isReference = true → W p (xl E) e M.2.2.2.2 s m args below meth c H locs cells slots Z (F0 m pc lsA (.int (nI j) :: .ref a :: st)) := by
    intro t ht hr
    refine W.aald (v := .ref b) (ty := t) C.1 C.2.1 (R.at (cell_O hk hk4) 0 _ rfl) ((hK.2 (k + 4) _ ht).1 (mL μ a) (fun j => va_rf (mO μ a j))) hr (fun q => by cases q) (by show ¬ (nI j < 0 ∨ (arrV _ _ _).slots.size ≤ _); rw [arrV_size]; exact hin) (by show (arrV _ _ _).slots[_]? = _; rw [nI_clamp (by omega), arrV_read _ _ hj, hv]; rfl) rfl rfl hd k3
  match k, hk4, key with
  | 0, _, key => exact key _ rfl rfl
  | 1, _, key => exact key _ rfl rfl
  | 2, _, key => exact key _ rfl rfl
  | 3, _, key => exact key _ rfl rfl
/-- a reference into an array; k: 0 Name, 1 Shape, 2 Word -/
theorem e_aast {a b j len k ci : Nat} {i : Int32} (n : Nat) (hp : pc + 1 = n) (hd : decode M.2.1 pc = .ok (.aastore, 1)) (hk : mK μ a = k + 16) (hk3 : (k = 0 ∧ ci = 2) ∨ (k = 1 ∧ ci = 4) ∨ (k = 2 ∧ ci = 8)) (hL : mL μ a = len) (hi : i = nI j) (hj : j < len) (hs : len < 2 ^ 31) (hb : mK μ b = ci + 1) (kk : Ev E M kc ks n ls st (sO μ a j (some b)) Q) : Ev E M kc ks pc ls (.ref b :: .int i :: .ref a :: st) μ Q := by
  subst hp; subst hi; subst hL
  have hk4 : k < 4 := by omega
  have hci : ci < 11 := by omega
  refine Ev.store (a := a) (μ' := sO μ a j (some b)) (fun p e s m args below meth c H locs cells slots lsA Z C R k2 => ?_) (fun H R => R.lo (cell_O hk hk4)) kk
  have hin := vp_in_nI hj hs
  have hK := C.2.2.2.2.2.1.1
  have key : ∀ (r : vw_C), (xT E)[k + 4]? = some (xC E (k + 4), .object r.1) → vwCl[ci]? = some r → W p (xl E) e M.2.2.2.2 s m args below meth c H locs cells slots Z (F0 m pc lsA (.ref b :: .int (nI j) :: .ref a :: st)) := by
    intro r ht hc
    obtain ⟨r', hr', cellV, g1, g2, g3, -⟩ := R.at (cell_obj hb hci) 0 _ rfl
    have hcls := (hK.1 ci r hc).2
    obtain ⟨kA, comp, k1, k2', k3, -⟩ := (hK.2 (k + 4) _ ht).2
    have hcomp : comp = (xD E).1 ci := Option.some.inj (k3.symm.trans hcls.1)
    subst hcomp
    obtain ⟨kC, hkC, -⟩ := hcls.2
    refine W.aast C.1 C.2.1 (R.at (cell_O hk hk4) 0 _ rfl) (fun q h => by cases h) (fun h => by cases h) k1 k2' rfl hkC ⟨fun q => hin (Or.inl q), by show _ < (arrV _ _ _).slots.size; rw [arrV_size, nI_clamp (by omega)]; exact hj⟩ g1 (fun q h => by rw [g3] at h; cases h) (by rw [g2]; exact hkC) (by rw [g2]; exact va_assign hcls) rfl rfl hd fun H1 e z oq => k2 H1 _ ?_
    refine R.put z oq rfl rfl (fun b hb => cell_sO hb) (cell_O (show mK (sO μ a j (some b)) a = k + 16 from hk) hk4) (R.lo (cell_O hk hk4)) ?_
    show H1[a]? = some (vp_cell _ _)
    rw [e, nI_clamp (by omega)]
    rw [vp_cell_q, vp_cell_q, arrV_store]
    congr 2
    funext q
    show updV _ _ _ _ = va_rf (up2 (mO μ) a j (some b) a q)
    by_cases hq : q = j
    · simp [updV, up2, hq, va_rf]
    · simp [updV, up2, hq]
  rcases hk3 with ⟨rfl, rfl⟩ | ⟨rfl, rfl⟩ | ⟨rfl, rfl⟩
  · exact key (RX2, TX2, 10) rfl rfl
  · exact key (RX4, TX4, 13) rfl rfl
  · exact key (RX8, TX8, 4) rfl rfl
/-- new cells -/
theorem Ev.alloc {pc' dc ds : Nat} {st' : List Value} {μ' : Mm}
    (h : ∀ (p : Program) (e : Env) (s : State) (m : MethodId) (args : Array Value) (below : List Frame) (meth : Method) (c : Code) (H : Heap) (locs : List Loc) (cells slots : Nat) (lsA : Array Slot) (Z : State → Prop),
      Cx E M p s m args meth c → Rl E μ H → cells + dc ≤ M.2.2.2.2.cells → slots + ds ≤ M.2.2.2.2.slots → (∀ (H' : Heap), Rl E μ' H' → W p (xl E) e M.2.2.2.2 s m args below meth c H' locs (cells + dc) (slots + ds) Z (F0 m pc' lsA st')) → W p (xl E) e M.2.2.2.2 s m args below meth c H locs cells slots Z (F0 m pc lsA st))
    (k : Ev E M kc ks pc' ls st' μ' Q) : Ev E M (kc + dc) (ks + ds) pc ls st μ Q := by
  intro hX p e s m args below meth c H locs cells slots mc ms lsA Z C R hL hb hl hr
  exact h p e s m args below meth c H locs cells slots lsA Z C R (by omega) (by omega) (fun H' R' => k hX p e s m args below meth c H' locs _ _ mc ms lsA Z C R' hL ⟨by omega, by omega, hb.2.2⟩ hl hr)
/-- entry idx of the pool of class own is the class ci, which can be made, of N fields -/
def NC (own : String) (idx ci N : Nat) : Prop := ∃ (C : String) (T : u_T) (ty : Nat → FieldType), CI ci C T N ty ∧ Cond.classLink own idx C ∈ wtab ∧ Cond.instantiable C N ∈ wtab ∧ Cond.initialized C ∈ wtab ∧ ∀ k, k < N → ((fty ci)[k]? = some true ∧ defaultValue (ty k) = .null) ∨ ((fty ci)[k]? = some false ∧ defaultValue (ty k) = .int 0)
theorem e_new {idx ci N : Nat} (n : Nat) (hp : pc + 3 = n) (hd : decode M.2.1 pc = .ok (.new idx, 3)) (hN : NC M.1.cls idx ci N) (kk : Ev E M kc ks n ls (.ref (mN μ) :: st) (sN μ (ci + 1) 0) Q) : Ev E M (kc + 1) (ks + N) pc ls st μ Q := by
  subst hp
  obtain ⟨C', T, ty, ⟨hc, hin, hty, hnm, h5, h6⟩, h1, h2, h3, h4⟩ := hN
  refine Ev.alloc (fun p e s m args below meth c H locs cells slots lsA Z C R hcl hsl k2 => ?_) kk
  have hts := C.2.2.2.2.1
  have hKn := C.2.2.2.2.2.1.1.1 ci _ hc
  refine W.newcK C.1 C.2.1 C.2.2.2.1 (hts _ h1) (hts _ h2) (hts _ h3) rfl hd hcl hsl hKn.2.1 R.1.symm fun H1 kC hkC e1 z1 o1 => k2 H1 ?_
  refine R.new (by rw [z1, R.1]) (fun q hq => o1 q (by rw [R.1]; exact hq)) (cell_obj (c := ci) up1_s h6) ?_
  refine ⟨_, hc, (u_born ty hts hin hKn hkC e1 hty).to (fun k hk => ?_)⟩
  show _ = (flds (sN μ (ci + 1) 0) (mN μ) 0 (fty ci)).getD k .null
  rw [List.getD_eq_getElem?_getD, flds_get]
  rcases h4 k hk with ⟨q1, q2⟩ | ⟨q1, q2⟩
  · rw [q1, q2]; simp [sN, mP, up1, va_rf]
  · rw [q1, q2]; simp [sN, mF, up1]
/-- a new array of numbers: kinds 12 byte, 13 int, 14 long, 15 boolean -/
theorem e_newa {at0 : ArrayType} {len k : Nat} {i : Int32} (n : Nat) (hp : pc + 2 = n) (hd : decode M.2.1 pc = .ok (.newarray at0, 2)) (hk : (k = 0 ∧ newarray.typeOf at0 = .byte) ∨ (k = 1 ∧ newarray.typeOf at0 = .int) ∨ (k = 2 ∧ newarray.typeOf at0 = .long) ∨ (k = 3 ∧ newarray.typeOf at0 = .boolean)) (hw : Cond.arrayClass (newarray.typeOf at0) ∈ wtab) (hi : i = nI len) (hs : len < 100000) (kk : Ev E M kc ks n ls (.ref (mN μ) :: st) (sN μ (k + 12) len) Q) : Ev E M (kc + 1) (ks + len) pc ls (.int i :: st) μ Q := by
  subst hp; subst hi
  refine Ev.alloc (fun p e s m args below meth c H locs cells slots lsA Z C R hcl hsl k2 => ?_) kk
  have hts := C.2.2.2.2.1
  have hK := C.2.2.2.2.2.1.1
  have hbytes : len * componentBytes (newarray.typeOf at0) ≤ 536870912 := by
    have : componentBytes (newarray.typeOf at0) ≤ 8 := by rcases hk with ⟨-, h⟩ | ⟨-, h⟩ | ⟨-, h⟩ | ⟨-, h⟩ <;> rw [h] <;> decide
    calc len * componentBytes (newarray.typeOf at0) ≤ len * 8 := Nat.mul_le_mul_left _ this
      _ ≤ 536870912 := by omega
  refine va_newaK C.1 C.2.1 (hts _ hw) rfl hd rfl (nI_pos (by omega)) (nI_clamp (by omega)) hbytes hcl hsl R.1.symm fun H1 cA e1 z1 o1 hAr hNm => k2 H1 ?_
  have hK1 : mK (sN μ (k + 12) len) (mN μ) = k + 12 := up1_s
  have hL1 : mL (sN μ (k + 12) len) (mN μ) = len := up1_s
  rcases hk with ⟨rfl, h⟩ | ⟨rfl, h⟩ | ⟨rfl, h⟩ | ⟨rfl, h⟩
  · rw [h] at e1 hNm
    have ec : cA = xC E 0 := Option.some.inj (hNm.symm.trans (hK.2 0 _ rfl).2)
    subst ec
    refine R.new (by rw [z1, R.1]) (fun q hq => o1 q (by rw [R.1]; exact hq)) (cell_B hK1) ?_
    show H1[mN μ]? = some (vp_cell _ _)
    rw [e1, hL1, vp_cell_i]
    congr 2
    funext q
    show Value.int 0 = Value.int (up1 (mB μ) (mN μ) (fun _ => 0) (mN μ) q)
    rw [up1_s]
  · rw [h] at e1 hNm
    have ec : cA = xC E 1 := Option.some.inj (hNm.symm.trans (hK.2 1 _ rfl).2)
    subst ec
    refine R.new (by rw [z1, R.1]) (fun q hq => o1 q (by rw [R.1]; exact hq)) (cell_A hK1) ?_
    show H1[mN μ]? = some (vp_cell _ _)
    rw [e1, hL1, vp_cell_i]
    congr 2
    funext q
    show Value.int 0 = Value.int (up1 (mA μ) (mN μ) (fun _ => 0) (mN μ) q)
    rw [up1_s]
  · rw [h] at e1 hNm
    have ec : cA = xC E 2 := Option.some.inj (hNm.symm.trans (hK.2 2 _ rfl).2)
    subst ec
    refine R.new (by rw [z1, R.1]) (fun q hq => o1 q (by rw [R.1]; exact hq)) (cell_J hK1) ?_
    show H1[mN μ]? = some (vp_cell _ _)
    rw [e1, hL1, vp_cell_l]
    congr 2
    funext q
    show Value.long 0 = Value.long (up1 (mJ μ) (mN μ) (fun _ => 0) (mN μ) q)
    rw [up1_s]
  · rw [h] at e1 hNm
    have ec : cA = xC E 3 := Option.some.inj (hNm.symm.trans (hK.2 3 _ rfl).2)
    subst ec
    refine R.new (by rw [z1, R.1]) (fun q hq => o1 q (by rw [R.1]; exact hq)) (cell_Z hK1) ?_
    show H1[mN μ]? = some (vp_cell _ _)
    rw [e1, hL1, vp_cell_i]
    congr 2
    funext q
    show Value.int 0 = Value.int (up1 (mB μ) (mN μ) (fun _ => 0) (mN μ) q)
    rw [up1_s]
/-- a new array of references; k: 0 Name, 1 Shape, 2 Word -/
theorem e_newq {idx len k : Nat} {i : Int32} {C0 : String} (n : Nat) (hp : pc + 3 = n) (hd : decode M.2.1 pc = .ok (.anewarray idx, 3)) (hk : (k = 0 ∧ C0 = RX2) ∨ (k = 1 ∧ C0 = RX4) ∨ (k = 2 ∧ C0 = RX8)) (hw : Cond.classLink M.1.cls idx C0 ∈ wtab) (hi : i = nI len) (hs : len < 100000) (kk : Ev E M kc ks n ls (.ref (mN μ) :: st) (sN μ (k + 16) len) Q) : Ev E M (kc + 1) (ks + len) pc ls (.int i :: st) μ Q := by
  subst hp; subst hi
  refine Ev.alloc (fun p e s m args below meth c H locs cells slots lsA Z C R hcl hsl k2 => ?_) kk
  have hts := C.2.2.2.2.1
  have hK := C.2.2.2.2.2.1.1
  have hAO : va_AO C0 s := by
    obtain ⟨q1, q2, q3⟩ := C.2.2.2.2.2.1.2.2.1
    rcases hk with ⟨-, rfl⟩ | ⟨-, rfl⟩ | ⟨-, rfl⟩
    · exact q1
    · exact q2
    · exact q3
  have ecl : (nI len).toNatClampNeg = len := nI_clamp (by omega)
  refine W.anew C.1 C.2.1 C.2.2.2.1 (hts _ hw) (va_AO.use hAO) rfl hd rfl (nI_pos (by omega)) (by rw [ecl]; omega) hcl (by rw [ecl]; exact hsl) fun cA kA comp f1 f2 f3 f4 => ?_
  rw [ecl]
  have ec : cA = xC E (k + 4) := by
    rcases hk with ⟨rfl, rfl⟩ | ⟨rfl, rfl⟩ | ⟨rfl, rfl⟩
    · obtain ⟨_, _, -, -, -, h⟩ := (hK.2 4 _ rfl).2; exact Option.some.inj (f1.symm.trans h)
    · obtain ⟨_, _, -, -, -, h⟩ := (hK.2 5 _ rfl).2; exact Option.some.inj (f1.symm.trans h)
    · obtain ⟨_, _, -, -, -, h⟩ := (hK.2 6 _ rfl).2; exact Option.some.inj (f1.symm.trans h)
  have eN : H.size = mN μ := R.1.symm
  rw [eN]
  refine k2 _ ?_
  have hk4 : k < 4 := by omega
  refine R.new (by rw [Array.size_push]) (fun q hq => by rw [Array.getElem?_push, if_neg (Nat.ne_of_lt hq)]) (cell_O (k := k) up1_s hk4) ?_
  show (H.push _)[mN μ]? = some (vp_cell _ _)
  rw [← eN, Array.getElem?_push_size, arrV_new, vp_cell_q, ec, eN]
  show some (arrV _ _ _) = some (arrV _ (up1 (mL μ) (mN μ) len (mN μ)) _)
  rw [up1_s]
  congr 2
  funext q
  show Value.null = va_rf (up1 (mO μ) (mN μ) (fun _ => none) (mN μ) q)
  rw [up1_s]
  rfl
end STORES
