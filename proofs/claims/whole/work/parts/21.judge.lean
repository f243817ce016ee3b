/-! the judgement over the memory: a method's body from a place on, and a call -/
section JUDGE
/-- name, code, locals, answer, room -/
abbrev Mt : Type := MethodName × ByteArray × Nat × Option FieldType × Room
def wtab : List Cond := lw_tbl.filter goodWord
def codeW (M : Mt) : Cond := .code M.1 M.2.1 M.2.2.1 M.2.2.2.1
def wsM (M : Mt) : List Cond := codeW M :: wtab
theorem wtab_good {w : Cond} (h : w ∈ wtab) : (w.onTables && w.keeps) = true ∨ ∃ ty, w = .arrayClass ty := good_of_word (List.mem_filter.mp h).2
theorem wsM_good {N : Mt} (h : codeW N ∈ wtab) : GoodIn wtab (wsM N) := fun w hw => by
  rcases List.mem_cons.mp hw with e | e
  · subst e; exact ⟨h, wtab_good h⟩
  · exact ⟨e, wtab_good e⟩
def nestL : List (String × Nat × MethodName × String) := [(RX9, 11, yX7_init, RX9), (RX9, 24, yX5_init, RX9), (RX9, 29, yX4_init, RX9), (RX0, 28, yX8_init, RX9), (RX9, 43, yX8_init, RX9), (RX9, 60, yX3_init, RX9), (RX3, 11, yX4_init, RX9), (RX9, 85, yX1_init, RX9), (RX2, 46, yX1_init, RX9), (RX2, 51, yX8_init, RX9), (RX5, 102, yX9_isSmall, RX9), (RX8, 29, yX9_isSmall, RX9), (RX8, 33, yX9_isBig, RX9), (RX6, 19, yX9_isSmall, RX9)]
/-- what a state must say of the tables -/
def St (E : En) (U : State) : Prop := va_K (xD E) vwCl (xT E) U ∧ (∀ q ∈ nestL, va_Nw (.methodLinkNest q.1 q.2.1 q.2.2.1 q.2.2.2) U) ∧ (va_AO RX2 U ∧ va_AO RX4 U ∧ va_AO RX8 U) ∧ xP E U
theorem St.warm {E : En} (hX : XP E) {s U : State} (hW : s.WarmedH U.vm) (h : St E s) : St E U :=
  ⟨va_K.moved hW.alike h.1, fun q hq => va_Nw.warmM hW (h.2.1 q hq), ⟨va_AO.moved hW.alike h.2.2.1.1, va_AO.moved hW.alike h.2.2.1.2.1, va_AO.moved hW.alike h.2.2.1.2.2⟩, hX s U hW h.2.2.2⟩
theorem St.blind {E : En} (hX : XP E) {U : State} (g : JFrame) (mk : MethodId) (a : Array Value) (h : St E U) : St E (U.calling g mk a) := St.warm (U := U.calling g mk a) hX (State.WarmedH.refl U) h
/-- the locals -/
def asc (ls : List (Option Value)) : List (Nat × Value) := ls.zipIdx.filterMap (fun q => q.1.map (fun v => (q.2, v)))
theorem mem_asc {ls : List (Option Value)} {i : Nat} {v : Value} : (i, v) ∈ asc ls ↔ ls[i]? = some (some v) := by
  unfold asc
  rw [List.mem_filterMap]
  constructor
  · rintro ⟨⟨x, j⟩, h1, h2⟩
    rw [List.mem_zipIdx_iff_getElem?] at h1
    cases x with
    | none => simp at h2
    | some w =>
      simp at h2
      obtain ⟨rfl, rfl⟩ := h2
      exact h1
  · intro h
    exact ⟨(some v, i), List.mem_zipIdx_iff_getElem?.mpr h, rfl⟩
def LsOK (lsA : Array Slot) (n : Nat) (ls : List (Option Value)) : Prop := lv_has lsA n (asc ls)
theorem LsOK.get {lsA : Array Slot} {n : Nat} {ls : List (Option Value)} (h : LsOK lsA n ls) {i : Nat} {v : Value} (hi : ls[i]? = some (some v)) : lsA[i]? = some (.val v) := h.2.2 (i, v) (mem_asc.mpr hi)
theorem LsOK.lt {lsA : Array Slot} {n : Nat} {ls : List (Option Value)} (h : LsOK lsA n ls) {i : Nat} {v : Value} (hi : ls[i]? = some (some v)) : i < n := by
  have h1 := lv_lt (h.get hi)
  rw [h.1] at h1
  exact h1
theorem LsOK.of {lsA : Array Slot} {n : Nat} {l : List (Nat × Value)} {ls : List (Option Value)} (h : lv_has lsA n l) (hs : ∀ i v, ls[i]? = some (some v) → (i, v) ∈ l) : LsOK lsA n ls := ⟨h.1, h.2.1, fun q hq => h.2.2 q (hs q.1 q.2 (mem_asc.mp hq))⟩
/-- not the first half of a long -/
def nl : Option Value → Bool
  | some (.long _) => false
  | some (.double _) => false
  | _ => true
theorem nl_cat {v : Value} (h : nl (some v) = true) : ¬ v.category = 2 := by cases v <;> simp_all [nl, Value.category]
/-- the method runs here -/
def Cx (E : En) (M : Mt) (p : Program) (s : State) (m : MethodId) (args : Array Value) (meth : Method) (c : Code) : Prop :=
  p.tables.exec = Jvm.exec ∧ c.code = M.2.1 ∧ c.maxLocals = M.2.2.1 ∧ s.vm.findClass M.1.cls = some m.cls ∧ (∀ w ∈ wtab, w.before args s = true) ∧ St E s ∧ meth.name = M.1.name
def RetAt (M : Mt) (pc : Nat) (r : Option Value) : Prop :=
  (∃ (v : Int32) (ty : FieldType), r = some (.int v) ∧ M.2.2.2.1 = some ty ∧ narrow ty (.int v) = .int v ∧ decode M.2.1 pc = .ok (.ireturn, 1)) ∨
  (∃ (a : Nat) (ty : String), r = some (.ref a) ∧ M.2.2.2.1 = some (.object ty) ∧ decode M.2.1 pc = .ok (.areturn, 1)) ∨
  (r = none ∧ M.2.2.2.1 = none ∧ decode M.2.1 pc = .ok (.return_, 1))
def Ev (E : En) (M : Mt) (kc ks : Nat) (pc : Nat) (ls : List (Option Value)) (st : List Value) (μ : Mm) (Q : Option Value → Mm → Prop) : Prop :=
  XP E → ∀ (p : Program) (e : Env) (s : State) (m : MethodId) (args : Array Value) (below : List Frame) (meth : Method) (c : Code) (H : Heap) (locs : List Loc) (cells slots mc ms : Nat) (lsA : Array Slot) (Z : State → Prop),
    Cx E M p s m args meth c → Rl E μ H → (∀ q ∈ locs, xo E ≤ q.base) → cells + kc ≤ mc ∧ slots + ks ≤ ms ∧ mc ≤ M.2.2.2.2.cells ∧ ms ≤ M.2.2.2.2.slots → LsOK lsA M.2.2.1 ls →
    (∀ (H' : Heap) (locs' : List Loc) (r : Option Value) (μ' : Mm) (pc' : Nat) (lsA' : Array Slot), Rl E μ' H' → Q r μ' → (∀ q ∈ locs', xo E ≤ q.base) → RetAt M pc' r → W p (xl E) e M.2.2.2.2 s m args below meth c H' locs' mc ms Z (F0 m pc' lsA' r.toList)) →
    W p (xl E) e M.2.2.2.2 s m args below meth c H locs cells slots Z (F0 m pc lsA st)
/-- a call of the method: it returns, and what it answers and leaves is in K -/
def Cl (E : En) (M : Mt) (As : List Value) (μ : Mm) (K : Option Value → Mm → Prop) : Prop :=
  XP E → Met (xl E) M.1 (wsM M) M.2.2.2.2 (va_Pc As (fun U => Rl E μ U.heap ∧ St E U)) (fun _ _ o t => ∃ (r : Option Value) (μ' : Mm), o = .returned r ∧ K r μ' ∧ Rl E μ' t.heap) M.2.2.2.2.cells M.2.2.2.2.slots (fun q => xo E ≤ q)
variable {E : En} {M : Mt} {kc ks pc : Nat} {ls : List (Option Value)} {st : List Value} {μ : Mm} {Q : Option Value → Mm → Prop}
/-- a step that changes nothing in the heap -/
theorem Ev.step {pc' : Nat} {ls' : List (Option Value)} {st' : List Value}
    (h : ∀ (p : Program) (e : Env) (s : State) (m : MethodId) (args : Array Value) (below : List Frame) (meth : Method) (c : Code) (H : Heap) (locs : List Loc) (cells slots : Nat) (lsA : Array Slot) (Z : State → Prop),
      Cx E M p s m args meth c → Rl E μ H → LsOK lsA M.2.2.1 ls → (∀ lsA' : Array Slot, LsOK lsA' M.2.2.1 ls' → W p (xl E) e M.2.2.2.2 s m args below meth c H locs cells slots Z (F0 m pc' lsA' st')) → W p (xl E) e M.2.2.2.2 s m args below meth c H locs cells slots Z (F0 m pc lsA st))
    (k : Ev E M kc ks pc' ls' st' μ Q) : Ev E M kc ks pc ls st μ Q := by
  intro hX p e s m args below meth c H locs cells slots mc ms lsA Z C R hL hb hl hr
  exact h p e s m args below meth c H locs cells slots lsA Z C R hl (fun lsA' hl' => k hX p e s m args below meth c H locs cells slots mc ms lsA' Z C R hL hb hl' hr)
/-- a branch -/
theorem Ev.branch {c0 : Prop} {pc1 pc2 : Nat} {st' : List Value}
    (h : ∀ (p : Program) (e : Env) (s : State) (m : MethodId) (args : Array Value) (below : List Frame) (meth : Method) (c : Code) (H : Heap) (locs : List Loc) (cells slots : Nat) (lsA : Array Slot) (Z : State → Prop),
      Cx E M p s m args meth c → (c0 → W p (xl E) e M.2.2.2.2 s m args below meth c H locs cells slots Z (F0 m pc1 lsA st')) → (¬ c0 → W p (xl E) e M.2.2.2.2 s m args below meth c H locs cells slots Z (F0 m pc2 lsA st')) → W p (xl E) e M.2.2.2.2 s m args below meth c H locs cells slots Z (F0 m pc lsA st))
    (k1 : c0 → Ev E M kc ks pc1 ls st' μ Q) (k2 : ¬ c0 → Ev E M kc ks pc2 ls st' μ Q) : Ev E M kc ks pc ls st μ Q := by
  intro hX p e s m args below meth c H locs cells slots mc ms lsA Z C R hL hb hl hr
  exact h p e s m args below meth c H locs cells slots lsA Z C (fun hc => k1 hc hX p e s m args below meth c H locs cells slots mc ms lsA Z C R hL hb hl hr) (fun hc => k2 hc hX p e s m args below meth c H locs cells slots mc ms lsA Z C R hL hb hl hr)
/-- a store into a cell of the memory -/
theorem Ev.store {pc' : Nat} {st' : List Value} {μ' : Mm} {a : Nat}
    (h : ∀ (p : Program) (e : Env) (s : State) (m : MethodId) (args : Array Value) (below : List Frame) (meth : Method) (c : Code) (H : Heap) (locs : List Loc) (cells slots : Nat) (lsA : Array Slot) (Z : State → Prop),
      Cx E M p s m args meth c → Rl E μ H → (∀ (H' : Heap) (i : Nat), Rl E μ' H' → W p (xl E) e M.2.2.2.2 s m args below meth c H' (locs ++ [⟨a, i⟩]) cells slots Z (F0 m pc' lsA st')) → W p (xl E) e M.2.2.2.2 s m args below meth c H locs cells slots Z (F0 m pc lsA st))
    (ha : ∀ H : Heap, Rl E μ H → xo E ≤ a) (k : Ev E M kc ks pc' ls st' μ' Q) : Ev E M kc ks pc ls st μ Q := by
  intro hX p e s m args below meth c H locs cells slots mc ms lsA Z C R hL hb hl hr
  refine h p e s m args below meth c H locs cells slots lsA Z C R (fun H' i R' => k hX p e s m args below meth c H' _ cells slots mc ms lsA Z C R' ?_ hb hl hr)
  intro q hq
  rcases List.mem_append.mp hq with h1 | h1
  · exact hL q h1
  · rw [List.mem_singleton.mp h1]; exact ha H R
/-- a body's end -/
theorem Ev.ret {r : Option Value} (hst : st = r.toList) (hR : RetAt M pc r) (hQ : Q r μ) : Ev E M kc ks pc ls st μ Q := by
  intro hX p e s m args below meth c H locs cells slots mc ms lsA Z C R hL hb hl hr
  subst hst
  exact W.widen (k := mc) (n := ms) (by omega) (by omega) (hr H locs r μ pc lsA R hQ hL hR)
theorem Ev.mono {Q' : Option Value → Mm → Prop} (h : ∀ r μ', Q r μ' → Q' r μ') (k : Ev E M kc ks pc ls st μ Q) : Ev E M kc ks pc ls st μ Q' := by
  intro hX p e s m args below meth c H locs cells slots mc ms lsA Z C R hL hb hl hr
  exact k hX p e s m args below meth c H locs cells slots mc ms lsA Z C R hL hb hl (fun H' locs' r μ' pc' lsA' R' hq => hr H' locs' r μ' pc' lsA' R' (h r μ' hq))
/-- the locals at the entry -/
def ent : List Value → List (Option Value)
  | [] => []
  | v :: vs => if v.category = 2 then some v :: none :: ent vs else some v :: ent vs
theorem ent_args (vs : List Value) : ∀ (j i : Nat) (v : Value), (ent vs)[i]? = some (some v) → (j + i, v) ∈ lv_args j vs := by
  induction vs with
  | nil => intro j i v h; simp [ent] at h
  | cons w vs ih =>
    intro j i v h
    unfold ent at h
    unfold lv_args
    by_cases hc : w.category = 2
    · rw [if_pos hc] at h ⊢
      match i, h with
      | 0, h => simp at h; subst h; exact List.mem_cons_self
      | 1, h => simp at h
      | i + 2, h =>
        have := ih (j + 2) i v (by simpa using h)
        rw [show j + (i + 2) = j + 2 + i by omega]
        exact List.mem_cons_of_mem _ this
    · rw [if_neg hc] at h ⊢
      match i, h with
      | 0, h => simp at h; subst h; exact List.mem_cons_self
      | i + 1, h =>
        have := ih (j + 1) i v (by simpa using h)
        rw [show j + (i + 1) = j + 1 + i by omega]
        exact List.mem_cons_of_mem _ this
/-- a call out of the body -/
theorem Cl.of {As : List Value} {K : Option Value → Mm → Prop} {nn : Nat} (hy : plainName M.1.cls = true) (hle : (lg_sl As).length ≤ M.2.2.1) (hls : ent As ++ List.replicate nn none = ls) (k : Ev E M M.2.2.2.2.cells M.2.2.2.2.slots 0 ls [] μ K) : Cl E M As μ K := by
  intro hX
  refine Met.ofW (cc := M.2.1) (maxL := M.2.2.1) (ret := M.2.2.2.1) hy rfl ?_
  intro p e s m args below meth c s₁ B hml hv
  obtain ⟨rfl, hR, hS⟩ := hv
  have hl := lv_entry As (n := M.2.2.1) hle
  rw [lg_entry_eq]
  generalize (lg_sl As ++ List.replicate (M.2.2.1 - (lg_sl As).length) Slot.unset).toArray = lsA at hl ⊢
  have hts := atoms_spec (ws := wsM M) B.pre
  have hown : s.vm.findClass M.1.cls = some m.cls := findClass_of_methodNamed B.named
  have hlocks := B.notSynchronized
  have hx := B.exec
  have hb := B.bytes
  have hrt := B.returns
  refine k hX p e s m As.toArray below meth c s.heap [] 0 0 M.2.2.2.2.cells M.2.2.2.2.slots lsA _ ⟨hx, hb, hml, hown, fun w hw => hts w (List.mem_cons_of_mem _ hw), hS, (name_of_methodNamed B.named B.method).1⟩ hR (fun q h => by cases h) ⟨by omega, by omega, Nat.le_refl _, Nat.le_refl _⟩ ?_ ?_
  · subst hls
    refine LsOK.of hl (fun i v h => ?_)
    have h2 : (ent As)[i]? = some (some v) := by
      rcases Nat.lt_or_ge i (ent As).length with q | q
      · rwa [List.getElem?_append_left q] at h
      · rw [List.getElem?_append_right q] at h
        have h3 := List.eq_of_mem_replicate (List.mem_of_getElem? h)
        cases h3
    have h4 := ent_args As 0 i v h2
    rwa [Nat.zero_add] at h4
  · intro H' locs' r μ' pc' lsA' R' hQ hL hRet
    rcases hRet with ⟨v, ty, rfl, hty, hn, hd⟩ | ⟨a, ty, rfl, hty, hd⟩ | ⟨rfl, hty, hd⟩
    · exact W.zret (ty := ty) hx hb (hrt.trans hty) hn (fun t ht hW => ⟨_, μ', rfl, hQ, by rw [ht]; exact R'⟩) hL hd
    · exact W.aret (rt := .object ty) hx hb (hrt.trans hty) (Or.inl ⟨ty, rfl⟩) (Or.inr ⟨a, rfl⟩) (fun t ht hW => ⟨_, μ', rfl, hQ, by rw [ht]; exact R'⟩) hL hd
    · exact W.vret hx hb (hrt.trans hty) (fun t ht hW => ⟨_, μ', rfl, hQ, by rw [ht]; exact R'⟩) hL hd
end JUDGE
