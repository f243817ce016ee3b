/-! the start of the whole, and the claim; the frame of the claim is the task's SKELETON -/
section START
theorem tbl (i : Nat) {w : Cond} (h : lw_tbl[i]? = some w) : w ∈ lw_tbl := List.mem_of_getElem? h
theorem arr_prim {args : Array Value} {s : State} {ty : FieldType} (h : (Cond.arrayClass ty).before args s = true) : ∃ c : ClassId, (ArrOfT s c ty ∧ s.vm.findClass ("[" ++ ty.toString) = some c) ∧ ∃ (k : Class) (comp : ClassId), s.vm.classes[c]? = some k ∧ k.kind = .array comp ty := by
  obtain ⟨c, k, comp, h1, h2, h3⟩ := Cond.arrayClass_spec h
  exact ⟨c, ⟨fun n z => ⟨fun q e => (by cases e), k, h2, comp, h3⟩, h1⟩, k, comp, h2, h3⟩
theorem arr_obj {args : Array Value} {s : State} {C : String} (h : (Cond.arrayOver (.object C)).before args s = true) : ∃ c : ClassId, ArrOfT s c (.object C) ∧ va_RA s c (.object C) := by
  obtain ⟨comp, c, k, h1, -, h3, h4, h5⟩ := Cond.arrayOver_spec h
  exact ⟨c, fun n z => ⟨fun q e => (by cases e), k, h3, comp, h4⟩, k, comp, h3, h4, h1, h5⟩
theorem arr_int2 {args : Array Value} {s : State} (h : (Cond.arrayOver (.array .int)).before args s = true) : ∃ c c1 : ClassId, (ArrOfT s c (.array .int) ∧ s.vm.findClass ("[" ++ (FieldType.array .int).toString) = some c) ∧ s.vm.findClass (FieldType.array .int).toString = some c1 ∧ ∃ k : Class, s.vm.classes[c]? = some k ∧ k.kind = .array c1 (.array .int) := by
  obtain ⟨comp, c, k, h1, -, h3, h4, h5⟩ := arrayOverA_spec h
  exact ⟨c, comp, ⟨fun n z => ⟨fun q e => (by cases e), k, h3, comp, h4⟩, h5⟩, h1, k, h3, h4⟩
theorem cls_one {args : Array Value} {s : State} (hts : ∀ w ∈ lw_tbl, w.before args s = true) (c : Nat) {C : String} {T : u_T} {N : Nat} {ty : Nat → FieldType} (hci : CI c C T N ty) (hin : Cond.instantiable C N ∈ lw_tbl) : ∃ q : ClassId × (Nat → Nat), ∀ r : vw_C, vwCl[c]? = some r → u_Kn s r.1 r.2.1 r.2.2 q.1 q.2 := by
  obtain ⟨cC, iS, hK⟩ := u_known (ws := wtab) (fun w h => hts w (List.mem_filter.mp h).1) hci.2.1 (hts _ hin)
  refine ⟨(cC, iS), fun r hr => ?_⟩
  rw [hci.1] at hr
  cases hr
  exact hK
theorem cls_known {args : Array Value} {s : State} (hts : ∀ w ∈ lw_tbl, w.before args s = true) : ∃ D : va_G, ∀ (c : Nat) (q : vw_C), vwCl[c]? = some q → u_Kn s q.1 q.2.1 q.2.2 (D.1 c) (D.2 c) := by
  have key : ∀ c : Nat, ∃ q : ClassId × (Nat → Nat), ∀ r : vw_C, vwCl[c]? = some r → u_Kn s r.1 r.2.1 r.2.2 q.1 q.2 := by
    intro c
    match c with
    | 0 => exact cls_one hts 0 ci_0 (tbl 194 (by decide +kernel))
    | 1 => exact cls_one hts 1 ci_1 (tbl 295 (by decide +kernel))
    | 2 => exact cls_one hts 2 ci_2 (tbl 308 (by decide +kernel))
    | 3 => exact cls_one hts 3 ci_3 (tbl 246 (by decide +kernel))
    | 4 => exact cls_one hts 4 ci_4 (tbl 126 (by decide +kernel))
    | 5 => exact cls_one hts 5 ci_5 (tbl 103 (by decide +kernel))
    | 6 => exact cls_one hts 6 ci_6 (tbl 282 (by decide +kernel))
    | 7 => exact cls_one hts 7 ci_7 (tbl 85 (by decide +kernel))
    | 8 => exact cls_one hts 8 ci_8 (tbl 201 (by decide +kernel))
    | 9 => exact cls_one hts 9 ci_9 (tbl 77 (by decide +kernel))
    | 10 => exact cls_one hts 10 ci_10 (tbl 922 (by decide +kernel))
    | c + 11 => exact ⟨(0, fun _ => 0), fun r hr => by simp at hr⟩
  obtain ⟨f, hf⟩ := Classical.axiomOfChoice key
  exact ⟨(fun c => (f c).1, fun c => (f c).2), fun c q hq => hf c q hq⟩
theorem nest_in : ∀ q ∈ nestL, Cond.methodLinkNest q.1 q.2.1 q.2.2.1 q.2.2.2 ∈ lw_tbl := by decide +kernel
theorem bad_in : ∀ w ∈ badW, w ∈ lw_tbl := by decide +kernel
theorem bad_on : ∀ w ∈ badW, w.onTables = true := by decide +kernel
def kbL : List Int32 := [84, 71, 80, 81, 70, 77, 73]
/-- what a state of the whole run must say beside its classes -/
def xPw (l : Launch) (D : va_G) (C : Nat → ClassId) (o : Nat) (H : Heap) (sa va b L : Nat) (xs : Nat → Int32) : State → Prop := fun U => AI (C 7) (C 1) U ∧ lowS (l, D, C, o, H, fun _ => True) sa va U ∧ lowX (l, D, C, o, H, fun _ => True) U ∧ va_T .int b L (fun j => .int (xs j)) (fun q => o ≤ q) U H
def Ew (l : Launch) (D : va_G) (C : Nat → ClassId) (o : Nat) (H : Heap) (sa va b L : Nat) (xs : Nat → Int32) : En := (l, D, C, o, H, xPw l D C o H sa va b L xs)
theorem Ew_XP {l : Launch} {D : va_G} {C : Nat → ClassId} {o : Nat} {H : Heap} {sa va b L : Nat} {xs : Nat → Int32} : XP (Ew l D C o H sa va b L xs) := fun s U hW h => ⟨h.1.moved hW.alike, h.2.1.warm hW, h.2.2.1.warm hW, va_T.moved hW.alike h.2.2.2⟩
theorem Ew_AI {l : Launch} {D : va_G} {C : Nat → ClassId} {o : Nat} {H : Heap} {sa va b L : Nat} {xs : Nat → Int32} : ∀ U : State, xP (Ew l D C o H sa va b L xs) U → AI (xC (Ew l D C o H sa va b L xs) 7) (xC (Ew l D C o H sa va b L xs) 1) U := fun U h => by
  have h' : xPw l D C o H sa va b L xs U := h
  exact h'.1
theorem Ew_S {l : Launch} {D : va_G} {C : Nat → ClassId} {o : Nat} {H : Heap} {sa va b L : Nat} {xs : Nat → Int32} : ∀ U : State, xP (Ew l D C o H sa va b L xs) U → lowS (Ew l D C o H sa va b L xs) sa va U := fun U h => by
  have h' : xPw l D C o H sa va b L xs U := h
  exact h'.2.1
theorem Ew_X {l : Launch} {D : va_G} {C : Nat → ClassId} {o : Nat} {H : Heap} {sa va b L : Nat} {xs : Nat → Int32} : ∀ U : State, xP (Ew l D C o H sa va b L xs) U → lowX (Ew l D C o H sa va b L xs) U := fun U h => by
  have h' : xPw l D C o H sa va b L xs U := h
  exact h'.2.2.1
theorem Ew_T {l : Launch} {D : va_G} {C : Nat → ClassId} {o : Nat} {H : Heap} {sa va b L : Nat} {xs : Nat → Int32} : ∀ U : State, xP (Ew l D C o H sa va b L xs) U → va_T .int b L (fun j => .int (xs j)) (aE (Ew l D C o H sa va b L xs)) U (xH (Ew l D C o H sa va b L xs)) := fun U h => by
  have h' : xPw l D C o H sa va b L xs U := h
  exact h'.2.2.2
def μ00 (n : Nat) : Mm := (n, fun _ => 0, fun _ => 0, fun _ _ => 0, fun _ _ => 0, fun _ _ => 0, fun _ _ => 0, fun _ _ => none, fun _ _ => none)
end START
/-! THE CLAIM OUT OF ONE WALK OF THE LAW'S BODY. Your part is whole_start (and what it stands on); all else here is the same for every law, but numbers. -/
def R_law : String := "NameDeskLaw"
def lw_P (b : Addr) (xs : List Int32) (args : Array Value) (s : State) : Prop := args = #[.ref b] ∧ s.IntsAt b xs ∧ xs.length ≤ 3072 ∧ (Jvm.Cond.and given_1 narrow_1).before args s = true
def lw_Q (_ : Array Value) (s : State) (o : Outcome) (t : State) : Prop := o = .returned (some (.int 1)) ∧ Framed s o t [] 601024 7293034
def lw_Z (below : List Frame) (a : Array Value) (s : State) : State → Prop := fun t => ∃ o, t.status = .running ∧ Ended t below o ∧ lw_Q a s o t
/-- the law's own end, with 1 on the stack, nothing written that was there before, its room as the claim has it -/
theorem lw_ret {p : Program} {l : Launch} {e : Env} {s : State} {m : MethodId} {below : List Frame} {meth : Method} {c : Code} {b : Nat} (hx : p.tables.exec = Jvm.exec) (hb : c.code = code) (hr : meth.sig.returnType = ret) (hlocks : meth.locks = false) {pc : Nat} {H : Heap} {ls : Array Slot} (hdg : decode code pc = .ok (.ireturn, 1)) : W p l e room_1 s m #[Value.ref b] below meth c H [] 601024 7293034 (lw_Z below #[Value.ref b] s) (F0 m pc ls [.int 1]) := by
  intro T hT X
  obtain ⟨fs, hret, hrun, hended, hW, hframe⟩ := X.leave (v := some (.int 1)) (hlocks := hlocks) (fun h => by rw [hr] at h; cases h)
  have hmeth' : T.vm.method? m = some meth := X.method'
  refine ⟨T.setFrames fs, ?_, .returned (some (.int 1)), hrun, hended, rfl, ⟨_, rfl⟩, hW, hframe⟩
  jvm_step X.here [X.here.top, hx, hb, hdg, hmeth', hr, ret, narrow_b1]
  (try refine ⟨rfl, ?_⟩); (try refine ⟨rfl, ?_⟩)
  first | (intro acts; rw [hret _ acts rfl rfl rfl]) | rw [hret _ _ rfl rfl rfl]
  exact Steps.refl _
/-- what holds at the law's entry: the machine, the code, the tables' words (any of lw_tbl by 'hts w (by decide +kernel)'), the script of L ints xs at the cell b, what the Statement gives of the start (any of its parts by flat_of_before) -/
def lw_At (p : Program) (s : State) (m : MethodId) (meth : Method) (c : Code) (b L : Nat) (xs : Nat → Int32) : Prop :=
  p.tables.exec = Jvm.exec ∧ c.code = code ∧ meth.sig.returnType = ret ∧ c.maxLocals = 7 ∧ s.vm.findClass R_law = some m.cls ∧ (∀ w ∈ lw_tbl, w.before #[Value.ref b] s = true) ∧ va_X b L xs s s.heap ∧ b < s.heap.size ∧ meth.locks = false ∧ (Jvm.Cond.and given_1 narrow_1).before #[Value.ref b] s = true ∧ meth.name = "law"
/-- from the entry, for every script of at most 3072 ints, the law comes to its end with true -/
theorem whole_start {p : Program} {e : Env} {s : State} {m : MethodId} {below : List Frame} {meth : Method} {c : Code} (l : Launch) (hl : l.stackTraces = false) {b L : Nat} {xs : Nat → Int32} (hL : L ≤ 3072) (C0 : lw_At p s m meth c b L xs) : W p l e room_1 s m #[Value.ref b] below meth c s.heap [] 0 0 (lw_Z below #[Value.ref b] s) (entryFrame m ([Value.ref b] : List Value).toArray 7) := by
  obtain ⟨hx, hb, hrt, hml, hown, hts, hX, hbl, hlocks, hgv, hnm⟩ := C0
  have hs := flat_of_before _ hgv
  have hA : ∀ a : Nat, a < s.heap.size → ¬ (fun q : Nat => s.heap.size ≤ q) a := fun a h q => Nat.not_le.mpr h q
  obtain ⟨D, hD⟩ := cls_known hts
  obtain ⟨c0, h0⟩ := arr_prim (ty := .byte) (hts _ (tbl 99 (by decide +kernel)))
  obtain ⟨c1, h1, k1, cc1, hk1, hkd1⟩ := arr_prim (ty := .int) (hts _ (tbl 191 (by decide +kernel)))
  obtain ⟨c2, h2⟩ := arr_prim (ty := .long) (hts _ (tbl 280 (by decide +kernel)))
  obtain ⟨c3, h3⟩ := arr_prim (ty := .boolean) (hts _ (tbl 192 (by decide +kernel)))
  have o4 : (Cond.arrayOver (.object RX2)).before #[Value.ref b] s = true := hts _ (tbl 244 (by decide +kernel))
  have o5 : (Cond.arrayOver (.object RX4)).before #[Value.ref b] s = true := hts _ (tbl 101 (by decide +kernel))
  have o6 : (Cond.arrayOver (.object RX8)).before #[Value.ref b] s = true := hts _ (tbl 200 (by decide +kernel))
  obtain ⟨c4, h4⟩ := arr_obj o4
  obtain ⟨c5, h5⟩ := arr_obj o5
  obtain ⟨c6, h6⟩ := arr_obj o6
  obtain ⟨c7, c9, h7, h9, k7, hk7, hkd7⟩ := arr_int2 (hts _ (tbl 254 (by decide +kernel)))
  have e1 : c9 = c1 := Option.some.inj (h9.symm.trans h1.2)
  subst e1
  obtain ⟨adK, adV, hSk, hSe⟩ := vk_Sof (args := #[Value.ref b]) (s := s) (N := 1) (tm := fun _ => Term.string RX5 75) (len := [7]) (byt := [kbL]) (A := fun q => s.heap.size ≤ q)
    (fun i hi => by have : i = 0 := by omega
                    subst this; decide)
    (fun i hi => hs _ (by decide +kernel)) (fun i hi => hs _ (by decide +kernel)) (fun i hi => hs _ (by decide +kernel))
    (fun i hi => by have : i = 0 := by omega
                    subst this; exact hs _ (by decide +kernel))
    (fun i hi j hj => by
      have : i = 0 := by omega
      subst this
      have hj' : j < 7 := hj
      match j, hj' with
      | 0, _ => exact hs _ (by decide +kernel)
      | 1, _ => exact hs _ (by decide +kernel)
      | 2, _ => exact hs _ (by decide +kernel)
      | 3, _ => exact hs _ (by decide +kernel)
      | 4, _ => exact hs _ (by decide +kernel)
      | 5, _ => exact hs _ (by decide +kernel)
      | 6, _ => exact hs _ (by decide +kernel)
      | j + 7, q => omega)
    (fun i j hi hj hij => absurd (show i = j by omega) hij) hA
  obtain ⟨s1, s2, s3, s4⟩ := hSk.1 0 (by decide)
  obtain ⟨qa, -, -, -, ea, -⟩ := Cond.exactly_spec (args := #[Value.ref b]) (first := s) (o := none) (s := s) (idx := []) (t := Term.string RX9 175) (cls := "java/lang/String") (hs _ (by decide +kernel))
  obtain ⟨qb, -, -, -, eb, -⟩ := Cond.exactly_spec (args := #[Value.ref b]) (first := s) (o := none) (s := s) (idx := []) (t := Term.string RX9 201) (cls := "java/lang/String") (hs _ (by decide +kernel))
  obtain ⟨scr, y1, y2, y3, y4, y5⟩ := hX
  have hP : xPw l D (fun k => ([c0, c9, c2, c3, c4, c5, c6, c7] : List ClassId).getD k 0) s.heap.size s.heap (adK 0) (adV 0) b L xs s := by
    refine ⟨⟨⟨k7, hk7, hkd7⟩, k1, cc1, hk1, hkd1⟩, ⟨vk_R.of (hts _ (tbl 445 (by decide +kernel))) (hSe 0 (by decide)), s1, s2, s3, s4, va_Zof (hts _ (tbl 459 (by decide +kernel))) (hts _ (tbl 66 (by decide +kernel))) (va_eqi (hs _ (by decide +kernel))) hA⟩, ⟨vx_Zqof (hts _ (tbl 862 (by decide +kernel))) (hts _ (tbl 71 (by decide +kernel))) (hs _ (by decide +kernel)) hA, vx_Zqof (hts _ (tbl 864 (by decide +kernel))) (hts _ (tbl 71 (by decide +kernel))) (hs _ (by decide +kernel)) hA, ⟨qa, vk_R.of (hts _ (tbl 875 (by decide +kernel))) ea⟩, ⟨qb, vk_R.of (hts _ (tbl 914 (by decide +kernel))) eb⟩, fun w hw => va_tabs (bad_on w hw) rfl (hts w (bad_in w hw)), va_Nc.of (hs _ (by decide +kernel))⟩, ⟨scr, y1, y2, y3, by omega, by rw [y4], y5, hA b hbl⟩⟩
  have hSt : St (Ew l D (fun k => ([c0, c9, c2, c3, c4, c5, c6, c7] : List ClassId).getD k 0) s.heap.size s.heap (adK 0) (adV 0) b L xs) s := by
    refine ⟨⟨hD, fun k q hk => ?_⟩, fun q hq => va_tabs rfl rfl (hts _ (nest_in q hq)), ⟨va_AO.of o4, va_AO.of o5, va_AO.of o6⟩, hP⟩
    match k, hk with
    | 0, hk => cases hk; exact h0.1
    | 1, hk => cases hk; exact h1
    | 2, hk => cases hk; exact h2.1
    | 3, hk => cases hk; exact h3.1
    | 4, hk => cases hk; exact h4
    | 5, hk => cases hk; exact h5
    | 6, hk => cases hk; exact h6
    | 7, hk => cases hk; exact h7
    | k + 8, hk => simp [xT] at hk
  have hR0 : Rl (Ew l D (fun k => ([c0, c9, c2, c3, c4, c5, c6, c7] : List ClassId).getD k 0) s.heap.size s.heap (adK 0) (adV 0) b L xs) (μ00 s.heap.size) s.heap := ⟨rfl, Nat.le_refl _, fun q _ => rfl, fun _ _ => rfl, fun a e he => by
    have hz : mK (μ00 s.heap.size) a = 0 := rfl
    simp [cellOf, hz] at he⟩
  generalize (fun k => ([c0, c9, c2, c3, c4, c5, c6, c7] : List ClassId).getD k 0) = CC at hSt hR0 hP
  have hle := lv_entry [.ref b] (n := 7) (Nat.le_of_ble_eq_true rfl)
  rw [lg_entry_eq]
  generalize (lg_sl [Value.ref b] ++ List.replicate (7 - (lg_sl [Value.ref b]).length) Slot.unset).toArray = lsA at hle ⊢
  have hLs : LsOK lsA 7 [some (.ref b), none, none, none, none, none, none] := LsOK.of hle (fun i v h => by
    have h2 : (ent [.ref b])[i]? = some (some v) := by
      match i, h with
      | 0, h => exact h
      | 1, h => simp at h
      | 2, h => simp at h
      | 3, h => simp at h
      | 4, h => simp at h
      | 5, h => simp at h
      | 6, h => simp at h
      | j + 7, h => simp at h
    have h4 := ent_args [.ref b] 0 i v h2
    rwa [Nat.zero_add] at h4)
  have ev := law_ev (E := Ew l D CC s.heap.size s.heap (adK 0) (adV 0) b L xs) (K := fun r _ => r = some (.int 1)) (b := b) (L := L) (xs := xs) (k_here Ew_S) (i_reader Ew_AI) hl Ew_X Ew_T hL (fun _ => rfl) (μ00 s.heap.size)
  refine ev Ew_XP p e s m #[Value.ref b] below meth c s.heap [] 0 0 601024 7293034 lsA _ ⟨hx, hb, hml, hown, fun w hw => hts w (List.mem_filter.mp hw).1, hSt, hnm⟩ hR0 (fun q h => by cases h) ⟨by decide, by decide, by decide, by decide⟩ hLs ?_
  intro H' locs' r μ' pc' lsA' R' hQ hL' hRet
  subst hQ
  rcases hRet with ⟨v, ty, hv, hty, hn, hd⟩ | ⟨a, ty, hv, -⟩ | ⟨hv, -⟩
  · cases hv
    exact va_forget hL' (lw_ret hx hb hrt hlocks hd)
  · cases hv
  · cases hv
set_option maxHeartbeats 4000000 in
theorem lw_walk (l : Launch) (hl : l.stackTraces = false) (b : Addr) (xs : List Int32) : MetFree l x (headSpec (Jvm.Cond.code x code maxLocals ret :: tables_1) room_1) (lw_P b xs) (fun _ _ _ _ _ => True) lw_Q := by
  refine MetFree.of_bodyS (code := code) (maxLocals := maxLocals) (ret := ret) (by decide) ?_ ?_
  · intro args s m h hn
    obtain ⟨meth, c, h1, h2, h3, h4, h5, h6, -, -⟩ := Cond.code_spec hn (atoms_spec (ws := Jvm.Cond.code x code maxLocals ret :: tables_1) h _ List.mem_cons_self)
    exact ⟨meth, c, h1, h2, h3, h4, h5, h6⟩
  · intro p e s m args below meth c s₁ B hml0 hP _
    obtain ⟨rfl, hx, hbd, hgv⟩ := hP
    obtain ⟨scr, harrAt, hlist, hof, hsmall⟩ := hx
    obtain ⟨hcb, hkn, -, -⟩ := State.arrayAt?_spec harrAt
    have hown : s.vm.findClass R_law = some m.cls := findClass_of_methodNamed B.named
    have hts0 : ∀ c ∈ (Jvm.Cond.code x code maxLocals ret :: tables_1), c.before #[Value.ref b] s = true := atoms_spec (ws := Jvm.Cond.code x code maxLocals ret :: tables_1) B.pre
    have hts : ∀ w ∈ lw_tbl, w.before #[Value.ref b] s = true := k2_hts_sels lw_privs (fun w hw => hts0 w (List.mem_cons_of_mem _ hw)) lw_privs_ok
    have hml : c.maxLocals = 7 := B.maxLocals_eq (hts0 _ List.mem_cons_self)
    have X₀ : Stand p l e room_1 s m #[Value.ref b] below meth c s₁ [] 0 0 := Stand.of_body B
    have hh0 : s₁.heap = s.heap := by rw [B.state]; rfl
    have hsz : scr.slots.size = xs.length := by rw [← Array.length_toList, hlist, List.length_map]
    have hval : ∀ j : Nat, j < xs.length → scr.slots[j]? = some (.int (xs.getD j 0)) := fun j hj => by
      rw [← Array.getElem?_toList, hlist]
      simp [hj]
    have hbl : b < s.heap.size := (Array.getElem?_eq_some_iff.mp hcb).1
    have hX : va_X b xs.length (fun j => xs.getD j 0) s s.heap := ⟨scr, hcb, hof, hkn, hsz, hval⟩
    have K : W p l e room_1 s m #[Value.ref b] below meth c s₁.heap [] 0 0 (lw_Z below #[Value.ref b] s) (entryFrame m ([Value.ref b] : List Value).toArray 7) := by
      rw [hh0]
      exact whole_start l hl hbd ⟨B.exec, B.bytes, B.returns, hml, hown, hts, hX, hbl, B.notSynchronized, hgv, (name_of_methodNamed B.named B.method).1⟩
    obtain ⟨t, a1, o, b1, b2, b3⟩ := K s₁ rfl X₀
    exact ⟨t, o, a1, b1, b2, b3⟩
theorem lw_pre_spec {args : Array Value} {s : State} (h : (Jvm.Cond.and given_1 narrow_1).before args s = true) (hr : rest_1_c.before args s = true) : ∃ (b : Addr) (xs : List Int32), lw_P b xs args s := by
  have hs := flat_of_before _ h
  have hq := flat_of_before _ hr
  have hc : (Cond.count 1).before args s = true := hs _ (by decide +kernel)
  have harr : (Cond.arrayOf (.arg 0) .int).before args s = true := hs _ (by decide +kernel)
  have hle : (Cond.le (.length (.arg 0)) (.int 3072)).before args s = true := hs _ (by decide +kernel)
  have hlen : (Cond.isInt (.length (.arg 0))).before args s = true := hq _ (by decide +kernel)
  have hall : (Cond.all (.arg 0) (.isInt (.elem (.arg 0) (.index 0)))).before args s = true := hq _ (by decide +kernel)
  obtain ⟨b, xs, hb, hx⟩ := State.ints_of_pre rfl harr hlen hall
  have hsm : xs.length < 2 ^ 31 := hx.choose_spec.2.2.2
  have hev : (Term.length (.arg 0)).eval args s none [] s = some (.int xs.length.toInt32) := hx.length_eval hb
  have hv := Cond.le_ints hev (show (Term.int 3072).eval args s none [] s = some (.int 3072) from rfl)
  have hd : xs.length.toInt32 ≤ 3072 := by
    simpa [Cond.before, Cond.holds, hv] using hle
  have hN : xs.length ≤ 3072 := (Int32.ofNat_le_ofNat hsm (by decide)).mp (show Int32.ofNat xs.length ≤ Int32.ofNat 3072 from hd)
  exact ⟨b, xs, Cond.one_arg hc (show args[0]? = some (.ref b) from hb), hx, hN, h⟩
theorem lw_comes (l : Launch) (hl : l.stackTraces = false) : Comes l x (Jvm.Cond.code x code maxLocals ret :: tables_1) room_1 (fun tb e args s => Calls_1 tb e args s ∧ rest_1 tb e args s ∧ Pre_1 tb e args s)
    (fun _ _ args s o t => lw_Q args s o t) := by
  intro p e ha hc hk s m args below hf hfit hheap happ hpre
  obtain ⟨b, xs, hP⟩ := lw_pre_spec hpre.2.2 hpre.2.1
  obtain ⟨k, o, h1, h2, h3, hQ⟩ := lw_walk l hl b xs p e ha hc hk s m args below hf ((Spec.applies_iff_loose hf).mp happ).1 hP trivial
  exact ⟨k, o, h1, h2, h3, hQ⟩
theorem lw_frame {s t : State} {o : Outcome} {args : Array Value} (h : Framed s o t [] 601024 7293034) :
    Framed s o t (fieldLocs frame_1_writes args s ++ arrayLocs frame_1_arrays args s ++ staticLocs frame_1_statics s) 601024 7293034 := h
theorem lw_limb (L : Cond) (hL : ∀ (args : Array Value) (s t : State), L.after args s (.returned (some (.int 1))) t = true) :
    ArmFor flags0 classFile x code maxLocals ret World_1 tables_1 room_1 Calls_1 rest_1 Pre_1
      (fun tb e a s o t => postC L tb e a s o t ∧ Framed s o t (fieldLocs frame_1_writes a s ++ arrayLocs frame_1_arrays a s ++ staticLocs frame_1_statics s) 601024 7293034) := by
  intro l hfl _ _ p e ha hc hk s m args below hf hfit hheap happ hpre
  have hl : l.stackTraces = false := by unfold Launch.stackTraces; rw [hfl]; decide
  obtain ⟨k, o, h1, h2, h3, rfl, hF⟩ := lw_comes l hl p e ha hc hk s m args below hf hfit hheap happ hpre
  exact ⟨k, _, h1, h2, h3, hL args s _, lw_frame hF⟩
theorem i_vc : Claimed_1_1 ∧ Claimed_1_2 := ⟨lw_limb limb_1_1 (fun args s t => by simp [limb_1_1, Cond.after, Cond.holds, Cond.value]), lw_limb limb_1_2 (fun args s t => Cond.after_iff.mpr (by
  first | (rw [show limb_1_2 = Cond.eq .result (.int 1) from rfl, Cond.eq_ints (x := 1) (y := 1) rfl rfl]; simp; done) | (simp [limb_1_2, Cond.value, Term.eval]; done)))⟩
