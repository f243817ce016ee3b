/-! rows of the judgement: calls, ends, switches -/
section CALLS
variable {E : En} {M : Mt} {kc ks pc : Nat} {ls : List (Option Value)} {st : List Value} {μ : Mm} {Q : Option Value → Mm → Prop}
/-- a method that can be called: its code is known, its class is made, it takes n values besides its object -/
def MO (N : Mt) (n : Nat) : Prop := codeW N ∈ wtab ∧ Cond.initialized N.1.cls ∈ wtab ∧ (N.1.cls ≠ "java/lang/invoke/MethodHandle" ∧ N.1.cls ≠ "java/lang/invoke/VarHandle" ∧ (parseMethodDescriptor N.1.desc).map (fun d => d.parameters.length) = some n)
def RM (M N : Mt) : Prop := N.2.2.2.2.frames + 1 ≤ M.2.2.2.2.frames ∧ 8 + (N.2.2.1 + 11) + N.2.2.2.2.locals ≤ M.2.2.2.2.locals
theorem pre_blind {E : En} (hX : XP E) {As : List Value} {μ : Mm} : FrameBlind (va_Pc As (fun U => Rl E μ U.heap ∧ St E U)) := fun a U g mk h => ⟨h.1, h.2.1, St.blind hX g mk a h.2.2⟩
/-- behind a call -/
theorem Ev.called {N : Mt} {As st0 rest : List Value} (hf : ∀ (p : Program) (e : Env) (s : State) (m : MethodId) (args : Array Value) (below : List Frame) (meth : Method) (c : Code) (H : Heap) (locs : List Loc) (cells slots : Nat) (lsA : Array Slot) (Qc : Array Value → State → Outcome → State → Prop), XP E → Cx E M p s m args meth c → Rl E μ H → lsA.size = M.2.2.1 → cells + N.2.2.2.2.cells ≤ M.2.2.2.2.cells ∧ slots + N.2.2.2.2.slots ≤ M.2.2.2.2.slots → Met (xl E) N.1 (wsM N) N.2.2.2.2 (va_Pc As (fun U => Rl E μ U.heap ∧ St E U)) Qc N.2.2.2.2.cells N.2.2.2.2.slots (fun q => xo E ≤ q) →
      va_Run p (xl E) e M.2.2.2.2 s m args below meth c H locs cells slots N.2.2.2.2.cells N.2.2.2.2.slots (F0 m pc lsA st0) rest (Qc As.toArray) (fun q => xo E ≤ q))
    (k : Cl E N As μ (fun r μ' => Ev E M kc ks (pc + 3) ls (r.toList ++ rest) μ' Q)) : Ev E M (kc + N.2.2.2.2.cells) (ks + N.2.2.2.2.slots) pc ls st0 μ Q := by
  intro hX p e s m args below meth c H locs cells slots mc ms lsA Z C R hL hb hl hr
  have hrun := hf p e s m args below meth c H locs cells slots lsA _ hX C R hl.1 ⟨by omega, by omega⟩ (k hX)
  intro T hT X
  obtain ⟨v, st₀, t, T', L, h0, X', hL', e1, e2, ⟨r, μ', hv, hK, hR'⟩, stp⟩ := hrun T hT X
  cases hv
  have hw := hK hX p e s m args below meth c T'.heap (locs ++ L) (cells + N.2.2.2.2.cells) (slots + N.2.2.2.2.slots) mc ms lsA Z C (by rw [e1]; exact hR') (fun q hq => by
    rcases List.mem_append.mp hq with h | h
    · exact hL q h
    · exact hL' q h) ⟨by omega, by omega, hb.2.2⟩ hl hr
  obtain ⟨t2, a1, b1⟩ := hw T' rfl X'
  exact ⟨t2, stp t2 a1, b1⟩
theorem room_ok {m : MethodId} {lsA : Array Slot} {st0 rest : List Value} (h : (rest.map fun v => v.category).sum ≤ 8) : 2 * (F0 m pc lsA st0).monitorRoom + (rest.map fun v => v.category).sum ≤ 8 := lv_room h
theorem zz_recv {s : State} {H : Heap} {b ci : Nat} {r : vw_C} (hS : St E s) (R : Rl E μ H) (hk : mK μ b = ci + 1) (hci : ci < 11) (hr : vwCl[ci]? = some r) : ∃ cellB : Cell, H[b]? = some cellB ∧ cellB.vm.isStatics = false ∧ s.vm.findClass r.1 = some cellB.cls := va_recv hS.1 (R.at (cell_obj hk hci)) hr (q0 := 0) rfl
/-- invokevirtual of a method of the system -/
def LV (own : String) (idx ci : Nat) (N : Mt) : Prop := Cond.methodLink own idx N.1 ∈ wtab ∧ Cond.instanceMethod N.1 ∈ wtab ∧ Cond.selects N.1.cls N.1 N.1 ∈ wtab ∧ ∃ r : vw_C, vwCl[ci]? = some r ∧ r.1 = N.1.cls ∧ ci < 11
theorem e_invV {N : Mt} {idx ci na b : Nat} (As : List Value) {rest : List Value} (n : Nat) (hp : pc + 3 = n) (hd : decode M.2.1 pc = .ok (.invokevirtual idx, 3)) (hV : LV M.1.cls idx ci N) (hO : MO N na) (hRm : RM M N) (hna : As.length = na) (hk : mK μ b = ci + 1) (hrest : (rest.map fun v => v.category).sum ≤ 8) (k : Cl E N (.ref b :: As) μ (fun r μ' => Ev E M kc ks n ls (r.toList ++ rest) μ' Q)) : Ev E M (kc + N.2.2.2.2.cells) (ks + N.2.2.2.2.slots) pc ls (As.reverse ++ .ref b :: rest) μ Q := by
  subst hp
  obtain ⟨w1, w2, w3, rr, hr1, hr2, hci⟩ := hV
  obtain ⟨o1, o2, o3⟩ := hO
  refine Ev.called (fun p e s m args below meth c H locs cells slots lsA Qc hX C R hsz hb hM => ?_) k
  have hts := C.2.2.2.2.1
  have hcb := callB_of (own := M.1.cls) (index := idx) (R := M.2.2.2.2) na hts (wsM_good o1) rfl rfl rfl (hts _ o2) (hts _ w1) o3 hRm
  exact va_runV (C := N.1.cls) (As := As) ⟨C.1, C.2.1, C.2.2.1, C.2.2.2.1, hts⟩ hM ⟨hcb, hts _ w2, hts _ w3⟩ ⟨pre_blind hX, hr2 ▸ zz_recv C.2.2.2.2.2.1 R hk hci hr1, fun U hU hW => ⟨rfl, by rw [hU]; exact R, St.warm hX hW C.2.2.2.2.2.1⟩⟩ rfl hna hsz rfl (room_ok hrest) hd hb
/-- invokestatic of a method of the same class, or of a class that the tables name -/
def LStat (own : String) (idx : Nat) (N : Mt) : Prop := Cond.methodLink own idx N.1 ∈ wtab ∧ Cond.static N.1 ∈ wtab
theorem e_invS {N : Mt} {idx na : Nat} (As : List Value) {rest : List Value} (n : Nat) (hp : pc + 3 = n) (hd : decode M.2.1 pc = .ok (.invokestatic idx, 3)) (hV : LStat M.1.cls idx N) (hO : MO N na) (hRm : RM M N) (hna : As.length = na) (hrest : (rest.map fun v => v.category).sum ≤ 8) (k : Cl E N As μ (fun r μ' => Ev E M kc ks n ls (r.toList ++ rest) μ' Q)) : Ev E M (kc + N.2.2.2.2.cells) (ks + N.2.2.2.2.slots) pc ls (As.reverse ++ rest) μ Q := by
  subst hp
  obtain ⟨w1, w2⟩ := hV
  obtain ⟨o1, o2, o3⟩ := hO
  refine Ev.called (fun p e s m args below meth c H locs cells slots lsA Qc hX C R hsz hb hM => ?_) k
  have hts := C.2.2.2.2.1
  have hcb := callB_of (own := M.1.cls) (index := idx) (R := M.2.2.2.2) na hts (wsM_good o1) rfl rfl rfl (hts _ o2) (hts _ w1) o3 hRm
  exact va_runS (As := As) ⟨C.1, C.2.1, C.2.2.1, C.2.2.2.1, hts⟩ hM ⟨hcb, hts _ w2⟩ ⟨pre_blind hX, fun U hU hW => ⟨rfl, by rw [hU]; exact R, St.warm hX hW C.2.2.2.2.2.1⟩⟩ rfl hna hsz rfl (room_ok hrest) hd hb
/-- .. of a nest mate's own -/
def LSN (own : String) (idx : Nat) (N : Mt) : Prop := (own, idx, N.1, RX9) ∈ nestL ∧ Cond.static N.1 ∈ wtab
theorem e_invSN {N : Mt} {idx na : Nat} (As : List Value) {rest : List Value} (n : Nat) (hp : pc + 3 = n) (hd : decode M.2.1 pc = .ok (.invokestatic idx, 3)) (hV : LSN M.1.cls idx N) (hO : MO N na) (hRm : RM M N) (hna : As.length = na) (hrest : (rest.map fun v => v.category).sum ≤ 8) (k : Cl E N As μ (fun r μ' => Ev E M kc ks n ls (r.toList ++ rest) μ' Q)) : Ev E M (kc + N.2.2.2.2.cells) (ks + N.2.2.2.2.slots) pc ls (As.reverse ++ rest) μ Q := by
  subst hp
  obtain ⟨w1, w2⟩ := hV
  obtain ⟨o1, o2, o3⟩ := hO
  refine Ev.called (fun p e s m args below meth c H locs cells slots lsA Qc hX C R hsz hb hM => ?_) k
  have hts := C.2.2.2.2.1
  have hcn := va_cnB (own := M.1.cls) (host := RX9) (index := idx) (R := M.2.2.2.2) na hts (wsM_good o1) rfl rfl rfl (C.2.2.2.2.2.1.2.1 _ w1) (hts _ o2) o3 hRm
  exact va_runSN (As := As) ⟨C.1, C.2.1, C.2.2.1, C.2.2.2.1, hts⟩ hM ⟨hcn, hts _ w2, trivial⟩ ⟨pre_blind hX, fun U hU hW => ⟨rfl, by rw [hU]; exact R, St.warm hX hW C.2.2.2.2.2.1⟩⟩ rfl hna hsz rfl (room_ok hrest) hd hb
/-- a constructor -/
def LI (own : String) (idx : Nat) (N : Mt) : Prop := Cond.methodLink own idx N.1 ∈ wtab ∧ Cond.instanceMethod N.1 ∈ wtab ∧ N.1.name = "<init>" ∧ N.2.2.2.1 = none
theorem e_invI {N : Mt} {idx na b : Nat} (As : List Value) {rest : List Value} (n : Nat) (hp : pc + 3 = n) (hd : decode M.2.1 pc = .ok (.invokespecial idx, 3)) (hV : LI M.1.cls idx N) (hO : MO N na) (hRm : RM M N) (hna : As.length = na) (hrest : (rest.map fun v => v.category).sum ≤ 8) (k : Cl E N (.ref b :: As) μ (fun r μ' => Ev E M kc ks n ls (r.toList ++ rest) μ' Q)) : Ev E M (kc + N.2.2.2.2.cells) (ks + N.2.2.2.2.slots) pc ls (As.reverse ++ .ref b :: rest) μ Q := by
  subst hp
  obtain ⟨w1, w2, w3, w4⟩ := hV
  obtain ⟨o1, o2, o3⟩ := hO
  refine Ev.called (fun p e s m args below meth c H locs cells slots lsA Qc hX C R hsz hb hM => ?_) k
  have hts := C.2.2.2.2.1
  have hcb := callB_of (own := M.1.cls) (index := idx) (R := M.2.2.2.2) (ret := none) (bytes := N.2.1) (maxL := N.2.2.1) (ws' := wtab) na hts (wsM_good o1) (by unfold wsM codeW; rw [w4]) rfl rfl (hts _ o2) (hts _ w1) o3 hRm
  exact va_runI (As := As) ⟨C.1, C.2.1, C.2.2.1, C.2.2.2.1, hts⟩ hM ⟨hcb, w3, hts _ w2⟩ ⟨pre_blind hX, fun U hU hW => ⟨rfl, by rw [hU]; exact R, St.warm hX hW C.2.2.2.2.2.1⟩⟩ rfl hna hsz rfl (room_ok hrest) hd hb
def LIN (own : String) (idx : Nat) (N : Mt) : Prop := (own, idx, N.1, RX9) ∈ nestL ∧ Cond.instanceMethod N.1 ∈ wtab ∧ N.1.name = "<init>" ∧ N.2.2.2.1 = none
theorem e_invIN {N : Mt} {idx na b : Nat} (As : List Value) {rest : List Value} (n : Nat) (hp : pc + 3 = n) (hd : decode M.2.1 pc = .ok (.invokespecial idx, 3)) (hV : LIN M.1.cls idx N) (hO : MO N na) (hRm : RM M N) (hna : As.length = na) (hrest : (rest.map fun v => v.category).sum ≤ 8) (k : Cl E N (.ref b :: As) μ (fun r μ' => Ev E M kc ks n ls (r.toList ++ rest) μ' Q)) : Ev E M (kc + N.2.2.2.2.cells) (ks + N.2.2.2.2.slots) pc ls (As.reverse ++ .ref b :: rest) μ Q := by
  subst hp
  obtain ⟨w1, w2, w3, w4⟩ := hV
  obtain ⟨o1, o2, o3⟩ := hO
  refine Ev.called (fun p e s m args below meth c H locs cells slots lsA Qc hX C R hsz hb hM => ?_) k
  have hts := C.2.2.2.2.1
  have hcn := va_cnB (own := M.1.cls) (host := RX9) (index := idx) (R := M.2.2.2.2) (ret := none) (bytes := N.2.1) (maxL := N.2.2.1) (ws' := wtab) na hts (wsM_good o1) (by unfold wsM codeW; rw [w4]) rfl rfl (C.2.2.2.2.2.1.2.1 _ w1) (hts _ o2) o3 hRm
  exact va_runIN (As := As) ⟨C.1, C.2.1, C.2.2.1, C.2.2.2.1, hts⟩ hM ⟨hcn, w3, hts _ w2⟩ ⟨pre_blind hX, fun U hU hW => ⟨rfl, by rw [hU]; exact R, St.warm hX hW C.2.2.2.2.2.1⟩⟩ rfl hna hsz rfl (room_ok hrest) hd hb
/-- Object's constructor -/
def LO (own : String) (idx : Nat) : Prop := Cond.methodLink own idx objectInit ∈ wtab ∧ Cond.instanceMethod objectInit ∈ wtab ∧ Cond.code objectInit ⟨#[0xb1]⟩ 1 none ∈ wtab
theorem e_obj {idx a : Nat} (n : Nat) (hp : pc + 3 = n) (hd : decode M.2.1 pc = .ok (.invokespecial idx, 3)) (hV : LO M.1.cls idx) (hf : 1 ≤ M.2.2.2.2.frames) (hl : 2 * (0 : Nat) + (st.map fun v => v.category).sum + 12 ≤ M.2.2.2.2.locals) (kk : Ev E M kc ks n ls st μ Q) : Ev E M kc ks pc ls (.ref a :: st) μ Q := by
  subst hp
  refine Ev.step (fun p e s m args below meth c H locs cells slots lsA Z C R hL k2 => ?_) kk
  have hts := C.2.2.2.2.1
  exact W.objInit C.1 C.2.1 C.2.2.2.1 (hts _ hV.1) (hts _ hV.2.1) (hts _ hV.2.2) rfl (by rw [C.2.2.1]; exact hL.1) rfl hd hf hl (k2 lsA hL)
/-- Math.max, Math.min -/
def LMx (own : String) (idx : Nat) : Prop := Cond.methodLink own idx Lib.Math.max.name ∈ wtab ∧ Cond.static Lib.Math.max.name ∈ wtab ∧ Cond.initialized "java/lang/Math" ∈ wtab ∧ Cond.code Lib.Math.max.name Lib.Math.max.code 2 (some .int) ∈ wtab
def LMn (own : String) (idx : Nat) : Prop := Cond.methodLink own idx Lib.Math.min.name ∈ wtab ∧ Cond.static Lib.Math.min.name ∈ wtab ∧ Cond.initialized "java/lang/Math" ∈ wtab ∧ Cond.code Lib.Math.min.name Lib.Math.min.code 2 (some .int) ∈ wtab
theorem Ev.cells {pc' : Nat} {st' : List Value} (h : ∀ (p : Program) (e : Env) (s : State) (m : MethodId) (args : Array Value) (below : List Frame) (meth : Method) (c : Code) (H : Heap) (locs : List Loc) (cells slots : Nat) (lsA : Array Slot) (Z : State → Prop),
      Cx E M p s m args meth c → LsOK lsA M.2.2.1 ls → cells ≤ M.2.2.2.2.cells → slots ≤ M.2.2.2.2.slots → W p (xl E) e M.2.2.2.2 s m args below meth c H locs cells slots Z (F0 m pc' lsA st') → W p (xl E) e M.2.2.2.2 s m args below meth c H locs cells slots Z (F0 m pc lsA st))
    (k : Ev E M kc ks pc' ls st' μ Q) : Ev E M kc ks pc ls st μ Q := by
  intro hX p e s m args below meth c H locs cells slots mc ms lsA Z C R hL hb hl hr
  exact h p e s m args below meth c H locs cells slots lsA Z C hl (by omega) (by omega) (k hX p e s m args below meth c H locs cells slots mc ms lsA Z C R hL hb hl hr)
theorem e_max {idx : Nat} {x y : Int32} (n : Nat) (hp : pc + 3 = n) (hd : decode M.2.1 pc = .ok (.invokestatic idx, 3)) (hV : LMx M.1.cls idx) (hf : 1 ≤ M.2.2.2.2.frames) (hl : (st.map fun v => v.category).sum + 13 ≤ M.2.2.2.2.locals) (kk : Ev E M kc ks n ls (.int (if x < y then y else x) :: st) μ Q) : Ev E M kc ks pc ls (.int y :: .int x :: st) μ Q := by
  subst hp
  refine Ev.cells (fun p e s m args below meth c H locs cells slots lsA Z C hL h1 h2 k2 => ?_) kk
  have hts := C.2.2.2.2.1
  exact va_mmax C.1 C.2.1 (by rw [C.2.2.1]; exact hL.1.symm) C.2.2.2.1 (hts _ hV.1) (hts _ hV.2.1) (hts _ hV.2.2.1) (hts _ hV.2.2.2) hf hl h1 h2 hd k2
theorem e_min {idx : Nat} {x y : Int32} (n : Nat) (hp : pc + 3 = n) (hd : decode M.2.1 pc = .ok (.invokestatic idx, 3)) (hV : LMn M.1.cls idx) (hf : 1 ≤ M.2.2.2.2.frames) (hl : (st.map fun v => v.category).sum + 13 ≤ M.2.2.2.2.locals) (kk : Ev E M kc ks n ls (.int (if y < x then y else x) :: st) μ Q) : Ev E M kc ks pc ls (.int y :: .int x :: st) μ Q := by
  subst hp
  refine Ev.cells (fun p e s m args below meth c H locs cells slots lsA Z C hL h1 h2 k2 => ?_) kk
  have hts := C.2.2.2.2.1
  exact va_mmin C.1 C.2.1 (by rw [C.2.2.1]; exact hL.1.symm) C.2.2.2.1 (hts _ hV.1) (hts _ hV.2.1) (hts _ hV.2.2.1) (hts _ hV.2.2.2) hf hl h1 h2 hd k2
/-! ends -/
theorem e_iret {v : Int32} (hd : decode M.2.1 pc = .ok (.ireturn, 1)) (hr : M.2.2.2.1 = some .int) (hQ : Q (some (.int v)) μ) : Ev E M kc ks pc ls [.int v] μ Q := Ev.ret (r := some (.int v)) rfl (Or.inl ⟨v, .int, rfl, hr, rfl, hd⟩) hQ
theorem e_zret {v : Int32} (hd : decode M.2.1 pc = .ok (.ireturn, 1)) (hr : M.2.2.2.1 = some .boolean) (hv : v = 0 ∨ v = 1) (hQ : Q (some (.int v)) μ) : Ev E M kc ks pc ls [.int v] μ Q := Ev.ret (r := some (.int v)) rfl (Or.inl ⟨v, .boolean, rfl, hr, (nar_bool hv).1, hd⟩) hQ
theorem e_aret {a : Nat} {C : String} (hd : decode M.2.1 pc = .ok (.areturn, 1)) (hr : M.2.2.2.1 = some (.object C)) (hQ : Q (some (.ref a)) μ) : Ev E M kc ks pc ls [.ref a] μ Q := Ev.ret (r := some (.ref a)) rfl (Or.inr (Or.inl ⟨a, C, rfl, hr, hd⟩)) hQ
theorem e_ret (hd : decode M.2.1 pc = .ok (.return_, 1)) (hr : M.2.2.2.1 = none) (hQ : Q none μ) : Ev E M kc ks pc ls [] μ Q := Ev.ret (r := none) rfl (Or.inr (Or.inr ⟨rfl, hr, hd⟩)) hQ
/-! a table of places -/
theorem e_tabIn {dflt lo hi : Int} {offs : Array Int} {len : Nat} {x : Int32} {off : Int} (t : Nat) (hd : decode M.2.1 pc = .ok (.tableswitch dflt lo hi offs, len)) (h1 : ¬ x.toInt < lo) (h2 : ¬ hi < x.toInt) (ho : offs[(x.toInt - lo).toNat]? = some off) (ht : (pc : Int) + off = (t : Int)) (kk : Ev E M kc ks t ls st μ Q) : Ev E M kc ks pc ls (.int x :: st) μ Q :=
  Ev.step (fun p e s m args below meth c H locs cells slots lsA Z C R hL k2 => lv_tableIn C.1 C.2.1 hd h1 h2 ho ht (k2 lsA hL)) kk
theorem e_tabOut {dflt lo hi : Int} {offs : Array Int} {len : Nat} {x : Int32} (t : Nat) (hd : decode M.2.1 pc = .ok (.tableswitch dflt lo hi offs, len)) (h : x.toInt < lo ∨ hi < x.toInt) (ht : (pc : Int) + dflt = (t : Int)) (kk : Ev E M kc ks t ls st μ Q) : Ev E M kc ks pc ls (.int x :: st) μ Q :=
  Ev.step (fun p e s m args below meth c H locs cells slots lsA Z C R hL k2 => lv_tableOut C.1 C.2.1 hd h ht (k2 lsA hL)) kk
theorem e_ldc2 {idx : Nat} (v : Int64) (n : Nat) (hp : pc + 3 = n) (hd : decode M.2.1 pc = .ok (.ldc2_w idx, 3)) (hw : Cond.constantLong M.1.cls idx v ∈ wtab) (kk : Ev E M kc ks n ls (.long v :: st) μ Q) : Ev E M kc ks pc ls st μ Q := by
  subst hp
  exact Ev.step (fun p e s m args below meth c H locs cells slots lsA Z C R hL k2 => lv_ldc2 C.1 C.2.1 C.2.2.2.1 (C.2.2.2.2.1 _ hw) hd (k2 lsA hL)) kk
end CALLS
