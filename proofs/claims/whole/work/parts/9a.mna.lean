/-! new int[n][k]; the reader's constructor -/
section MNA
variable {E : En} {M : Mt} {kc ks pc : Nat} {ls : List (Option Value)} {st : List Value} {μ : Mm} {Q : Option Value → Mm → Prop}
/-- what the tables say of int[][]: the class of its rows, and theirs -/
def AI (c7 c1 : ClassId) (U : State) : Prop := (∃ k7 : Class, U.vm.classes[c7]? = some k7 ∧ k7.kind = .array c1 (.array .int)) ∧ ∃ (k1 : Class) (cc : ClassId), U.vm.classes[c1]? = some k1 ∧ k1.kind = .array cc .int
theorem AI.moved {c7 c1 : ClassId} {u U : State} (hvm : u.vm.Alike U.vm) (h : AI c7 c1 u) : AI c7 c1 U := by
  obtain ⟨⟨k7, h1, h2⟩, k1, cc, h3, h4⟩ := h
  obtain ⟨k7', g1, e1⟩ := hvm.2.2 _ _ h1
  obtain ⟨k1', g2, e2⟩ := hvm.2.2 _ _ h3
  exact ⟨⟨k7', g1, by rw [e1]; exact h2⟩, k1', cc, g2, by rw [e2]; exact h4⟩
/-- the memory with the outer row, and the first i inner ones, of int[n][k] -/
def sM (μ : Mm) (n k : Nat) : Nat → Mm
  | 0 => sN μ 19 n
  | i + 1 => sO (sN (sM μ n k i) 13 k) (mN μ) i (some (mN μ + 1 + i))
theorem sM_N (μ : Mm) (n k : Nat) : ∀ i, mN (sM μ n k i) = mN μ + 1 + i
  | 0 => rfl
  | i + 1 => by
    show mN (sM μ n k i) + 1 = _
    rw [sM_N μ n k i]; omega
theorem sM_K (μ : Mm) (n k : Nat) : ∀ i, mK (sM μ n k i) (mN μ) = 19 ∧ mL (sM μ n k i) (mN μ) = n
  | 0 => ⟨up1_s, up1_s⟩
  | i + 1 => by
    obtain ⟨h1, h2⟩ := sM_K μ n k i
    have hn := sM_N μ n k i
    constructor
    · show up1 (mK (sM μ n k i)) (mN (sM μ n k i)) 13 (mN μ) = 19
      rw [up1_n (by omega)]; exact h1
    · show up1 (mL (sM μ n k i)) (mN (sM μ n k i)) k (mN μ) = n
      rw [up1_n (by omega)]; exact h2
theorem sM_same (μ : Mm) (n k : Nat) {q : Nat} (hq : q < mN μ) : ∀ i, same q μ (sM μ n k i)
  | 0 => sN_same (by omega)
  | i + 1 => by
    have hn := sM_N μ n k i
    exact ((sM_same μ n k hq i).trans (sN_same (by omega))).trans (sO_same (by omega))
theorem sM_in (μ : Mm) (n k : Nat) : ∀ i w, w < i → mO (sM μ n k i) (mN μ) w = some (mN μ + 1 + w) ∧ mK (sM μ n k i) (mN μ + 1 + w) = 13 ∧ mL (sM μ n k i) (mN μ + 1 + w) = k
  | 0, w, h => absurd h (Nat.not_lt_zero _)
  | i + 1, w, h => by
    have hn := sM_N μ n k i
    have e1 : same (mN μ) (sM μ n k i) (sN (sM μ n k i) 13 k) := sN_same (by omega)
    have e2 : mO (sM μ n k (i + 1)) (mN μ) w = if w = i then some (mN μ + 1 + i) else mO (sM μ n k i) (mN μ) w := by
      show up2 (mO (sN (sM μ n k i) 13 k)) (mN μ) i (some (mN μ + 1 + i)) (mN μ) w = _
      by_cases c : w = i
      · rw [c, up2_s, if_pos rfl]
      · rw [up2_k c, if_neg c, e1.2.2.2.2.2.2.2]
    rw [e2]
    by_cases c : w = i
    · subst c
      rw [if_pos rfl]
      refine ⟨rfl, ?_, ?_⟩
      · show up1 (mK (sM μ n k w)) (mN (sM μ n k w)) 13 (mN μ + 1 + w) = 13
        rw [hn, up1_s]
      · show up1 (mL (sM μ n k w)) (mN (sM μ n k w)) k (mN μ + 1 + w) = k
        rw [hn, up1_s]
    · obtain ⟨g1, g2, g3⟩ := sM_in μ n k i w (by omega)
      rw [if_neg c]
      refine ⟨g1, ?_, ?_⟩
      · show up1 (mK (sM μ n k i)) (mN (sM μ n k i)) 13 (mN μ + 1 + w) = 13
        rw [up1_n (by omega)]; exact g2
      · show up1 (mL (sM μ n k i)) (mN (sM μ n k i)) k (mN μ + 1 + w) = k
        rw [up1_n (by omega)]; exact g3
theorem Rl.pushO {H : Heap} (R : Rl E μ H) (n : Nat) : Rl E (sN μ 19 n) (H.push { cls := xC E 7, slots := Array.replicate n .null, vm := .none }) := by
  have eN : H.size = mN μ := R.1.symm
  refine R.new (by rw [Array.size_push]) (fun q hq => by rw [Array.getElem?_push, if_neg (Nat.ne_of_lt hq)]) (cell_O (k := 3) up1_s (by decide)) ?_
  show (H.push _)[mN μ]? = some (vp_cell _ _)
  rw [← eN, Array.getElem?_push_size, arrV_new, vp_cell_q, eN]
  show some (arrV _ _ _) = some (arrV _ (up1 (mL μ) (mN μ) n (mN μ)) _)
  rw [up1_s]
  congr 2
  funext q
  show Value.null = va_rf (up1 (mO μ) (mN μ) (fun _ => none) (mN μ) q)
  rw [up1_s]
  rfl
theorem Rl.pushA {H : Heap} (R : Rl E μ H) (n : Nat) : Rl E (sN μ 13 n) (H.push { cls := xC E 1, slots := Array.replicate n (.int 0), vm := .none }) := by
  have eN : H.size = mN μ := R.1.symm
  refine R.new (by rw [Array.size_push]) (fun q hq => by rw [Array.getElem?_push, if_neg (Nat.ne_of_lt hq)]) (cell_A up1_s) ?_
  show (H.push _)[mN μ]? = some (vp_cell _ _)
  rw [← eN, Array.getElem?_push_size, arrV_new, vp_cell_i, eN]
  show some (arrV _ _ _) = some (arrV _ (up1 (mL μ) (mN μ) n (mN μ)) _)
  rw [up1_s]
  congr 2
  funext q
  show Value.int 0 = Value.int (up1 (mA μ) (mN μ) (fun _ => 0) (mN μ) q)
  rw [up1_s]
theorem Rl.atO {H : Heap} {a : Nat} (R : Rl E μ H) (hk : mK μ a = 19) : H[a]? = some (arrV (xC E 7) (mL μ a) (fun j => va_rf (mO μ a j))) := R.at (cell_O (k := 3) hk (by decide)) 0 _ rfl
theorem Rl.setO {U : State} {a i r : Nat} {cell : Cell} (R : Rl E μ U.heap) (hk : mK μ a = 19) (hc : U.heap[a]? = some cell) : Rl E (sO μ a i (some r)) (U.setCell a (cell.setSlot i (.ref r))).heap := by
  have ec : cell = arrV (xC E 7) (mL μ a) (fun j => va_rf (mO μ a j)) := Option.some.inj (hc.symm.trans (R.atO hk))
  subst ec
  have hlt : a < U.heap.size := (Array.getElem?_eq_some_iff.mp hc).1
  refine R.put (size_setCell _ _ _) (fun q hq => heapAt_setCell_ne _ (Ne.symm hq)) rfl rfl (fun b hb => cell_sO hb) (cell_O (k := 3) (show mK (sO μ a i (some r)) a = 3 + 16 from hk) (by decide)) (R.lo (cell_O (k := 3) hk (by decide))) ?_
  show (U.setCell a _).heap[a]? = some (vp_cell _ _)
  rw [heapAt_setCell_self _ hlt, vp_cell_q, arrV_store]
  congr 2
  funext q
  show updV _ _ _ _ = va_rf (up2 (mO μ) a i (some r) a q)
  by_cases hq : q = i
  · simp [updV, up2, hq, va_rf]
  · simp [updV, up2, hq]
/-- one inner row more -/
def tS (a : Nat) (c1 : ClassId) (k i : Nat) (V : State) : State := (V.pushCell { cls := c1, slots := Array.replicate k (.int 0), vm := .none }).setCell a (((V.heap[a]?).getD { cls := c1, slots := #[], vm := .none }).setSlot i (.ref V.heap.size))
def tM (U : State) (c7 c1 : ClassId) (n k : Nat) : Nat → State
  | 0 => U.pushCell { cls := c7, slots := Array.replicate n .null, vm := .none }
  | i + 1 => tS U.heap.size c1 k i (tM U c7 c1 n k i)
theorem tM_top (U : State) (f : JFrame) (c7 c1 : ClassId) (n k : Nat) : ∀ i, tM (U.setTop f) c7 c1 n k i = (tM U c7 c1 n k i).setTop f
  | 0 => rfl
  | i + 1 => by
    show tS (U.setTop f).heap.size c1 k i (tM (U.setTop f) c7 c1 n k i) = _
    rw [tM_top U f c7 c1 n k i]
    simp only [tM, tS, State.heap_setTop, State.pushCell_setTop, State.setCell_setTop]
theorem tM_facts {U : State} (R : Rl E μ U.heap) (n k : Nat) : ∀ i, Rl E (sM μ n k i) (tM U (xC E 7) (xC E 1) n k i).heap ∧ (tM U (xC E 7) (xC E 1) n k i).vm = U.vm ∧ (tM U (xC E 7) (xC E 1) n k i).slotsUsed = U.slotsUsed + n + i * k
  | 0 => ⟨R.pushO n, rfl, by simp [tM]⟩
  | i + 1 => by
    obtain ⟨h1, h2, h3⟩ := tM_facts R n k i
    have hz : (tM U (xC E 7) (xC E 1) n k i).heap.size = mN μ + 1 + i := by rw [← h1.1, sM_N]
    have hU : U.heap.size = mN μ := R.1.symm
    have hc := h1.atO (sM_K μ n k i).1
    have hlt : mN μ < (tM U (xC E 7) (xC E 1) n k i).heap.size := by rw [hz]; omega
    refine ⟨?_, ?_, ?_⟩
    · show Rl E (sO (sN (sM μ n k i) 13 k) (mN μ) i (some (mN μ + 1 + i))) (tS U.heap.size (xC E 1) k i (tM U (xC E 7) (xC E 1) n k i)).heap
      unfold tS
      rw [hU, hz, hc]
      have h4 : Rl E (sN (sM μ n k i) 13 k) ((tM U (xC E 7) (xC E 1) n k i).pushCell { cls := xC E 1, slots := Array.replicate k (.int 0), vm := .none }).heap := h1.pushA k
      refine h4.setO ?_ ?_
      · show up1 (mK (sM μ n k i)) (mN (sM μ n k i)) 13 (mN μ) = 19
        rw [up1_n (by rw [sM_N]; omega)]; exact (sM_K μ n k i).1
      · rw [State.heap_pushCell_of_lt (h := hlt)]; exact hc
    · show (tM U (xC E 7) (xC E 1) n k i).vm = U.vm
      exact h2
    · show ((tM U (xC E 7) (xC E 1) n k i).pushCell { cls := xC E 1, slots := Array.replicate k (.int 0), vm := .none }).slotsUsed = _
      simp [h3, Nat.succ_mul]; omega
theorem tM_size {U : State} (R : Rl E μ U.heap) (n k i : Nat) : (tM U (xC E 7) (xC E 1) n k i).heap.size = U.heap.size + 1 + i := by
  rw [← (tM_facts R n k i).1.1, sM_N, R.1]
theorem tM_out {U : State} (R : Rl E μ U.heap) (n k i : Nat) : ∃ f, (tM U (xC E 7) (xC E 1) n k i).heap[U.heap.size]? = some (arrV (xC E 7) n f) := by
  have h := (tM_facts R n k i).1.atO (sM_K μ n k i).1
  rw [(sM_K μ n k i).2, R.1] at h
  exact ⟨_, h⟩
theorem tM_stand {p : Program} {l : Launch} {e : Env} {Rm : Room} {s : State} {m : MethodId} {args : Array Value} {below : List Frame} {meth : Method} {c : Code} {T : State} {locs : List Loc} {cells slots : Nat}
    (X : Stand p l e Rm s m args below meth c T locs cells slots) (R : Rl E μ T.heap) (n k : Nat) : ∀ i, ∃ L : List Loc, (∀ q ∈ L, q.base = T.heap.size) ∧ Stand p l e Rm s m args below meth c (tM T (xC E 7) (xC E 1) n k i) (locs ++ L) (cells + 1 + i) (slots + n + i * k)
  | 0 => by
    refine ⟨[], (fun q h => by cases h), ?_⟩
    have h := X.pushed { cls := xC E 7, slots := Array.replicate n .null, vm := .none }
    simpa [tM] using h
  | i + 1 => by
    obtain ⟨L, hL, Xi⟩ := tM_stand X R n k i
    obtain ⟨f, hf⟩ := tM_out R n k i
    have hlt : T.heap.size < (tM T (xC E 7) (xC E 1) n k i).heap.size := by rw [tM_size R]; omega
    have hcell : ((tM T (xC E 7) (xC E 1) n k i).pushCell { cls := xC E 1, slots := Array.replicate k (.int 0), vm := .none }).heap[T.heap.size]? = some (arrV (xC E 7) n f) := by rw [State.heap_pushCell_of_lt (h := hlt)]; exact hf
    have h := (Xi.pushed { cls := xC E 1, slots := Array.replicate k (.int 0), vm := .none }).stored hcell i (.ref (tM T (xC E 7) (xC E 1) n k i).heap.size)
    refine ⟨L ++ [⟨T.heap.size, i⟩], ?_, ?_⟩
    · intro q hq
      rcases List.mem_append.mp hq with h1 | h1
      · exact hL q h1
      · rw [List.mem_singleton.mp h1]
    · have e1 : tM T (xC E 7) (xC E 1) n k (i + 1) = ((tM T (xC E 7) (xC E 1) n k i).pushCell { cls := xC E 1, slots := Array.replicate k (.int 0), vm := .none }).setCell T.heap.size ((arrV (xC E 7) n f).setSlot i (.ref (tM T (xC E 7) (xC E 1) n k i).heap.size)) := by
        show tS T.heap.size (xC E 1) k i (tM T (xC E 7) (xC E 1) n k i) = _
        unfold tS
        rw [hf]
        rfl
      have e2 : (Array.replicate k (Value.int 0)).size = k := by simp
      have e3 : slots + n + (i + 1) * k = slots + n + i * k + k := by rw [Nat.succ_mul]; omega
      rw [e1, e3, ← List.append_assoc]
      rw [e2] at h
      exact h
/-- the model's own making -/
theorem y_make {CP : CtlPost} {e : Env} {d : Bool} {acts : List Action} {S : State} {k7 k1 : Class} {cc : ClassId} {N K' : Nat} (R : Rl E μ S.heap) (hk7 : S.vm.classes[xC E 7]? = some k7) (hkind7 : k7.kind = .array (xC E 1) (.array .int)) (hk1 : S.vm.classes[xC E 1]? = some k1) (hkind1 : k1.kind = .array cc .int)
    (hN : N < 100000) (hK : K' < 100000) (hl1 : ¬ N > e.platform.arrayLengthLimit) (hh1 : ¬ N * 4 > e.platform.maxHeapBytes) (hl2 : ¬ K' > e.platform.arrayLengthLimit) (hh2 : ¬ K' * 4 > e.platform.maxHeapBytes)
    (hc : S.heap.size + 1 + N ≤ e.platform.maxCells) (hs : S.slotsUsed + N + N * K' ≤ e.platform.maxSlots)
    {Qp : Addr → Pre} (hq : ∀ d' acts', Qp S.heap.size d' acts' (tM S (xC E 7) (xC E 1) N K' N)) : wp (multianewarray.make (xC E 7) [nI N, nI K']) Qp CP e d acts S := by
  have hn0 : ¬ nI N < 0 := nI_pos (by omega)
  have hm0 : ¬ nI K' < 0 := nI_pos (by omega)
  have en : (nI N).toNatClampNeg = N := nI_clamp (by omega)
  have em : (nI K').toNatClampNeg = K' := nI_clamp (by omega)
  have hfind : ([nI K'].find? (· < 0)) = none := by simp [hm0]
  rw [multianewarray.make]
  simp only [wp_bind', W.ite, hn0, if_false, wp_pure', W.theClass, hk7, hkind7, Option.some.injEq, exists_eq_left', en]
  refine W.newArray_of hk7 hkind7 hl1 hh1 (by omega) (by have := Nat.zero_le (N * K'); omega) rfl (fun acts1 => ?_)
  simp only [hfind]
  rw [ite_self, wp_bind', Std.Legacy.Range.forIn_eq_forIn_range']
  have hsz : ([:N] : Std.Legacy.Range).size = N := by simp [Std.Legacy.Range.size]
  rw [hsz]
  show wp (forIn (List.range' 0 N 1) PUnit.unit _) _ CP e d acts1 _
  refine wp_forIn_inv (fun rest s' => ∃ i, i ≤ N ∧ rest = List.range' i (N - i) ∧ s' = tM S (xC E 7) (xC E 1) N K' i) _ _ ⟨0, Nat.zero_le _, rfl, rfl⟩ ?_ ?_
  · rintro x rest s' d' acts' Q' ⟨i, hi, hl, rfl⟩ hnext
    have hlt : i < N := by
      rcases Nat.lt_or_ge i N with h | h
      · exact h
      · rw [show N - i = 0 from by omega] at hl; simp at hl
    rw [show N - i = (N - (i + 1)) + 1 from by omega, List.range'_succ] at hl
    obtain ⟨rfl, hrest⟩ := List.cons.inj hl
    obtain ⟨f1, f2, f3⟩ := tM_facts R N K' x
    have fz := tM_size R N K' x
    obtain ⟨fo, ho⟩ := tM_out R N K' x
    have hmul : x * K' + K' ≤ N * K' := by
      have := Nat.mul_le_mul_right K' (show x + 1 ≤ N from hlt)
      rw [Nat.succ_mul] at this; exact this
    have hlt0 : S.heap.size < (tM S (xC E 7) (xC E 1) N K' x).heap.size := by rw [fz]; omega
    simp only [wp_bind']
    rw [multianewarray.make]
    simp only [wp_bind', W.ite, hm0, if_false, wp_pure', W.theClass, f2, hk1, hkind1, Option.some.injEq, exists_eq_left', em]
    refine W.newArray_of (by rw [f2]; exact hk1) hkind1 hl2 hh2 (by rw [fz]; omega) (by rw [f3]; omega) rfl (fun acts2 => ?_)
    simp only [wp_bind', W.writeLoc, wp_pure']
    refine ⟨arrV (xC E 7) N fo, by rw [State.heap_pushCell_of_lt (h := hlt0)]; exact ho, (fun h => by cases h), by rw [arrV_size]; exact hlt, ?_, hnext _ _ _ ⟨x + 1, hlt, hrest, ?_⟩⟩
    · show State.fitsSlot _ (xC E 7) .none x _ = true
      simp [State.fitsSlot, State.slotType?, f2, hk7, hkind7, fits]
    · show _ = tS S.heap.size (xC E 1) K' x (tM S (xC E 7) (xC E 1) N K' x)
      unfold tS
      rw [ho]
      rfl
  · rintro s' d' acts' ⟨i, hi, hl, rfl⟩
    have hiN : i = N := by
      rcases Nat.lt_or_ge i N with h | h
      · rw [show N - i = (N - (i + 1)) + 1 from by omega, List.range'_succ] at hl; cases hl
      · omega
    subst hiN
    simp only [wp_pure']
    exact hq _ _
theorem e_mna {idx N K' : Nat} {i j : Int32} (n : Nat) (hp : pc + 4 = n) (hd : decode M.2.1 pc = .ok (.multianewarray idx 2, 4)) (hw : Cond.classLink M.1.cls idx "[[I" ∈ wtab) (hA : ∀ U : State, xP E U → AI (xC E 7) (xC E 1) U) (hi : i = nI N) (hj : j = nI K') (hN : N < 100000) (hK' : K' < 100000) (kk : Ev E M kc ks n ls (.ref (mN μ) :: st) (sM μ N K' N) Q) : Ev E M (kc + (1 + N)) (ks + (N + N * K')) pc ls (.int j :: .int i :: st) μ Q := by
  subst hp; subst hi; subst hj
  refine Ev.alloc (μ' := sM μ N K' N) (fun p e s m args below meth c H locs cells slots lsA Z C R hcl hsl k2 => ?_) kk
  intro T hT X
  subst hT
  have hts := C.2.2.2.2.1
  have hSt := C.2.2.2.2.2.1
  obtain ⟨⟨k7, hk7, hkind7⟩, k1, cc, hk1, hkind1⟩ := hA s hSt.2.2.2
  have hf7 : s.vm.findClass "[[I" = some (xC E 7) := (hSt.1.2 7 _ rfl).2
  have hpl : e.platform.magicAccessors = ({} : Platform).magicAccessors := by rw [X.admits.platform]
  obtain ⟨c0, hfc0, hcl0⟩ := Cond.classLink_spec C.2.2.2.1 (hts _ hw) e.platform hpl
  have ec : c0 = xC E 7 := Option.some.inj (hfc0.symm.trans hf7)
  subst ec
  obtain ⟨hg1, hwarm, hready⟩ := State.classEntry (e := e) X.warmed hcl0
  generalize T.vm.noted m.cls idx (.cls (xC E 7)) = vm1 at hg1 hwarm hready
  have hal : s.vm.Alike vm1 := hwarm.alike
  obtain ⟨k7', hk7', he7⟩ := hal.2.2 _ _ hk7
  obtain ⟨k1', hk1', he1⟩ := hal.2.2 _ _ hk1
  have hkind7' : k7'.kind = .array (xC E 1) (.array .int) := by rw [he7]; exact hkind7
  have hkind1' : k1'.kind = .array cc .int := by rw [he1]; exact hkind1
  have X1 := X.noted hwarm
  have R1 : Rl E μ (T.setVm vm1).heap := R
  obtain ⟨hr1, hr2⟩ := X.roomAbove hcl hsl
  obtain ⟨L, hLb, XF⟩ := tM_stand X1 R1 N K' N
  have XF' := XF.dropFresh (fun q hq => by rw [hLb q hq]; exact X.heapGrown)
  have hRF := (tM_facts R1 N K' N).1
  obtain ⟨t, a1, b1⟩ := k2 _ hRF (tM (T.setVm vm1) (xC E 7) (xC E 1) N K' N) rfl (by simpa [Nat.add_assoc] using XF')
  refine ⟨t, ?_, b1⟩
  have hl1 : ¬ N > e.platform.arrayLengthLimit := by rw [Launch.admits_arrayLengthLimit X.admits]; omega
  have hh1 : ¬ N * 4 > e.platform.maxHeapBytes := by rw [Launch.admits_maxHeapBytes X.admits]; omega
  have hl2 : ¬ K' > e.platform.arrayLengthLimit := by rw [Launch.admits_arrayLengthLimit X.admits]; omega
  have hh2 : ¬ K' * 4 > e.platform.maxHeapBytes := by rw [Launch.admits_maxHeapBytes X.admits]; omega
  have hd' : decode c.code pc = .ok (.multianewarray idx 2, 4) := by rw [C.2.1]; exact hd
  show Steps p.tables e below (T.setTop (F0 m pc lsA (.int (nI K') :: .int (nI N) :: st))) t
  generalize hg : F0 m pc lsA (.int (nI K') :: .int (nI N) :: st) = g
  have gpc : g.pc = pc := by rw [← hg]
  have gst : g.stack = .int (nI K') :: .int (nI N) :: st := by rw [← hg]
  have gm : g.method = m := by rw [← hg]
  have gg : F0 m (pc + 4) lsA (.ref (mN μ) :: st) = { g with pc := g.pc + 4, stack := .ref T.heap.size :: st } := by rw [← hg, R.1]
  rw [gg] at a1
  subst gm
  rw [← gpc] at hd'
  jvm_step X.here [C.1, hd']
  simp only [multianewarray.sem, wp_bind', W.resolveClassAt_links (State.method?_setTop g X.here.top) hg1]
  rw [W.popN, if_neg (by decide)]
  refine ⟨g, State.topJava?_setTop' (s := T.setVm vm1) g X.here.top, [.int (nI N), .int (nI K')], st, rfl, gst, ?_⟩
  simp only [List.mapM_cons, List.mapM_nil, wp_bind', wp_pure']
  have eS : ((T.setTop g).setVm vm1).setTop { g with stack := st } = (T.setVm vm1).setTop { g with stack := st } := by
    show ((T.setVm vm1).setTop g).setTop _ = _
    rw [State.setTop_setTop]
  rw [eS]
  refine y_make (E := E) (μ := μ) (S := (T.setVm vm1).setTop { g with stack := st }) (k7 := k7') (k1 := k1') (cc := cc) R hk7' hkind7' hk1' hkind1' hN hK' hl1 hh1 hl2 hh2 (by show T.heap.size + 1 + N ≤ _; omega) (by show T.slotsUsed + N + _ ≤ _; omega) (fun d' acts' => ?_)
  rw [tM_top]
  simp only [wp_bind', W.mark, W.pushRef, State.topJava?_setTop' _ XF.here.top, Option.some.injEq, exists_eq_left', State.setTop_setTop, State.heap_setTop]
  intro acts
  simp [jvm, XF.here.top]
  exact a1
theorem e_mnaB {idx N K' kc' ks' : Nat} {i j : Int32} (kc ks : Nat) (n : Nat) (hp : pc + 4 = n) (hd : decode M.2.1 pc = .ok (.multianewarray idx 2, 4)) (hw : Cond.classLink M.1.cls idx "[[I" ∈ wtab) (hA : ∀ U : State, xP E U → AI (xC E 7) (xC E 1) U) (hi : i = nI N) (hj : j = nI K') (hN : N < 100000) (hK' : K' < 100000) (hc : kc + (1 + N) = kc') (hs : ks + (N + N * K') = ks') (kk : Ev E M kc ks n ls (.ref (mN μ) :: st) (sM μ N K' N) Q) : Ev E M kc' ks' pc ls (.int j :: .int i :: st) μ Q := by subst hc; subst hs; exact e_mna n hp hd hw hA hi hj hN hK' kk
/-- eight rows of k -/
def GA (μ : Mm) (a k : Nat) : Prop := mK μ a = 19 ∧ mL μ a = 8 ∧ ∀ w, w < 8 → mO μ a w = some (a + 1 + w) ∧ mK μ (a + 1 + w) = 13 ∧ mL μ (a + 1 + w) = k
theorem GA.sm {μ' : Mm} {a k : Nat} (h : GA μ a k) (s : ∀ q, a ≤ q → q < a + 9 → same q μ μ') : GA μ' a k := by
  obtain ⟨h1, h2, h3⟩ := h
  have sa := s a (by omega) (by omega)
  refine ⟨by rw [sa.1]; exact h1, by rw [sa.2.1]; exact h2, fun w hw => ?_⟩
  have sw := s (a + 1 + w) (by omega) (by omega)
  rw [sa.2.2.2.2.2.2.2, sw.1, sw.2.1]
  exact h3 w hw
theorem GA.of {a k : Nat} (hn : mN μ = a) : GA (sM μ 8 k 8) a k := by
  subst hn
  exact ⟨(sM_K μ 8 k 8).1, (sM_K μ 8 k 8).2, fun w hw => sM_in μ 8 k 8 w hw⟩
end MNA
section READER
variable {E : En}
theorem cl_X3_22 : Cond.classLink RX3 22 "[[I" ∈ wtab := wt 253 (by decide +kernel) rfl
theorem i_reader (hA : ∀ U : State, xP E U → AI (xC E 7) (xC E 1) U) : IRd E := by
  intro K ν μ0 t o0 k
  obtain ⟨h1, h2, h3, h4, -, h6⟩ := o0
  have hn0 : mN μ0 = t + 1 := h1
  refine Cl.of (nn := 0) pn_X3 (Nat.le_of_ble_eq_true rfl) rfl ?_
  refine e_al0 1 rfl dX3_init_0 ?_
  refine e_obj 4 rfl dX3_init_1 k_X3_3 (Nat.le_of_ble_eq_true rfl) (Nat.le_of_ble_eq_true rfl) ?_
  refine e_al0 5 rfl dX3_init_4 ?_
  refine e_newB 29 13106 8 rfl dX3_init_5 nc_X3_9 rfl rfl ?_
  refine e_dup 9 rfl dX3_init_8 rfl ?_
  refine e_invINB [] 21 13047 12 rfl dX3_init_9 k_X3_11 mo_X4_init rm_X3_init_X4_init rfl rfl rfl rfl (Nat.le_of_ble_eq_true rfl) ?_
  refine i_shape Ob.start (fun μa oba => ?_)
  have hna : mN μa = t + 10 := by rw [oba.1, hn0]; rfl
  have hsa : ∀ q, q < t + 1 → same q μ0 μa := fun q hq => (sN_same (by rw [hn0]; omega)).trans (oba.2.2.2.2.2 q (by rw [hn0]; exact hq))
  rw [hn0]
  have gka : mK μa t = 4 := by rw [(hsa t (by omega)).1]; exact h2
  refine e_putR 15 rfl dX3_init_12 f_X3_12 (by assumption) rfl rfl (fun h => by cases h) ?_
  have gkb : mK (sP μa t 0 (some (t + 1))) t = 4 := gka
  refine e_al0 16 rfl dX3_init_15 ?_
  refine e_iconst (nI 0) 17 rfl dX3_init_16 ic_0 ?_
  refine e_putI 20 rfl dX3_init_17 f_X3_18 (by assumption) ?_
  have hnb : mN (sF (sP μa t 0 (some (t + 1))) t 1 (nI 0)) = t + 10 := hna
  have hkb : mK (sF (sP μa t 0 (some (t + 1))) t 1 (nI 0)) t = 4 := gka
  have hsb : ∀ q, q < t → same q ν (sF (sP μa t 0 (some (t + 1))) t 1 (nI 0)) := fun q hq => (((h6 q hq).trans (hsa q (by omega))).trans (sP_same (by omega))).trans (sF_same (by omega))
  generalize sF (sP μa t 0 (some (t + 1))) t 1 (nI 0) = μb at hnb hkb hsb ⊢
  clear gka gkb hsa hna oba h1 h2 h3 h4 h6 hn0
  refine e_al0 21 rfl dX3_init_20 ?_
  refine e_bipush (nI 8) 23 rfl dX3_init_21 bc_8 ?_
  refine e_bipush (nI 7) 25 rfl dX3_init_23 bc_7 ?_
  refine e_mnaB 12 12983 29 rfl dX3_init_25 cl_X3_22 hA rfl rfl (by decide) (by decide) rfl rfl ?_
  have gk1 : mK (sM μb 8 7 8) t = 4 := by rw [(sM_same μb 8 7 (show t < mN μb by omega) 8).1]; exact hkb
  refine e_putR 32 rfl dX3_init_29 f_X3_24 (by assumption) rfl rfl (fun _ => ⟨rfl, rfl⟩) ?_
  rw [hnb]
  have hnc : mN (sP (sM μb 8 7 8) t 2 (some (t + 10))) = t + 19 := by
    show mN (sM μb 8 7 8) = _
    rw [sM_N, hnb]
  have hkc : mK (sP (sM μb 8 7 8) t 2 (some (t + 10))) t = 4 := gk1
  have hpc : mP (sP (sM μb 8 7 8) t 2 (some (t + 10))) t 2 = some (t + 10) := up2_s
  have hgc : GA (sP (sM μb 8 7 8) t 2 (some (t + 10))) (t + 10) 7 := (GA.of hnb).sm (fun q h1 h2 => sP_same (by omega))
  have hsc : ∀ q, q < t → same q ν (sP (sM μb 8 7 8) t 2 (some (t + 10))) := fun q hq => ((hsb q hq).trans (sM_same μb 8 7 (by omega) 8)).trans (sP_same (by omega))
  generalize sP (sM μb 8 7 8) t 2 (some (t + 10)) = μc at hnc hkc hpc hgc hsc ⊢
  clear gk1 hnb hkb hsb
  refine e_al0 33 rfl dX3_init_32 ?_
  refine e_bipush (nI 8) 35 rfl dX3_init_33 bc_8 ?_
  refine e_bipush (nI 8) 37 rfl dX3_init_35 bc_8 ?_
  refine e_mnaB 3 12911 41 rfl dX3_init_37 cl_X3_22 hA rfl rfl (by decide) (by decide) rfl rfl ?_
  have st2 := sM_same μc 8 8 (show t < mN μc by omega) 8
  have gk1 : mK (sM μc 8 8 8) t = 4 := by rw [st2.1]; exact hkc
  refine e_putR 44 rfl dX3_init_41 f_X3_27 (by assumption) rfl rfl (fun _ => ⟨rfl, rfl⟩) ?_
  rw [hnc]
  have hnd : mN (sP (sM μc 8 8 8) t 3 (some (t + 19))) = t + 28 := by
    show mN (sM μc 8 8 8) = _
    rw [sM_N, hnc]
  have hkd : mK (sP (sM μc 8 8 8) t 3 (some (t + 19))) t = 4 := gk1
  have hpd : mP (sP (sM μc 8 8 8) t 3 (some (t + 19))) t 2 = some (t + 10) ∧ mP (sP (sM μc 8 8 8) t 3 (some (t + 19))) t 3 = some (t + 19) := by
    refine ⟨?_, up2_s⟩
    show up2 _ t 3 _ t 2 = _
    rw [up2_k (by decide), st2.2.2.2.2.2.2.1]; exact hpc
  have hgd : GA (sP (sM μc 8 8 8) t 3 (some (t + 19))) (t + 10) 7 := hgc.sm (fun q h1 h2 => (sM_same μc 8 8 (by omega) 8).trans (sP_same (by omega)))
  have hgd2 : GA (sP (sM μc 8 8 8) t 3 (some (t + 19))) (t + 19) 8 := (GA.of hnc).sm (fun q h1 h2 => sP_same (by omega))
  have hsd : ∀ q, q < t → same q ν (sP (sM μc 8 8 8) t 3 (some (t + 19))) := fun q hq => ((hsc q hq).trans (sM_same μc 8 8 (by omega) 8)).trans (sP_same (by omega))
  generalize sP (sM μc 8 8 8) t 3 (some (t + 19)) = μd at hnd hkd hpd hgd hgd2 hsd ⊢
  clear gk1 st2 hnc hkc hpc hgc hsc
  refine e_al0 45 rfl dX3_init_44 ?_
  refine e_sipush (nI 6435) 48 rfl dX3_init_45 sc_6435 ?_
  refine e_newaB 2 6476 50 rfl dX3_init_48 (Or.inr (Or.inr (Or.inl ⟨rfl, rfl⟩))) ac_long rfl (by decide) rfl rfl ?_
  have st3 : same t μd (sN μd 14 6435) := sN_same (by omega)
  have gk1 : mK (sN μd 14 6435) t = 4 := by rw [st3.1]; exact hkd
  refine e_putR 53 rfl dX3_init_50 f_X3_30 (by assumption) rfl rfl (fun h => by cases h) ?_
  rw [hnd]
  have s4 : ∀ q, q < t + 28 → q ≠ t → same q μd (sP (sN μd 14 6435) t 4 (some (t + 28))) := fun q h h' => (sN_same (by omega)).trans (sP_same h')
  have hne : mN (sP (sN μd 14 6435) t 4 (some (t + 28))) = t + 29 := by
    show mN μd + 1 = _
    rw [hnd]
  have hke : mK (sP (sN μd 14 6435) t 4 (some (t + 28))) t = 4 := gk1
  have hpe : ∀ f, mP (sP (sN μd 14 6435) t 4 (some (t + 28))) t f = if f = 4 then some (t + 28) else mP μd t f := fun f => by
    show up2 _ t 4 _ t f = _
    by_cases c : f = 4
    · rw [c, up2_s, if_pos rfl]
    · rw [up2_k c, if_neg c, st3.2.2.2.2.2.2.1]
  have hce : cell0 (sP (sN μd 14 6435) t 4 (some (t + 28))) (t + 28) 14 6435 := by
    have := (sN_cell (μ := μd) (k := 14) (l := 6435)).of (sP_same (a := t) (f := 4) (v := some (t + 28)) (by omega))
    rw [hnd] at this
    exact this
  generalize sP (sN μd 14 6435) t 4 (some (t + 28)) = μe at s4 hne hke hpe hce ⊢
  clear gk1 st3
  refine e_al0 54 rfl dX3_init_53 ?_
  refine e_sipush (nI 6435) 57 rfl dX3_init_54 sc_6435 ?_
  refine e_newaB 1 41 59 rfl dX3_init_57 (Or.inr (Or.inr (Or.inl ⟨rfl, rfl⟩))) ac_long rfl (by decide) rfl rfl ?_
  have st3 : same t μe (sN μe 14 6435) := sN_same (by omega)
  have gk1 : mK (sN μe 14 6435) t = 4 := by rw [st3.1]; exact hke
  refine e_putR 62 rfl dX3_init_59 f_X3_34 (by assumption) rfl rfl (fun h => by cases h) ?_
  rw [hne]
  have gk2 : mK (sP (sN μe 14 6435) t 5 (some (t + 29))) t = 4 := gk1
  refine e_al0 63 rfl dX3_init_62 ?_
  refine e_iconst (nI 0) 64 rfl dX3_init_63 ic_0 ?_
  refine e_putI 67 rfl dX3_init_64 f_X3_37 (by assumption) ?_
  have s5 : ∀ q, q < t + 29 → q ≠ t → same q μe (sF (sP (sN μe 14 6435) t 5 (some (t + 29))) t 6 (nI 0)) := fun q h h' => ((sN_same (by omega)).trans (sP_same h')).trans (sF_same h')
  have hnf : mN (sF (sP (sN μe 14 6435) t 5 (some (t + 29))) t 6 (nI 0)) = t + 30 := by
    show mN μe + 1 = _
    rw [hne]
  have hkf : mK (sF (sP (sN μe 14 6435) t 5 (some (t + 29))) t 6 (nI 0)) t = 4 := gk1
  have hpf : ∀ f, mP (sF (sP (sN μe 14 6435) t 5 (some (t + 29))) t 6 (nI 0)) t f = if f = 5 then some (t + 29) else mP μe t f := fun f => by
    show up2 _ t 5 _ t f = _
    by_cases c : f = 5
    · rw [c, up2_s, if_pos rfl]
    · rw [up2_k c, if_neg c, st3.2.2.2.2.2.2.1]
  have hcf : cell0 (sF (sP (sN μe 14 6435) t 5 (some (t + 29))) t 6 (nI 0)) (t + 29) 14 6435 := by
    have := ((sN_cell (μ := μe) (k := 14) (l := 6435)).of (sP_same (a := t) (f := 5) (v := some (t + 29)) (by omega))).of (sF_same (a := t) (f := 6) (v := nI 0) (by omega))
    rw [hne] at this
    exact this
  generalize sF (sP (sN μe 14 6435) t 5 (some (t + 29))) t 6 (nI 0) = μf at s5 hnf hkf hpf hcf ⊢
  clear gk1 gk2 st3
  refine e_al0 68 rfl dX3_init_67 ?_
  refine e_bipush (nI 41) 70 rfl dX3_init_68 bc_41 ?_
  refine e_newaB 0 0 72 rfl dX3_init_70 (Or.inr (Or.inl ⟨rfl, rfl⟩)) ac_int rfl (by decide) rfl rfl ?_
  have st3 : same t μf (sN μf 13 41) := sN_same (by omega)
  have gk1 : mK (sN μf 13 41) t = 4 := by rw [st3.1]; exact hkf
  refine e_putR 75 rfl dX3_init_72 f_X3_40 (by assumption) rfl rfl (fun _ => ⟨rfl, rfl⟩) ?_
  rw [hnf]
  have s6 : ∀ q, q < t + 30 → q ≠ t → same q μf (sP (sN μf 13 41) t 7 (some (t + 30))) := fun q h h' => (sN_same (by omega)).trans (sP_same h')
  have hng : mN (sP (sN μf 13 41) t 7 (some (t + 30))) = t + 31 := by
    show mN μf + 1 = _
    rw [hnf]
  have hkg : mK (sP (sN μf 13 41) t 7 (some (t + 30))) t = 4 := gk1
  have hpg : ∀ f, mP (sP (sN μf 13 41) t 7 (some (t + 30))) t f = if f = 7 then some (t + 30) else mP μf t f := fun f => by
    show up2 _ t 7 _ t f = _
    by_cases c : f = 7
    · rw [c, up2_s, if_pos rfl]
    · rw [up2_k c, if_neg c, st3.2.2.2.2.2.2.1]
  have hcg : cell0 (sP (sN μf 13 41) t 7 (some (t + 30))) (t + 30) 13 41 := by
    have := (sN_cell (μ := μf) (k := 13) (l := 41)).of (sP_same (a := t) (f := 7) (v := some (t + 30)) (by omega))
    rw [hnf] at this
    exact this
  generalize sP (sN μf 13 41) t 7 (some (t + 30)) = μg at s6 hng hkg hpg hcg ⊢
  clear gk1 st3
  refine e_ret dX3_init_75 rfl ?_
  have sdg : ∀ q, q < t + 28 → q ≠ t → same q μd μg := fun q h h' => ((s4 q h h').trans (s5 q (by omega) h')).trans (s6 q (by omega) h')
  have ga := hgd.sm (fun q h1 h2 => sdg q (by omega) (by omega))
  have gb := hgd2.sm (fun q h1 h2 => sdg q (by omega) (by omega))
  have ce := (hce.of (s5 (t + 28) (by omega) (by omega))).of (s6 (t + 28) (by omega) (by omega))
  have cf := hcf.of (s6 (t + 29) (by omega) (by omega))
  have p2 : mP μg t 2 = some (t + 10) := by rw [hpg, hpf, hpe]; exact hpd.1
  have p3 : mP μg t 3 = some (t + 19) := by rw [hpg, hpf, hpe]; exact hpd.2
  have p4 : mP μg t 4 = some (t + 28) := by rw [hpg, hpf, hpe]; rfl
  have p5 : mP μg t 5 = some (t + 29) := by rw [hpg, hpf]; rfl
  have p7 : mP μg t 7 = some (t + 30) := by rw [hpg]; rfl
  refine k μg hng ⟨⟨hkg, p2, p3, p7, ga.1, ga.2.1, gb.1, gb.2.1, ce.1, ce.2.1, cf.1, cf.2.1, hcg.1, hcg.2.1⟩, fun w hw => ⟨ga.2.2 w hw, gb.2.2 w hw⟩⟩ ⟨t + 28, t + 29, p4, p5, Or.inl ⟨rfl, rfl⟩⟩ (fun q hq => (hsd q hq).trans (sdg q (by omega) (by omega)))
end READER
