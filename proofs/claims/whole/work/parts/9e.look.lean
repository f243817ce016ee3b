/-! look's throws -/
section LOOKX
variable {E : En} {μ : Mm} {K : Option Value → Mm → Prop}
/-- cells that nobody names lie behind the memory -/
def sX (μ : Mm) (n : Nat) : Mm := (n, μ.2)
theorem Rl.x {H H' : Heap} (R : Rl E μ H) (hz : H.size ≤ H'.size) (ho : ∀ q, q < H.size → H'[q]? = H[q]?) : Rl E (sX μ H'.size) H' := by
  obtain ⟨h1, h2, h3, h4, h5⟩ := R
  refine ⟨rfl, Nat.le_trans h2 (by rw [h1]; exact hz), fun q hq => ?_, fun a ha => h4 a ?_, fun a e he => ?_⟩
  · rw [ho q (by omega)]; exact h3 q hq
  · have ha' : H'.size ≤ a := ha
    omega
  · have ec : cellOf E (sX μ H'.size) a = cellOf E μ a := cell_congr rfl rfl rfl rfl rfl rfl rfl rfl
    rw [ec] at he
    have h6 := h5 a e he
    exact ⟨h6.1, h6.2.kept (ho a h6.2.lt)⟩
/-- what a throw needs of what lies below the system, and of the tables -/
def lowX (E : En) (U : State) : Prop := vx_Zq Bundle.tN "UNASSIGNED_STACK" Bundle.steD (aE E) U (xH E) ∧ vx_Zq Bundle.tN "SUPPRESSED_SENTINEL" Bundle.listD (aE E) U (xH E) ∧ (∃ q, vk_R RX9 175 "no such NAME" q U) ∧ (∃ q, vk_R RX9 201 "no such what" q U) ∧ (∀ w ∈ badW, va_Nw w U) ∧ va_Nc NSX IOX U
theorem lowX.warm {s U : State} (hW : s.WarmedH U.vm) (h : lowX E s) : lowX E U := by
  obtain ⟨h1, h2, ⟨q3, h3⟩, ⟨q4, h4⟩, h5, h6⟩ := h
  refine ⟨h1.moved hW.alike, h2.moved hW.alike, ⟨q3, h3.warm hW⟩, ⟨q4, h4.warm hW⟩, fun w hw => ?_, h6.moved hW.alike⟩
  have hz := h5 w hw
  unfold badW at hw
  simp only [List.mem_cons, List.not_mem_nil, or_false] at hw
  rcases hw with rfl | rfl | rfl | rfl | rfl
  · exact va_Nw.warmC hW hz
  · exact va_Nw.warmC hW hz
  · exact va_Nw.warmD hW hz
  · exact va_Nw.warmD hW hz
  · exact va_Nw.warmD hW hz
/-- a call out of a body that is walked by hand -/
theorem Cl.rawV {M N : Mt} {pc idx ci na b : Nat} {As rest : List Value} {p : Program} {e : Env} {s : State} {m : MethodId} {args : Array Value} {below : List Frame} {meth : Method} {c : Code} {H : Heap} {locs : List Loc} {cells slots : Nat} {lsA : Array Slot} {Z : State → Prop} (hX : XP E) (C : Cx E M p s m args meth c) (R : Rl E μ H) (hsz : lsA.size = M.2.2.1) (hd : decode M.2.1 pc = .ok (.invokevirtual idx, 3)) (hV : LV M.1.cls idx ci N) (hO : MO N na) (hRm : RM M N) (hna : As.length = na) (hk : mK μ b = ci + 1) (hrest : (rest.map fun v => v.category).sum ≤ 8) (hb : cells + N.2.2.2.2.cells ≤ M.2.2.2.2.cells ∧ slots + N.2.2.2.2.slots ≤ M.2.2.2.2.slots) (hC : Cl E N (.ref b :: As) μ K)
    (k : ∀ (r : Option Value) (μ' : Mm) (H' : Heap) (L : List Loc), K r μ' → Rl E μ' H' → (∀ q ∈ L, xo E ≤ q.base) → W p (xl E) e M.2.2.2.2 s m args below meth c H' (locs ++ L) (cells + N.2.2.2.2.cells) (slots + N.2.2.2.2.slots) Z (F0 m (pc + 3) lsA (r.toList ++ rest))) : W p (xl E) e M.2.2.2.2 s m args below meth c H locs cells slots Z (F0 m pc lsA (As.reverse ++ .ref b :: rest)) := by
  obtain ⟨w1, w2, w3, rr, hr1, hr2, hci⟩ := hV
  obtain ⟨o1, o2, o3⟩ := hO
  have hts := C.2.2.2.2.1
  have hcb := callB_of (own := M.1.cls) (index := idx) (R := M.2.2.2.2) na hts (wsM_good o1) rfl rfl rfl (hts _ o2) (hts _ w1) o3 hRm
  have hrun := va_runV (C := N.1.cls) (As := As) (below := below) (e := e) (meth := meth) (locs := locs) (rest := rest) (g := F0 m pc lsA (As.reverse ++ .ref b :: rest)) ⟨C.1, C.2.1, C.2.2.1, C.2.2.2.1, hts⟩ (hC hX) ⟨hcb, hts _ w2, hts _ w3⟩ ⟨pre_blind hX, hr2 ▸ zz_recv C.2.2.2.2.2.1 R hk hci hr1, fun U hU hW => ⟨rfl, by rw [hU]; exact R, St.warm hX hW C.2.2.2.2.2.1⟩⟩ rfl hna hsz rfl (room_ok hrest) hd hb
  intro T hT X
  obtain ⟨v, st₀, t, T', L, h0, X', hL', e1, e2, ⟨r, μ', hv, hK, hR'⟩, stp⟩ := hrun T hT X
  cases hv
  obtain ⟨t2, a1, b1⟩ := k v μ' T'.heap L hK (by rw [e1]; exact hR') hL' T' rfl X'
  exact ⟨t2, stp t2 a1, b1⟩
theorem x_look {d : Nat} {S : Ast} {x n : Int32} (hl : (xl E).stackTraces = false) (hx : ∀ U : State, xP E U → lowX E U) (hW : WF S) (hD : DI d S μ) {cls : String} (hc : (nmx (aN S) x = none ∧ cls = IOX) ∨ (∃ nm, nmx (aN S) x = some nm ∧ (n.toInt < 0 ∨ 5 < n.toInt) ∧ cls = NSX)) :
    XP E → vx_Met (xl E) yX9_look (wsM M_X9_look) M_X9_look.2.2.2.2 (va_Pc [.ref d, .int x, .int n] (fun U => Rl E μ U.heap ∧ St E U)) (fun _ _ _ _ => False) (fun C _ t => C = cls ∧ ∃ n', mN μ ≤ n' ∧ Rl E (sX μ n') t.heap) 1 6 (fun q => xo E ≤ q) := by
  intro hX
  refine vx_ofW (cc := cX9_look) (maxL := 3) (ret := some .int) pn_X9 rfl ?_
  intro p e s m args below meth c s₁ B hml hnt hv
  obtain ⟨rfl, hR, hS⟩ := hv
  have hle := lv_entry [.ref d, .int x, .int n] (n := 3) (Nat.le_of_ble_eq_true rfl)
  rw [lg_entry_eq]
  generalize (lg_sl [Value.ref d, .int x, .int n] ++ List.replicate (3 - (lg_sl [Value.ref d, .int x, .int n]).length) Slot.unset).toArray = lsA at hle ⊢
  have hts := atoms_spec (ws := wsM M_X9_look) B.pre
  have hlocks := B.notSynchronized
  have C : Cx E M_X9_look p s m [Value.ref d, .int x, .int n].toArray meth c := ⟨B.exec, B.bytes, hml, findClass_of_methodNamed B.named, fun w hw => hts w (List.mem_cons_of_mem _ hw), hS, (name_of_methodNamed B.named B.method).1⟩
  have hLs : LsOK lsA 3 [some (.ref d), some (.int x), some (.int n)] := LsOK.of hle (fun i v h => by
    have h4 := ent_args [.ref d, .int x, .int n] 0 i v h
    rwa [Nat.zero_add] at h4)
  have hXs := hx s hS.2.2.2
  have hU : vx_Zq Bundle.tN "UNASSIGNED_STACK" Bundle.steD (aE E) s s.heap := hXs.1.kept hR.low
  have hN : vx_Zq Bundle.tN "SUPPRESSED_SENTINEL" Bundle.listD (aE E) s s.heap := hXs.2.1.kept hR.low
  have hNm := hD.2.2.2.2.2.2.2.2.2.1
  have htb := C.2.2.2.2.1
  have hbad : ∀ w ∈ badW, w.before [Value.ref d, .int x, .int n].toArray s = true := fun w hw => va_tabs (by
    unfold badW at hw
    simp only [List.mem_cons, List.not_mem_nil, or_false] at hw
    rcases hw with rfl | rfl | rfl | rfl | rfl <;> rfl) rfl (hXs.2.2.2.2.1 w hw)
  show W p (xl E) e M_X9_look.2.2.2.2 s m [Value.ref d, .int x, .int n].toArray below meth c s.heap [] 0 0 _ _
  refine lv_aload_n C.1 C.2.1 dX9_look_0 rfl (hLs.get (i := 0) rfl) ?_
  refine lv_iload_n C.1 C.2.1 dX9_look_1 rfl (hLs.get (i := 1) rfl) ?_
  refine Cl.rawV (As := [.int x]) (rest := []) hX C hR hle.1 dX9_look_2 k_X9_156 mo_X9_isName rm_X9_look_X9_isName rfl hD.1.1.1 (Nat.le_of_ble_eq_true rfl) ⟨Nat.le_of_ble_eq_true rfl, Nat.le_of_ble_eq_true rfl⟩ (c_isName (K := fun r μ' => r = some (.int (bI (nmx (aN S) x).isSome)) ∧ μ' = μ) hD.1.1.1 hNm.1 hW.2.2.2.1.1 ⟨rfl, rfl⟩) (fun r μ' H' L hK hR' hL => ?_)
  obtain ⟨rfl, rfl⟩ := hK
  have hSv : va_S (aE E) s.heap H' ([] ++ L) := ⟨by rw [← hR.1, ← hR'.1]; exact Nat.le_refl _, fun q _ hn => by
    have hq : q < xo E := Nat.lt_of_not_le hn
    rw [hR'.2.2.1 q hq, hR.2.2.1 q hq], fun z hz => hL z (by simpa using hz)⟩
  have hfr : ∀ z ∈ [] ++ L, xo E ≤ z.base := fun z hz => hL z (by simpa using hz)
  rcases hc with ⟨h1, rfl⟩ | ⟨nm, h1, h2, rfl⟩
  · rw [h1]
    refine lv_if_ne (tgt := 18) C.1 C.2.1 dX9_look_5 (by decide) (fun h => absurd rfl h) (fun _ => ?_)
    obtain ⟨q, hq⟩ := hXs.2.2.1
    exact y_throw C.1 C.2.1 hl rx_io C.2.2.2.1 (by decide +kernel) (htb _ (wt 835 (by decide +kernel) rfl)) (htb _ (wt 74 (by decide +kernel) rfl)) hq (vx_hat (fun w hw => htb w (at_io w hw)) bad_io hbad) ot_io hU hN hSv (hle.1.trans hml.symm) dX9_look_8 dX9_look_11 dX9_look_12 dX9_look_14 dX9_look_17 (fun z hz => (hnt z hz).elim) (Nat.le_of_ble_eq_true rfl) (Nat.le_of_ble_eq_true rfl) (Nat.le_of_ble_eq_true rfl) (Nat.le_of_ble_eq_true rfl) hlocks (fun t _ hz ho => ⟨rfl, t.heap.size, by rw [hR'.1]; exact hz, hR'.x hz ho⟩) hfr (Nat.le_of_ble_eq_true rfl) (Nat.le_of_ble_eq_true rfl)
  · rw [h1]
    refine lv_if_ne (tgt := 18) C.1 C.2.1 dX9_look_5 (by decide) (fun _ => ?_) (fun h => absurd h (show ¬ bI true = 0 by decide))
    refine lv_iload_n C.1 C.2.1 dX9_look_18 rfl (hLs.get (i := 2) rfl) ?_
    refine lv_tableOut (tgt := 115) C.1 C.2.1 dX9_look_19 h2 (by decide) ?_
    obtain ⟨q, hq⟩ := hXs.2.2.2.1
    exact y_throw C.1 C.2.1 hl rx_ns C.2.2.2.1 (by decide +kernel) (htb _ (wt 905 (by decide +kernel) rfl)) (htb _ (wt 75 (by decide +kernel) rfl)) hq (vx_hat (fun w hw => htb w (at_ns w hw)) bad_ns hbad) ot_ns hU hN hSv (hle.1.trans hml.symm) dX9_look_115 dX9_look_118 dX9_look_119 dX9_look_121 dX9_look_124 (fun z hz => (hnt z hz).elim) (Nat.le_of_ble_eq_true rfl) (Nat.le_of_ble_eq_true rfl) (Nat.le_of_ble_eq_true rfl) (Nat.le_of_ble_eq_true rfl) hlocks (fun t _ hz ho => ⟨rfl, t.heap.size, by rw [hR'.1]; exact hz, hR'.x hz ho⟩) hfr (Nat.le_of_ble_eq_true rfl) (Nat.le_of_ble_eq_true rfl)
end LOOKX
