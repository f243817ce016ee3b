/-! the law's look -/
section LLOOK
variable {E : En} {μ : Mm} {K : Option Value → Mm → Prop}
def hhL : List (Nat × Nat × Nat × Nat) := [(0, 10, 13, 13), (0, 10, 17, 15)]
abbrev M_Lk : Mt := (yL_look, cL_look, 5, (some .int), { frames := 7, cells := 1, slots := 6, locals := 172 })
def wsLk : List Cond := .codeWith yL_look cL_look 5 (some .int) hhL :: wtab
def CLk (E : En) (As : List Value) (μ : Mm) (K : Option Value → Mm → Prop) : Prop := XP E → Met (xl E) yL_look wsLk M_Lk.2.2.2.2 (va_Pc As (fun U => Rl E μ U.heap ∧ St E U)) (fun _ _ o t => ∃ (r : Option Value) (μ' : Mm), o = .returned r ∧ K r μ' ∧ Rl E μ' t.heap) 1 6 (fun q => xo E ≤ q)
theorem pn_L : plainName RL = true := by decide +kernel
/-- outside the desk and the row o nothing has changed -/
def LF (d o : Nat) (μ μ' : Mm) : Prop := mN μ ≤ mN μ' ∧ mK μ' = mK μ ∧ mL μ' = mL μ ∧ ∀ b, ¬ ((d ≤ b ∧ b < d + 1255) ∨ b = o) → mF μ' b = mF μ b ∧ mB μ' b = mB μ b ∧ mA μ' b = mA μ b ∧ mJ μ' b = mJ μ b ∧ mP μ' b = mP μ b ∧ mO μ' b = mO μ b
theorem DI.x {d n : Nat} {S : Ast} (h : DI d S μ) : DI d S (sX μ n) := h
theorem DI.off {d : Nat} {S : Ast} {μ' : Mm} {Q : Nat → Prop} (hW : WF S) (h : DI d S μ) (f : Fx Q μ μ') (hQ : ∀ q, d ≤ q → q < d + 1255 → ¬ Q q) : DI d S μ' := by
  obtain ⟨g1, g2, g3, g4, g5, g6, g7, g8, g9, g10, g11, g12⟩ := h
  have f0 := f.2.2.2 d (hQ d (by omega) (by omega))
  exact ⟨g1.fx f (fun g _ => by rw [f0.2.2.2.2.1]) (hQ _ (by omega) (by omega)), g2.fx f (hQ _ (by omega) (by omega)) (hQ _ (by omega) (by omega)), g3.fx f (hQ _ (by omega) (by omega)), g4.fx f (fun q a b => hQ q (by omega) (by omega)), g5.fx f (hQ _ (by omega) (by omega)), g6.fx f (fun q a b => hQ q (by omega) (by omega)), g7.fx f (fun q a b => hQ q (by omega) (by omega)), g8.fx f (hQ _ (by omega) (by omega)), g9.fx f (by rw [f0.2.2.2.2.1]) (hQ _ (by omega) (by omega)) (fun q a => hQ q (by omega) (by omega)), g10.fx hW.2.2.2.1 f (by rw [f0.1]) (fun q a b => hQ q (by omega) (by omega)), g11.fx f (by rw [f0.1]) (fun q a b => hQ q (by omega) (by omega)), g12.fx f (by rw [f0.1]) (hQ _ (by omega) (by omega))⟩
theorem l_look {d o : Nat} {S : Ast} {x n : Int32} (hl : (xl E).stackTraces = false) (hx : ∀ U : State, xP E U → lowX E U) (hW : WF S) (hD : DI d S μ) (ho : mK μ o = 14) (hoL : mL μ o = 1) (hod : ¬ (d ≤ o ∧ o < d + 1255)) (k : ∀ μ', LF d o μ μ' → DI d S μ' → ((q_look S x n).1 = 0 → mJ μ' o 0 = (q_look S x n).2.toInt64) → K (some (.int (nI (q_look S x n).1))) μ') : CLk E [.ref d, .int x, .int n, .ref o] μ K := by
  intro hX
  refine va_MetW (cc := cL_look) (maxL := 5) (ret := some .int) (hh := hhL) pn_L rfl ?_
  intro p e s m args below meth c s₁ B hml hv
  obtain ⟨rfl, hR, hS⟩ := hv
  have hle := lv_entry [.ref d, .int x, .int n, .ref o] (n := 5) (Nat.le_of_ble_eq_true rfl)
  rw [lg_entry_eq]
  generalize (lg_sl [Value.ref d, .int x, .int n, .ref o] ++ List.replicate (5 - (lg_sl [Value.ref d, .int x, .int n, .ref o]).length) Slot.unset).toArray = lsA at hle ⊢
  have hts := atoms_spec (ws := wsLk) B.pre
  have hlocks := B.notSynchronized
  have hxe := B.exec
  have hbc := B.bytes
  have hrt := B.returns
  have htab : c.exceptionTable.toList = [⟨0, 10, 13, 13⟩, ⟨0, 10, 17, 15⟩] := vx_table (x := yL_look) B (hts _ List.mem_cons_self)
  have C : Cx E M_Lk p s m [Value.ref d, .int x, .int n, .ref o].toArray meth c := ⟨hxe, hbc, hml, findClass_of_methodNamed B.named, fun w hw => hts w (List.mem_cons_of_mem _ hw), hS, (name_of_methodNamed B.named B.method).1⟩
  have hLs : LsOK lsA 5 [some (.ref d), some (.int x), some (.int n), some (.ref o), none] := LsOK.of hle (fun i v h => by
    have h2 : (ent [.ref d, .int x, .int n, .ref o])[i]? = some (some v) := by
      match i, h with
      | 0, h => exact h
      | 1, h => exact h
      | 2, h => exact h
      | 3, h => exact h
      | 4, h => simp at h
      | j + 5, h => simp at h
    have h4 := ent_args [.ref d, .int x, .int n, .ref o] 0 i v h2
    rwa [Nat.zero_add] at h4)
  have htb := C.2.2.2.2.1
  have hXs := hx s hS.2.2.2
  have hcst : ∀ w ∈ badW, w.before [Value.ref d, .int x, .int n, .ref o].toArray s = true := fun w hw => va_tabs (by
    unfold badW at hw
    simp only [List.mem_cons, List.not_mem_nil, or_false] at hw
    rcases hw with rfl | rfl | rfl | rfl | rfl <;> rfl) rfl (hXs.2.2.2.2.1 w hw)
  show W p (xl E) e M_Lk.2.2.2.2 s m [Value.ref d, .int x, .int n, .ref o].toArray below meth c s.heap [] 0 0 _ _
  generalize hZ : MQ below (fun _ _ o t => ∃ (r : Option Value) (μ' : Mm), o = .returned r ∧ K r μ' ∧ Rl E μ' t.heap) [Value.ref d, .int x, .int n, .ref o].toArray s 1 6 (fun q => xo E ≤ q) = Z
  have fin : ∀ (H' : Heap) (locs' : List Loc) (r : Option Value) (μ' : Mm) (pc' : Nat) (lsA' : Array Slot), Rl E μ' H' → K r μ' → (∀ q ∈ locs', xo E ≤ q.base) → RetAt M_Lk pc' r → W p (xl E) e M_Lk.2.2.2.2 s m [Value.ref d, .int x, .int n, .ref o].toArray below meth c H' locs' 1 6 Z (F0 m pc' lsA' r.toList) := by
    intro H' locs' r μ' pc' lsA' R' hQ hL hRet
    subst hZ
    rcases hRet with ⟨v, ty, rfl, hty, hn, hd⟩ | ⟨a, ty, rfl, hty, hd⟩ | ⟨rfl, hty, hd⟩
    · exact W.zret (ty := ty) hxe hbc (hrt.trans hty) hn (fun t ht hW => ⟨_, μ', rfl, hQ, by rw [ht]; exact R'⟩) hL hd
    · exact W.aret (rt := .object ty) hxe hbc (hrt.trans hty) (Or.inl ⟨ty, rfl⟩) (Or.inr ⟨a, rfl⟩) (fun t ht hW => ⟨_, μ', rfl, hQ, by rw [ht]; exact R'⟩) hL hd
    · exact W.vret hxe hbc (hrt.trans hty) (fun t ht hW => ⟨_, μ', rfl, hQ, by rw [ht]; exact R'⟩) hL hd
  refine lv_aload_n C.1 C.2.1 dL_look_0 rfl (hLs.get (i := 3) rfl) ?_
  refine lv_iconst (v := nI 0) C.1 C.2.1 dL_look_1 ic_0 ?_
  refine lv_aload_n C.1 C.2.1 dL_look_2 rfl (hLs.get (i := 0) rfl) ?_
  refine lv_iload_n C.1 C.2.1 dL_look_3 rfl (hLs.get (i := 1) rfl) ?_
  refine lv_iload_n C.1 C.2.1 dL_look_4 rfl (hLs.get (i := 2) rfl) ?_
  have thr : ∀ (cls : String) (pc' : Nat), ((nmx (aN S) x = none ∧ cls = IOX) ∨ (∃ nm, nmx (aN S) x = some nm ∧ (n.toInt < 0 ∨ 5 < n.toInt) ∧ cls = NSX)) →
      (∀ (H' : Heap) (L : List Loc) (q : Addr) (ce : Cell), H'[q]? = some ce → ce.vm = .none → s.vm.findClass cls = some ce.cls → W p (xl E) e M_Lk.2.2.2.2 s m [Value.ref d, .int x, .int n, .ref o].toArray below meth c H' L 1 6 Z (F0 m pc' lsA [.ref q]) → vx_W p (xl E) e M_Lk.2.2.2.2 s m [Value.ref d, .int x, .int n, .ref o].toArray below meth c H' L 1 6 Z (F0 m 5 lsA [.int (nI 0), .ref o]) q) →
      (∀ q n', mN μ ≤ n' → Ev E M_Lk 0 0 pc' [some (.ref d), some (.int x), some (.int n), some (.ref o), none] [.ref q] (sX μ n') K) →
      W p (xl E) e M_Lk.2.2.2.2 s m [Value.ref d, .int x, .int n, .ref o].toArray below meth c s.heap [] 0 0 Z (F0 m 5 lsA ([Value.int x, .int n].reverse ++ .ref d :: [.int (nI 0), .ref o])) := by
    intro cls pc' hcond hcatch hev
    have hM := x_look hl hx hW hD hcond hX
    obtain ⟨w1, w2, w3, rr, hr1, hr2, hci⟩ := k_L_7
    obtain ⟨o1, o2, o3⟩ := mo_X9_look
    have hcb := callB_of (own := RL) (index := 7) (R := M_Lk.2.2.2.2) (rm := M_X9_look.2.2.2.2) 2 htb (wsM_good o1) rfl rfl rfl (htb _ o2) (htb _ w1) o3 ⟨by decide, by decide⟩
    have hrun := vx_runV (C := yX9_look.cls) (As := [.int x, .int n]) (below := below) (e := e) (meth := meth) (locs := []) (cells := 0) (slots := 0) (rest := [.int (nI 0), .ref o]) (g := F0 m 5 lsA ([Value.int x, .int n].reverse ++ .ref d :: [.int (nI 0), .ref o])) ⟨C.1, C.2.1, C.2.2.1, C.2.2.2.1, htb⟩ hM ⟨hcb, htb _ w2, htb _ w3⟩ ⟨pre_blind hX, hr2 ▸ zz_recv C.2.2.2.2.2.1 hR hD.1.1.1 hci hr1, fun U hU hW => ⟨rfl, by rw [hU]; exact hR, St.warm hX hW C.2.2.2.2.2.1⟩⟩ rfl rfl hle.1 rfl (room_ok (Nat.le_of_ble_eq_true rfl)) dL_look_5 ⟨by decide, by decide⟩
    intro T hT X
    rcases hrun T hT X with ⟨v, st₀, t, T', L, h0, X', hL', e1, e2, hF, stp⟩ | ⟨q, st₀, t, T', L, C', ce, h0, X', hL', e1, e2, ⟨rfl, n', hn', hR'⟩, hce, hcv, hcl, stp⟩
    · exact hF.elim
    · have hfr : ∀ z ∈ [] ++ L, xo E ≤ z.base := fun z hz => hL' z (by simpa using hz)
      have hw := hcatch T'.heap ([] ++ L) q ce (by rw [e1]; exact hce) hcv hcl (hev q n' hn' hX p e s m [Value.ref d, .int x, .int n, .ref o].toArray below meth c T'.heap ([] ++ L) 1 6 1 6 lsA Z C (by rw [e1]; exact hR') hfr ⟨by decide, by decide, by decide, by decide⟩ hLs fin)
      obtain ⟨t2, a1, b1⟩ := hw T' rfl X'
      exact ⟨t2, stp.trans a1, b1⟩
  have lfx : ∀ n', mN μ ≤ n' → LF d o μ (sX μ n') := fun n' h => ⟨h, rfl, rfl, fun _ _ => ⟨rfl, rfl, rfl, rfl, rfl, rfl⟩⟩
  have thNS : (∃ nm, nmx (aN S) x = some nm ∧ (n.toInt < 0 ∨ 5 < n.toInt)) → (q_look S x n).1 = 2 → W p (xl E) e M_Lk.2.2.2.2 s m [Value.ref d, .int x, .int n, .ref o].toArray below meth c s.heap [] 0 0 Z (F0 m 5 lsA ([Value.int x, .int n].reverse ++ .ref d :: [.int (nI 0), .ref o])) := by
    rintro ⟨nm, h1, h2⟩ hq
    refine thr NSX 17 (Or.inr ⟨nm, h1, h2, rfl⟩) (fun H' L q ce hce hcv hcl hw => ?_) (fun q n' hn' => ?_)
    · exact y_catchB (own := RL) (nx := IOX) (nm := NSX) (x := ⟨0, 10, 13, 13⟩) (y := ⟨0, 10, 17, 15⟩) (xs := []) C.2.2.2.1 htab (by decide) (by decide) (htb _ (wt 829 (by decide +kernel) rfl)) hXs.2.2.2.2.2 (by decide) (by decide) (htb _ (wt 830 (by decide +kernel) rfl)) (hcst _ (by decide +kernel)) hce hcv hcl hw
    · refine e_as4 19 rfl dL_look_17 (by decide) rfl ?_
      refine e_iconst (nI 2) 20 rfl dL_look_19 ic_2 ?_
      refine e_iret dL_look_20 rfl ?_
      have kk := k (sX μ n') (lfx n' hn') hD.x (fun h => by rw [hq] at h; cases h)
      rw [hq] at kk
      exact kk
  show W p (xl E) e M_Lk.2.2.2.2 s m [Value.ref d, .int x, .int n, .ref o].toArray below meth c s.heap [] 0 0 Z (F0 m 5 lsA ([Value.int x, .int n].reverse ++ .ref d :: [.int (nI 0), .ref o]))
  cases h1 : nmx (aN S) x with
  | none =>
    have hq : (q_look S x n).1 = 1 := by unfold q_look; rw [h1]
    refine thr IOX 13 (Or.inl ⟨h1, rfl⟩) (fun H' L q ce hce hcv hcl hw => ?_) (fun q n' hn' => ?_)
    · exact y_catchA (own := RL) (nm := IOX) (x := ⟨0, 10, 13, 13⟩) (xs := [⟨0, 10, 17, 15⟩]) C.2.2.2.1 htab (by decide) (by decide) (htb _ (wt 829 (by decide +kernel) rfl)) (hcst _ (by decide +kernel)) hce hcv hcl hw
    · refine e_as4 15 rfl dL_look_13 (by decide) rfl ?_
      refine e_iconst (nI 1) 16 rfl dL_look_15 ic_1 ?_
      refine e_iret dL_look_16 rfl ?_
      have kk := k (sX μ n') (lfx n' hn') hD.x (fun h => by rw [hq] at h; cases h)
      rw [hq] at kk
      exact kk
  | some nm =>
    obtain ⟨i, hi, hni⟩ := nmx_some h1
    have hi30 : i < 30 := Nat.lt_of_lt_of_le (List.getElem?_eq_some_iff.mp hni).1 hW.2.2.2.1.1
    have eiN : iN x = some i := by rw [hi]; exact iN_nI (by omega)
    rcases iN_cases n with ⟨h2, h3⟩ | ⟨w, hw, hnw, h3⟩
    · refine thNS ⟨nm, h1, Or.inl ?_⟩ ?_
      · exact Int32.lt_iff_toInt_lt.mp h2
      · unfold q_look; rw [h1, eiN]; simp only [h3]
    · by_cases h5 : w ≤ 5
      · have hq : q_look S x n = (0, lkV S i nm w) := by unfold q_look; rw [h1, eiN]; simp only [h3, if_pos h5]
        rw [hq] at k
        rw [hi, hnw]
        rw [hi, hnw] at hLs C fin
        refine Cl.rawV (As := [.int (nI i), .int (nI w)]) (rest := [.int (nI 0), .ref o]) hX C hR hle.1 dL_look_5 k_L_7 mo_X9_look ⟨by decide, by decide⟩ rfl hD.1.1.1 (Nat.le_of_ble_eq_true rfl) ⟨by decide, by decide⟩ (d_look (K := fun r μ' => r = some (.int (lkV S i nm w)) ∧ DF d μ μ' ∧ DI d S μ') hW hD hni h5 (fun μ' hf hd => ⟨rfl, hf, hd⟩)) (fun r μ' H' L hK hR' hL => ?_)
        obtain ⟨rfl, hf, hd'⟩ := hK
        have hfr : ∀ z ∈ [] ++ L, xo E ≤ z.base := fun z hz => hL z (by simpa using hz)
        have ev : Ev E M_Lk 0 0 8 [some (.ref d), some (.int (nI i)), some (.int (nI w)), some (.ref o), none] [.int (lkV S i nm w), .int (nI 0), .ref o] μ' K := by
          have ho' : mK μ' o = 14 := by rw [hf.2.1]; exact ho
          have hoL' : mL μ' o = 1 := by rw [hf.2.2.1]; exact hoL
          refine e_i2l 9 rfl dL_look_8 ?_
          refine e_last 10 rfl dL_look_9 ho' hoL' rfl (show 0 < 1 by decide) (by decide) ?_
          refine e_goto 21 (by decide) dL_look_10 ?_
          refine e_iconst (nI 0) 22 rfl dL_look_21 ic_0 ?_
          refine e_iret dL_look_22 rfl ?_
          refine k _ ⟨Nat.le_of_eq hf.1.symm, hf.2.1, hf.2.2.1, fun b hb => ?_⟩ (hd'.off (Q := fun q => q = o) hW ⟨rfl, rfl, rfl, fun b hb => ⟨rfl, rfl, rfl, up2_a hb, rfl, rfl⟩⟩ (fun q h1 h2 h3 => hod (by rw [← h3]; exact ⟨h1, h2⟩))) (fun _ => up2_s)
          have g := hf.2.2.2 b (fun h => hb (Or.inl h))
          refine ⟨g.1, g.2.1, g.2.2.1, ?_, g.2.2.2.2.1, g.2.2.2.2.2⟩
          rw [← g.2.2.2.1]
          exact up2_a (fun h => hb (Or.inr h))
        exact ev hX p e s m _ below meth c H' ([] ++ L) 1 6 1 6 lsA Z C hR' hfr ⟨by decide, by decide, by decide, by decide⟩ hLs fin
      · refine thNS ⟨nm, h1, Or.inr ?_⟩ ?_
        · rw [hnw, nI_toInt hw]; omega
        · unfold q_look; rw [h1, eiN]; simp only [h3, if_neg h5]
/-- its call -/
theorem e_invLk {M : Mt} {kc ks pc idx : Nat} {ls : List (Option Value)} {Q : Option Value → Mm → Prop} {v0 v1 v2 v3 : Value} {rest : List Value} (n : Nat) (hp : pc + 3 = n) (hd : decode M.2.1 pc = .ok (.invokestatic idx, 3)) (hV : Cond.methodLink M.1.cls idx yL_look ∈ wtab) (hRm : M_Lk.2.2.2.2.frames + 1 ≤ M.2.2.2.2.frames ∧ 8 + (5 + 11) + M_Lk.2.2.2.2.locals ≤ M.2.2.2.2.locals) (hrest : (rest.map fun v => v.category).sum ≤ 8) (k : CLk E [v0, v1, v2, v3] μ (fun r μ' => Ev E M kc ks n ls (r.toList ++ rest) μ' Q)) : Ev E M (kc + 1) (ks + 6) pc ls (v3 :: v2 :: v1 :: v0 :: rest) μ Q := by
  subst hp
  intro hX p e s m args below meth c H locs cells slots mc ms lsA Z C R hL hb hl hr
  have hts := C.2.2.2.2.1
  have hcw : Cond.codeWith yL_look cL_look 5 (some .int) hhL ∈ wtab := wt 828 (by decide +kernel) rfl
  have hG : GoodIn wtab (va_wsS M.1.cls idx yL_look wsLk) := fun w hw => by
    have hm : w ∈ wtab := by
      unfold va_wsS at hw
      rcases List.mem_append.mp hw with h | h
      · simp only [List.mem_cons, List.not_mem_nil, or_false] at h
        rcases h with rfl | rfl | rfl
        · exact hV
        · exact wt 827 (by decide +kernel) rfl
        · exact wt 53 (by decide +kernel) rfl
      · rcases List.mem_cons.mp h with rfl | h
        · exact hcw
        · exact h
    exact ⟨hm, wtab_good hm⟩
  have hrun := vx_runSW (As := [v0, v1, v2, v3]) (rest := rest) (below := below) (e := e) (meth := meth) (locs := locs) (cells := cells) (slots := slots) (R := M.2.2.2.2) (g := F0 m pc lsA (v3 :: v2 :: v1 :: v0 :: rest)) ⟨C.1, C.2.1, C.2.2.1, C.2.2.2.1, hts⟩ (k hX) (vx_cwSW 4 hts hG rfl rfl rfl ⟨by decide +kernel, by decide +kernel, by decide +kernel⟩ hRm) ⟨pre_blind hX, fun U hU hW => ⟨rfl, by rw [hU]; exact R, St.warm hX hW C.2.2.2.2.2.1⟩⟩ rfl rfl hl.1 rfl (room_ok hrest) hd ⟨by omega, by omega⟩
  intro T hT X
  obtain ⟨v, st₀, t, T', L, h0, X', hL', e1, e2, ⟨r, μ', hv, hK, hR'⟩, stp⟩ := hrun T hT X
  cases hv
  have hw := hK hX p e s m args below meth c T'.heap (locs ++ L) (cells + 1) (slots + 6) mc ms lsA Z C (by rw [e1]; exact hR') (fun q hq => by
    rcases List.mem_append.mp hq with h | h
    · exact hL q h
    · exact hL' q h) ⟨by omega, by omega, hb.2.2⟩ hl hr
  obtain ⟨t2, a1, b1⟩ := hw T' rfl X'
  exact ⟨t2, stp t2 a1, b1⟩
end LLOOK
