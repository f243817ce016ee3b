/-! ShapeText.kindHere, by the JDK's String.indexOf -/
section LOW
variable {E : En} {M : Mt} {kc ks pc : Nat} {ls : List (Option Value)} {st : List Value} {μ : Mm} {Q : Option Value → Mm → Prop}
def aE (E : En) : Nat → Prop := fun q => xo E ≤ q
theorem Rl.low {H : Heap} (R : Rl E μ H) : ∀ a : Nat, a < (xH E).size → ¬ aE E a → H[a]? = (xH E)[a]? := fun a _ h => R.2.2.1 a (Nat.lt_of_not_le h)
def kb (j : Nat) : Int32 := ([84, 71, 80, 81, 70, 77, 73] : List Int32).getD j 0
/-- the text of the kinds' letters lies below the system -/
def lowS (E : En) (sa va : Nat) (U : State) : Prop := vk_R RX5 75 "TGPQFMI" sa U ∧ va_O RJ0 sa (aE E) U (xH E) ∧ va_OF RJ0 "coder" "B" (.int 0) sa (aE E) U (xH E) ∧ va_OF RJ0 "value" "[B" (.ref va) sa (aE E) U (xH E) ∧ va_T .byte va 7 (fun j => .int (kb j)) (aE E) U (xH E) ∧ va_Z RJ0 "COMPACT_STRINGS" "Z" (.int 1) (aE E) U (xH E)
theorem lowS.warm {sa va : Nat} {s U : State} (hW : s.WarmedH U.vm) (h : lowS E sa va s) : lowS E sa va U := ⟨vk_R.warm hW h.1, va_O.moved hW.alike h.2.1, va_OF.moved hW.alike h.2.2.1, va_OF.moved hW.alike h.2.2.2.1, va_T.moved hW.alike h.2.2.2.2.1, va_Z.moved hW.alike h.2.2.2.2.2⟩
theorem e_getLow {o nm d : String} {v : Value} {idx q : Nat} (n : Nat) (hp : pc + 3 = n) (hd : decode M.2.1 pc = .ok (.getfield idx, 3)) (hw : Cond.fieldLink M.1.cls idx o nm d ∈ wtab) (hE : ∀ U : State, xP E U → va_OF o nm d v q (aE E) U (xH E)) (kk : Ev E M kc ks n ls (v :: st) μ Q) : Ev E M kc ks pc ls (.ref q :: st) μ Q := by
  subst hp
  refine Ev.step (fun p e s m args below meth c H locs cells slots lsA Z C R hL k2 => ?_) kk
  obtain ⟨cf, k, fi, f, cell, h1, h2, h3, h4, h5, h6⟩ := (hE s C.2.2.2.2.2.1.2.2.2).kept R.low
  exact W.getf C.1 C.2.1 C.2.2.2.1 (C.2.2.2.2.1 _ hw) h1 h2 h3 h4 (v := v) h5 rfl rfl hd (k2 lsA hL)
theorem e_getsLow {o nm d : String} {v : Value} {idx : Nat} (n : Nat) (hp : pc + 3 = n) (hd : decode M.2.1 pc = .ok (.getstatic idx, 3)) (hw : Cond.fieldLink M.1.cls idx o nm d ∈ wtab) (hE : ∀ U : State, xP E U → va_Z o nm d v (aE E) U (xH E)) (kk : Ev E M kc ks n ls (v :: st) μ Q) : Ev E M kc ks pc ls st μ Q := by
  subst hp
  refine Ev.step (fun p e s m args below meth c H locs cells slots lsA Z C R hL k2 => ?_) kk
  obtain ⟨cf, kf, fi, f, a, cell, h1, h2, h3, h4, h5, h6, h7, h8⟩ := (hE s C.2.2.2.2.2.1.2.2.2).kept R.low
  exact W.gets C.1 C.2.1 C.2.2.2.1 (C.2.2.2.2.1 _ hw) h1 h2 h3 h4 h5 (fun e => by rw [e] at h6; cases h6) h7 rfl hd (k2 lsA hL)
theorem e_alenLow {ty : FieldType} {t N : Nat} {f : Nat → Value} (n : Nat) (hp : pc + 1 = n) (hd : decode M.2.1 pc = .ok (.arraylength, 1)) (hE : ∀ U : State, xP E U → va_T ty t N f (aE E) U (xH E)) (kk : Ev E M kc ks n ls (.int (nI N) :: st) μ Q) : Ev E M kc ks pc ls (.ref t :: st) μ Q := by
  subst hp
  refine Ev.step (fun p e s m args below meth c H locs cells slots lsA Z C R hL k2 => ?_) kk
  obtain ⟨cell, h1, h2, h3, h4, h5, h6, h7⟩ := (hE s C.2.2.2.2.2.1.2.2.2).kept R.low
  exact W.alen (n := Int32.ofNat N) C.1 C.2.1 h1 h2 h5 rfl rfl hd (k2 lsA hL)
theorem e_baldLow {t N j : Nat} {f : Nat → Value} {v : Value} (n : Nat) (hp : pc + 1 = n) (hd : decode M.2.1 pc = .ok (.baload, 1)) (hE : ∀ U : State, xP E U → va_T .byte t N f (aE E) U (xH E)) (hj : j < N) (hN : N < 2 ^ 31) (hv : f j = v) (kk : Ev E M kc ks n ls (v :: st) μ Q) : Ev E M kc ks pc ls (.int (nI j) :: .ref t :: st) μ Q := by
  subst hp
  refine Ev.step (fun p e s m args below meth c H locs cells slots lsA Z C R hL k2 => ?_) kk
  obtain ⟨cell, h1, h2, h3, h4, h5, h6, h7⟩ := (hE s C.2.2.2.2.2.1.2.2.2).kept R.low
  have ej : (nI j).toNatClampNeg = j := nI_clamp (by omega)
  refine W.bald (v := v) C.1 C.2.1 h1 h2 h3 ?_ (by rw [ej, h6 _ hj, hv]) rfl rfl hd (k2 lsA hL)
  rintro (q | q)
  · exact nI_pos (by omega) q
  · rw [ej] at q; omega
theorem e_ldcLow {tx : String} {idx q : Nat} (n : Nat) (hp : pc + 2 = n) (hd : decode M.2.1 pc = .ok (.ldc idx, 2)) (hE : ∀ U : State, xP E U → vk_R M.1.cls idx tx q U) (kk : Ev E M kc ks n ls (.ref q :: st) μ Q) : Ev E M kc ks pc ls st μ Q := by
  subst hp
  refine Ev.step (fun p e s m args below meth c H locs cells slots lsA Z C R hL k2 => ?_) kk
  exact va_ldcS C.1 C.2.1 C.2.2.2.1 (hE s C.2.2.2.2.2.1.2.2.2) hd (k2 lsA hL)
/-- a method of a thing that lies below the system -/
def LVL (own : String) (idx : Nat) (N : Mt) : Prop := Cond.methodLink own idx N.1 ∈ wtab ∧ Cond.instanceMethod N.1 ∈ wtab ∧ Cond.selects N.1.cls N.1 N.1 ∈ wtab
theorem e_invVL {N : Mt} {idx na b : Nat} (As : List Value) {rest st0 : List Value} (n : Nat) (hp : pc + 3 = n) (hd : decode M.2.1 pc = .ok (.invokevirtual idx, 3)) (hV : LVL M.1.cls idx N) (hO : MO N na) (hRm : RM M N) (hz : N.2.2.2.2.cells = 0 ∧ N.2.2.2.2.slots = 0) (hna : As.length = na) (hst : st0 = (As.reverse ++ .ref b :: rest)) (hE : ∀ U : State, xP E U → va_O N.1.cls b (aE E) U (xH E)) (hrest : (rest.map fun v => v.category).sum ≤ 8) (k : Cl E N (.ref b :: As) μ (fun r μ' => Ev E M kc ks n ls (r.toList ++ rest) μ' Q)) : Ev E M kc ks pc ls st0 μ Q := by
  subst hp; subst hst
  obtain ⟨w1, w2, w3⟩ := hV
  obtain ⟨o1, o2, o3⟩ := hO
  have key : Ev E M (kc + N.2.2.2.2.cells) (ks + N.2.2.2.2.slots) pc ls (As.reverse ++ .ref b :: rest) μ Q := by
    refine Ev.called (fun p e s m args below meth c H locs cells slots lsA Qc hX C R hsz hb hM => ?_) k
    have hts := C.2.2.2.2.1
    have hcb := callB_of (own := M.1.cls) (index := idx) (R := M.2.2.2.2) na hts (wsM_good o1) rfl rfl rfl (hts _ o2) (hts _ w1) o3 hRm
    obtain ⟨cell, h1, h2, h3, -⟩ := (hE s C.2.2.2.2.2.1.2.2.2).kept R.low
    exact va_runV (C := N.1.cls) (As := As) ⟨C.1, C.2.1, C.2.2.1, C.2.2.2.1, hts⟩ hM ⟨hcb, hts _ w2, hts _ w3⟩ ⟨pre_blind hX, ⟨cell, h1, h2, h3⟩, fun U hU hW => ⟨rfl, by rw [hU]; exact R, St.warm hX hW C.2.2.2.2.2.1⟩⟩ rfl hna hsz rfl (room_ok hrest) hd hb
  rw [hz.1, hz.2] at key
  exact key
end LOW
section JDK
abbrev M_J1_can : Mt := (yJ1_canEncode_9a6ad, cJ1_canEncode_9a6ad, 1, (some .boolean), { frames := 0, cells := 0, slots := 0, locals := 0 })
abbrev M_J1_chr : Mt := (yJ1_indexOfChar_4cfef, cJ1_indexOfChar_4cfef, 6, (some .int), { frames := 0, cells := 0, slots := 0, locals := 0 })
abbrev M_J1_ix : Mt := (yJ1_indexOf_4cfef, cJ1_indexOf_4cfef, 4, (some .int), { frames := 1, cells := 0, slots := 0, locals := 40 })
abbrev M_J0_coder : Mt := (yJ0_coder_7d493, cJ0_coder_7d493, 1, (some .byte), { frames := 0, cells := 0, slots := 0, locals := 0 })
abbrev M_J0_len : Mt := (yJ0_length_8abf5, cJ0_length_8abf5, 1, (some .int), { frames := 1, cells := 0, slots := 0, locals := 20 })
abbrev M_J0_lat : Mt := (yJ0_isLatin1_aae02, cJ0_isLatin1_aae02, 1, (some .boolean), { frames := 0, cells := 0, slots := 0, locals := 0 })
abbrev M_J0_ix2 : Mt := (yJ0_indexOf_7cf53, cJ0_indexOf_7cf53, 3, (some .int), { frames := 2, cells := 0, slots := 0, locals := 63 })
abbrev M_J0_ix1 : Mt := (yJ0_indexOf_0f7a4, cJ0_indexOf_0f7a4, 2, (some .int), { frames := 3, cells := 0, slots := 0, locals := 85 })
theorem mo_J1_can : MO M_J1_can 1 := ⟨wt 473 (by decide +kernel) rfl, wt 67 (by decide +kernel) rfl, by decide +kernel, by decide +kernel, by decide +kernel⟩
theorem mo_J1_chr : MO M_J1_chr 4 := ⟨wt 480 (by decide +kernel) rfl, wt 67 (by decide +kernel) rfl, by decide +kernel, by decide +kernel, by decide +kernel⟩
theorem mo_J1_ix : MO M_J1_ix 4 := ⟨wt 470 (by decide +kernel) rfl, wt 67 (by decide +kernel) rfl, by decide +kernel, by decide +kernel, by decide +kernel⟩
theorem mo_J0_coder : MO M_J0_coder 0 := ⟨wt 467 (by decide +kernel) rfl, wt 66 (by decide +kernel) rfl, by decide +kernel, by decide +kernel, by decide +kernel⟩
theorem mo_J0_len : MO M_J0_len 0 := ⟨wt 463 (by decide +kernel) rfl, wt 66 (by decide +kernel) rfl, by decide +kernel, by decide +kernel, by decide +kernel⟩
theorem mo_J0_lat : MO M_J0_lat 0 := ⟨wt 457 (by decide +kernel) rfl, wt 66 (by decide +kernel) rfl, by decide +kernel, by decide +kernel, by decide +kernel⟩
theorem mo_J0_ix2 : MO M_J0_ix2 2 := ⟨wt 453 (by decide +kernel) rfl, wt 66 (by decide +kernel) rfl, by decide +kernel, by decide +kernel, by decide +kernel⟩
theorem mo_J0_ix1 : MO M_J0_ix1 1 := ⟨wt 449 (by decide +kernel) rfl, wt 66 (by decide +kernel) rfl, by decide +kernel, by decide +kernel, by decide +kernel⟩
theorem k_J1_88 : LStat RJ1 88 M_J1_can := ⟨wt 471 (by decide +kernel) rfl, wt 472 (by decide +kernel) rfl⟩
theorem k_J1_95 : LStat RJ1 95 M_J1_chr := ⟨wt 478 (by decide +kernel) rfl, wt 479 (by decide +kernel) rfl⟩
theorem k_J1_92 : LMx RJ1 92 := ⟨wt 474 (by decide +kernel) rfl, wt 475 (by decide +kernel) rfl, wt 65 (by decide +kernel) rfl, wt 476 (by decide +kernel) rfl⟩
theorem k_J1_38 : LMn RJ1 38 := ⟨wt 477 (by decide +kernel) rfl, wt 431 (by decide +kernel) rfl, wt 65 (by decide +kernel) rfl, wt 432 (by decide +kernel) rfl⟩
theorem k_J0_637 : LStat RJ0 637 M_J1_ix := ⟨wt 468 (by decide +kernel) rfl, wt 469 (by decide +kernel) rfl⟩
theorem k_J0_335 : LVL RJ0 335 M_J0_coder := ⟨wt 464 (by decide +kernel) rfl, wt 465 (by decide +kernel) rfl, wt 466 (by decide +kernel) rfl⟩
theorem k_J0_505 : LVL RJ0 505 M_J0_len := ⟨wt 460 (by decide +kernel) rfl, wt 461 (by decide +kernel) rfl, wt 462 (by decide +kernel) rfl⟩
theorem k_J0_492 : LVL RJ0 492 M_J0_lat := ⟨wt 454 (by decide +kernel) rfl, wt 455 (by decide +kernel) rfl, wt 456 (by decide +kernel) rfl⟩
theorem k_J0_633 : LVL RJ0 633 M_J0_ix2 := ⟨wt 450 (by decide +kernel) rfl, wt 451 (by decide +kernel) rfl, wt 452 (by decide +kernel) rfl⟩
theorem k_X5_77 : LVL RX5 77 M_J0_ix1 := ⟨wt 446 (by decide +kernel) rfl, wt 447 (by decide +kernel) rfl, wt 448 (by decide +kernel) rfl⟩
theorem fl_J0_38 : Cond.fieldLink RJ0 38 RJ0 "COMPACT_STRINGS" "Z" ∈ wtab := wt 458 (by decide +kernel) rfl
theorem fl_J0_15 : Cond.fieldLink RJ0 15 RJ0 "coder" "B" ∈ wtab := wt 1280 (by decide +kernel) rfl
theorem fl_J0_9 : Cond.fieldLink RJ0 9 RJ0 "value" "[B" ∈ wtab := wt 1281 (by decide +kernel) rfl
theorem pn_J0 : plainName RJ0 = true := by decide +kernel
theorem pn_J1 : plainName RJ1 = true := by decide +kernel
theorem kb_hit : ∀ c, c < 256 → ∀ i, i < 7 → kb i = (nI c).toInt8.toInt32 → kindOf c = some i := by decide +kernel
theorem kb_no : ∀ c, c < 256 → (∀ j, j < 7 → ¬ kb j = (nI c).toInt8.toInt32) → kindOf c = none := by decide +kernel
theorem ch_id : ∀ c, c < 256 → ((nI c).toUInt32 % 65536).toInt32 = nI c := by decide +kernel
theorem sh_7 : nI 7 >>> ((0 : Int32) &&& 31) = nI 7 := by decide +kernel
variable {E : En} {μ : Mm} {K : Option Value → Mm → Prop} {sa va : Nat}
theorem j_can {c : Nat} (hc : c < 256) (k : K (some (.int (nI 1))) μ) : Cl E M_J1_can [.int (nI c)] μ K := by
  refine Cl.of0 0 pn_J1 (Nat.le_of_ble_eq_true rfl) ⟨rfl, rfl⟩ rfl ?_
  refine e_il0 1 rfl dJ1_canEncode_9a6ad_0 ?_
  refine e_if_ltN 15 4 (by decide) rfl dJ1_canEncode_9a6ad_1 rfl (by omega) ?_
  refine e_il0 5 rfl dJ1_canEncode_9a6ad_4 ?_
  refine e_sipush (nI 255) 8 rfl dJ1_canEncode_9a6ad_5 sc_255 ?_
  refine e_cmp_gtN 15 11 (by decide) rfl dJ1_canEncode_9a6ad_8 rfl rfl (by omega) (by omega) (fun h => ?_) (fun h => ?_)
  · omega
  refine e_iconst (nI 1) 12 rfl dJ1_canEncode_9a6ad_11 ic_1 ?_
  refine e_goto 16 (by decide) dJ1_canEncode_9a6ad_12 ?_
  exact e_zret dJ1_canEncode_9a6ad_16 rfl z1 k
theorem j_chr (hS : ∀ U : State, xP E U → lowS E sa va U) {c : Nat} (hc : c < 256) (k : K (some (.int (seeI (kindOf c)))) μ) : Cl E M_J1_chr [.ref va, .int (nI c), .int (nI 0), .int (nI 7)] μ K := by
  refine Cl.of0 2 pn_J1 (Nat.le_of_ble_eq_true rfl) ⟨rfl, rfl⟩ rfl ?_
  refine e_il1 1 rfl dJ1_indexOfChar_4cfef_0 ?_
  refine e_i2b 2 rfl dJ1_indexOfChar_4cfef_1 ?_
  refine e_is4 4 rfl dJ1_indexOfChar_4cfef_2 (by decide) rfl ?_
  refine e_il2 5 rfl dJ1_indexOfChar_4cfef_4 ?_
  refine e_is5 7 rfl dJ1_indexOfChar_4cfef_5 (by decide) rfl ?_
  have loop : ∀ (fu i : Nat), i + fu = 7 → (∀ j, j < i → ¬ kb j = (nI c).toInt8.toInt32) → Ev E M_J1_chr 0 0 7 [some (.ref va), some (.int (nI c)), some (.int (nI 0)), some (.int (nI 7)), some (.int (nI c).toInt8.toInt32), some (.int (nI i))] [] μ K := by
    intro fu
    induction fu with
    | zero =>
      intro i hi hn
      have ei : i = 7 := by omega
      subst ei
      refine e_il5 9 rfl dJ1_indexOfChar_4cfef_7 ?_
      refine e_il3 10 rfl dJ1_indexOfChar_4cfef_9 ?_
      refine e_cmp_geN 31 13 (by decide) rfl dJ1_indexOfChar_4cfef_10 rfl rfl (by omega) (by omega) (fun h => ?_) (fun h => ?_)
      · refine e_iconst (-1) 32 rfl dJ1_indexOfChar_4cfef_31 ic_m1 ?_
        refine e_iret dJ1_indexOfChar_4cfef_32 rfl ?_
        have := kb_no c hc hn
        rw [this] at k
        exact k
      · omega
    | succ fu ih =>
      intro i hi hn
      refine e_il5 9 rfl dJ1_indexOfChar_4cfef_7 ?_
      refine e_il3 10 rfl dJ1_indexOfChar_4cfef_9 ?_
      refine e_cmp_geN 31 13 (by decide) rfl dJ1_indexOfChar_4cfef_10 rfl rfl (by omega) (by omega) (fun h => ?_) (fun h => ?_)
      · omega
      refine e_al0 14 rfl dJ1_indexOfChar_4cfef_13 ?_
      refine e_il5 16 rfl dJ1_indexOfChar_4cfef_14 ?_
      refine e_baldLow (v := .int (kb i)) 17 rfl dJ1_indexOfChar_4cfef_16 (fun U hU => (hS U hU).2.2.2.2.1) (show i < 7 by omega) (by decide) rfl ?_
      refine e_il4 19 rfl dJ1_indexOfChar_4cfef_17 ?_
      refine e_cmp_ne 25 22 (by decide) rfl dJ1_indexOfChar_4cfef_19 (fun h1 => ?_) (fun h1 => ?_)
      · refine e_ii5 (nI (i + 1)) 28 rfl dJ1_indexOfChar_4cfef_25 (ii1 _) rfl ?_
        refine e_goto 7 (by decide) dJ1_indexOfChar_4cfef_28 ?_
        refine ih (i + 1) (by omega) (fun j hj => ?_)
        by_cases e : j = i
        · rw [e]; exact h1
        · exact hn j (by omega)
      · refine e_il5 24 rfl dJ1_indexOfChar_4cfef_22 ?_
        refine e_iret dJ1_indexOfChar_4cfef_24 rfl ?_
        have := kb_hit c hc i (by omega) h1
        rw [this] at k
        exact k
  exact loop 7 0 (by omega) (fun j hj => by omega)
theorem j_ix (hS : ∀ U : State, xP E U → lowS E sa va U) {c : Nat} (hc : c < 256) (k : K (some (.int (seeI (kindOf c)))) μ) : Cl E M_J1_ix [.ref va, .int (nI c), .int (nI 0), .int (nI 7)] μ K := by
  refine Cl.of0 0 pn_J1 (Nat.le_of_ble_eq_true rfl) ⟨rfl, rfl⟩ rfl ?_
  refine e_il1 1 rfl dJ1_indexOf_4cfef_0 ?_
  refine e_invS0 [_] 4 rfl dJ1_indexOf_4cfef_1 k_J1_88 mo_J1_can ⟨by decide, by decide⟩ ⟨rfl, rfl⟩ rfl rfl (Nat.le_of_ble_eq_true rfl) ?_
  refine j_can hc ?_
  refine e_if_neN 9 7 (by decide) rfl dJ1_indexOf_4cfef_4 rfl (by omega) (fun h => ?_) (fun h => ?_)
  rotate_left
  · cases h
  refine e_il2 10 rfl dJ1_indexOf_4cfef_9 ?_
  refine e_iconst (nI 0) 11 rfl dJ1_indexOf_4cfef_10 ic_0 ?_
  refine e_maxN 14 rfl dJ1_indexOf_4cfef_11 k_J1_92 (Nat.le_of_ble_eq_true rfl) (Nat.le_of_ble_eq_true rfl) rfl rfl (by omega) (by omega) ?_
  refine e_is2 15 rfl dJ1_indexOf_4cfef_14 (by decide) rfl ?_
  refine e_il3 16 rfl dJ1_indexOf_4cfef_15 ?_
  refine e_al0 17 rfl dJ1_indexOf_4cfef_16 ?_
  refine e_alenLow 18 rfl dJ1_indexOf_4cfef_17 (fun U hU => (hS U hU).2.2.2.2.1) ?_
  refine e_minN 21 rfl dJ1_indexOf_4cfef_18 k_J1_38 (Nat.le_of_ble_eq_true rfl) (Nat.le_of_ble_eq_true rfl) rfl rfl (by omega) (by omega) ?_
  refine e_is3 22 rfl dJ1_indexOf_4cfef_21 (by decide) rfl ?_
  refine e_il2 23 rfl dJ1_indexOf_4cfef_22 ?_
  refine e_il3 24 rfl dJ1_indexOf_4cfef_23 ?_
  refine e_cmp_ltN 29 27 (by decide) rfl dJ1_indexOf_4cfef_24 rfl rfl (by decide) (by decide) (fun h => ?_) (fun h => ?_)
  rotate_left
  · exact absurd h (by decide)
  refine e_al0 30 rfl dJ1_indexOf_4cfef_29 ?_
  refine e_il1 31 rfl dJ1_indexOf_4cfef_30 ?_
  refine e_il2 32 rfl dJ1_indexOf_4cfef_31 ?_
  refine e_il3 33 rfl dJ1_indexOf_4cfef_32 ?_
  refine e_invS0 [_, _, _, _] 36 rfl dJ1_indexOf_4cfef_33 k_J1_95 mo_J1_chr ⟨by decide, by decide⟩ ⟨rfl, rfl⟩ rfl rfl (Nat.le_of_ble_eq_true rfl) ?_
  exact j_chr hS hc (e_iret dJ1_indexOf_4cfef_36 rfl k)
theorem j_coder (hS : ∀ U : State, xP E U → lowS E sa va U) (k : K (some (.int 0)) μ) : Cl E M_J0_coder [.ref sa] μ K := by
  refine Cl.of0 0 pn_J0 (Nat.le_of_ble_eq_true rfl) ⟨rfl, rfl⟩ rfl ?_
  refine e_getsLow (v := .int 1) 3 rfl dJ0_coder_7d493_0 fl_J0_38 (fun U hU => (hS U hU).2.2.2.2.2) ?_
  refine e_if_eq 13 6 (by decide) rfl dJ0_coder_7d493_3 (fun h => ?_) (fun h => ?_)
  · exact absurd h (by decide)
  refine e_al0 7 rfl dJ0_coder_7d493_6 ?_
  refine e_getLow (v := .int 0) 10 rfl dJ0_coder_7d493_7 fl_J0_15 (fun U hU => (hS U hU).2.2.1) ?_
  refine e_goto 14 (by decide) dJ0_coder_7d493_10 ?_
  exact Ev.ret (r := some (.int 0)) rfl (Or.inl ⟨0, .byte, rfl, rfl, rfl, dJ0_coder_7d493_14⟩) k
theorem j_len (hS : ∀ U : State, xP E U → lowS E sa va U) (k : K (some (.int (nI 7))) μ) : Cl E M_J0_len [.ref sa] μ K := by
  refine Cl.of0 0 pn_J0 (Nat.le_of_ble_eq_true rfl) ⟨rfl, rfl⟩ rfl ?_
  refine e_al0 1 rfl dJ0_length_8abf5_0 ?_
  refine e_getLow (v := .ref va) 4 rfl dJ0_length_8abf5_1 fl_J0_9 (fun U hU => (hS U hU).2.2.2.1) ?_
  refine e_alenLow 5 rfl dJ0_length_8abf5_4 (fun U hU => (hS U hU).2.2.2.2.1) ?_
  refine e_al0 6 rfl dJ0_length_8abf5_5 ?_
  refine e_invVL [] 9 rfl dJ0_length_8abf5_6 k_J0_335 mo_J0_coder ⟨by decide, by decide⟩ ⟨rfl, rfl⟩ rfl rfl (fun U hU => (hS U hU).2.1) (Nat.le_of_ble_eq_true rfl) ?_
  refine j_coder hS ?_
  refine e_ishr 10 rfl dJ0_length_8abf5_9 ?_
  refine e_iret dJ0_length_8abf5_10 rfl ?_
  rw [sh_7]; exact k
theorem j_lat (hS : ∀ U : State, xP E U → lowS E sa va U) (k : K (some (.int (nI 1))) μ) : Cl E M_J0_lat [.ref sa] μ K := by
  refine Cl.of0 0 pn_J0 (Nat.le_of_ble_eq_true rfl) ⟨rfl, rfl⟩ rfl ?_
  refine e_getsLow (v := .int 1) 3 rfl dJ0_isLatin1_aae02_0 fl_J0_38 (fun U hU => (hS U hU).2.2.2.2.2) ?_
  refine e_if_eq 17 6 (by decide) rfl dJ0_isLatin1_aae02_3 (fun h => ?_) (fun h => ?_)
  · exact absurd h (by decide)
  refine e_al0 7 rfl dJ0_isLatin1_aae02_6 ?_
  refine e_getLow (v := .int 0) 10 rfl dJ0_isLatin1_aae02_7 fl_J0_15 (fun U hU => (hS U hU).2.2.1) ?_
  refine e_if_ne 17 13 (by decide) rfl dJ0_isLatin1_aae02_10 (fun h => ?_) (fun h => ?_)
  · exact absurd rfl h
  refine e_iconst (nI 1) 14 rfl dJ0_isLatin1_aae02_13 ic_1 ?_
  refine e_goto 18 (by decide) dJ0_isLatin1_aae02_14 ?_
  exact e_zret dJ0_isLatin1_aae02_18 rfl z1 k
theorem j_ix2 (hS : ∀ U : State, xP E U → lowS E sa va U) {c : Nat} (hc : c < 256) (k : K (some (.int (seeI (kindOf c)))) μ) : Cl E M_J0_ix2 [.ref sa, .int (nI c), .int (nI 0)] μ K := by
  refine Cl.of0 0 pn_J0 (Nat.le_of_ble_eq_true rfl) ⟨rfl, rfl⟩ rfl ?_
  refine e_al0 1 rfl dJ0_indexOf_7cf53_0 ?_
  refine e_invVL [] 4 rfl dJ0_indexOf_7cf53_1 k_J0_492 mo_J0_lat ⟨by decide, by decide⟩ ⟨rfl, rfl⟩ rfl rfl (fun U hU => (hS U hU).2.1) (Nat.le_of_ble_eq_true rfl) ?_
  refine j_lat hS ?_
  refine e_if_eqN 23 7 (by decide) rfl dJ0_indexOf_7cf53_4 rfl (by omega) (fun h => ?_) (fun h => ?_)
  · cases h
  refine e_al0 8 rfl dJ0_indexOf_7cf53_7 ?_
  refine e_getLow (v := .ref va) 11 rfl dJ0_indexOf_7cf53_8 fl_J0_9 (fun U hU => (hS U hU).2.2.2.1) ?_
  refine e_il1 12 rfl dJ0_indexOf_7cf53_11 ?_
  refine e_il2 13 rfl dJ0_indexOf_7cf53_12 ?_
  refine e_al0 14 rfl dJ0_indexOf_7cf53_13 ?_
  refine e_invVL [] 17 rfl dJ0_indexOf_7cf53_14 k_J0_505 mo_J0_len ⟨by decide, by decide⟩ ⟨rfl, rfl⟩ rfl rfl (fun U hU => (hS U hU).2.1) (Nat.le_of_ble_eq_true rfl) ?_
  refine j_len hS ?_
  refine e_invS0 [_, _, _, _] 20 rfl dJ0_indexOf_7cf53_17 k_J0_637 mo_J1_ix ⟨by decide, by decide⟩ ⟨rfl, rfl⟩ rfl rfl (Nat.le_of_ble_eq_true rfl) ?_
  refine j_ix hS hc ?_
  refine e_goto 36 (by decide) dJ0_indexOf_7cf53_20 ?_
  exact e_iret dJ0_indexOf_7cf53_36 rfl k
theorem j_ix1 (hS : ∀ U : State, xP E U → lowS E sa va U) {c : Nat} (hc : c < 256) (k : K (some (.int (seeI (kindOf c)))) μ) : Cl E M_J0_ix1 [.ref sa, .int (nI c)] μ K := by
  refine Cl.of0 0 pn_J0 (Nat.le_of_ble_eq_true rfl) ⟨rfl, rfl⟩ rfl ?_
  refine e_al0 1 rfl dJ0_indexOf_0f7a4_0 ?_
  refine e_il1 2 rfl dJ0_indexOf_0f7a4_1 ?_
  refine e_iconst (nI 0) 3 rfl dJ0_indexOf_0f7a4_2 ic_0 ?_
  refine e_invVL [_, _] 6 rfl dJ0_indexOf_0f7a4_3 k_J0_633 mo_J0_ix2 ⟨by decide, by decide⟩ ⟨rfl, rfl⟩ rfl rfl (fun U hU => (hS U hU).2.1) (Nat.le_of_ble_eq_true rfl) ?_
  exact j_ix2 hS hc (e_iret dJ0_indexOf_0f7a4_6 rfl k)
theorem k_here (hS : ∀ U : State, xP E U → lowS E sa va U) : KHere E := by
  intro μ K a t p l h k
  have hlt := h.lt
  have ak := h.1.1
  refine Cl.of0 1 pn_X5 (Nat.le_of_ble_eq_true rfl) ⟨rfl, rfl⟩ rfl ?_
  refine e_al0 1 rfl dX5_kindHere_0 ?_
  refine e_invV0 [] 4 rfl dX5_kindHere_1 k_X5_71 mo_X5_here rm_X5_kindHere_X5_here ⟨rfl, rfl⟩ rfl rfl (by assumption) (Nat.le_of_ble_eq_true rfl) ?_
  refine c_here h ?_
  refine e_is1 5 rfl dX5_kindHere_4 (by decide) rfl ?_
  refine e_il1 6 rfl dX5_kindHere_5 ?_
  refine e_iconst (-1) 7 rfl dX5_kindHere_6 ic_m1 ?_
  refine e_cmp_ne 14 10 (by decide) rfl dX5_kindHere_7 (fun h1 => ?_) (fun h1 => ?_)
  · cases q : l[p]? with
    | none => rw [q] at h1; exact absurd rfl h1
    | some c =>
      have hc := hlt p c q
      rw [q] at h1
      have ek : kAt l p = kindOf c := by unfold kAt; rw [q]; rfl
      refine e_ldcLow 16 rfl dX5_kindHere_14 (fun U hU => (hS U hU).1) ?_
      refine e_il1 17 rfl dX5_kindHere_16 ?_
      refine e_i2c 18 rfl dX5_kindHere_17 ?_
      show Ev _ _ _ _ _ _ (.int ((nI c).toUInt32 % 65536).toInt32 :: _) _ _
      rw [ch_id c hc]
      refine e_invVL [_] 21 rfl dX5_kindHere_18 k_X5_77 mo_J0_ix1 ⟨by decide, by decide⟩ ⟨rfl, rfl⟩ rfl rfl (fun U hU => (hS U hU).2.1) (Nat.le_of_ble_eq_true rfl) ?_
      rw [ek] at k
      exact j_ix1 hS hc (e_iret dX5_kindHere_21 rfl k)
  · have ek : kAt l p = none := by
      cases q : l[p]? with
      | none => unfold kAt; rw [q]; rfl
      | some c =>
        rw [q] at h1
        have hc := hlt p c q
        have h2 : (nI c).toInt = -1 := by
          show (seeI (some c)).toInt = -1
          rw [h1]; rfl
        rw [nI_toInt (by omega)] at h2
        omega
    rw [ek] at k
    refine e_iconst (-1) 11 rfl dX5_kindHere_10 ic_m1 ?_
    refine e_goto 21 (by decide) dX5_kindHere_11 ?_
    exact e_iret dX5_kindHere_21 rfl k
end JDK
