/-! the law: its look, its loop, its start -/
section LAWL
variable {E : En} {μ : Mm} {K : Option Value → Mm → Prop}
theorem Ev.wk {M : Mt} {kc ks kc' ks' pc : Nat} {ls : List (Option Value)} {st : List Value} {Q : Option Value → Mm → Prop} (h1 : kc ≤ kc') (h2 : ks ≤ ks') (k : Ev E M kc ks pc ls st μ Q) : Ev E M kc' ks' pc ls st μ Q := by
  intro hX p e s m args below meth c H locs cells slots mc ms lsA Z C R hL hb hl hr
  exact k hX p e s m args below meth c H locs cells slots mc ms lsA Z C R hL ⟨by omega, by omega, hb.2.2⟩ hl hr
theorem MI.x {m n : Nat} {S : Ast} (h : MI m S μ) : MI m S (sX μ n) := h
theorem MI.sm {m : Nat} {S : Ast} {μ' : Mm} (h : MI m S μ) (s : ∀ q, m ≤ q → q < m + 38 → same q μ μ') : MI m S μ' := by
  have f : Fx (fun q => ¬ (m ≤ q ∧ q < m + 38)) μ (mN μ, mK μ, mL μ, mF μ', mB μ', mA μ', mJ μ', mP μ', mO μ') := ⟨rfl, rfl, rfl, fun b hb => by
    have hb' := Decidable.not_not.mp hb
    have g := s b hb'.1 hb'.2
    exact ⟨g.2.2.1, g.2.2.2.1, g.2.2.2.2.1, g.2.2.2.2.2.1, g.2.2.2.2.2.2.1, g.2.2.2.2.2.2.2⟩⟩
  obtain ⟨h1, h2, h3, h4, h5, h6, h7⟩ := h.off f (fun q a b c => c ⟨a, b⟩)
  have g1 := h.1
  refine ⟨?_, h2, h3, h4, h5, h6, h7⟩
  unfold Mg
  rw [(s m (by omega) (by omega)).1, (s m (by omega) (by omega)).2.2.2.2.2.2.1, (s (m + 1) (by omega) (by omega)).1, (s (m + 1) (by omega) (by omega)).2.1, (s (m + 2) (by omega) (by omega)).1, (s (m + 2) (by omega) (by omega)).2.1, (s (m + 3) (by omega) (by omega)).1, (s (m + 3) (by omega) (by omega)).2.1, (s (m + 4) (by omega) (by omega)).1, (s (m + 4) (by omega) (by omega)).2.1, (s (m + 5) (by omega) (by omega)).1, (s (m + 5) (by omega) (by omega)).2.1, (s (m + 6) (by omega) (by omega)).1, (s (m + 6) (by omega) (by omega)).2.1, (s (m + 7) (by omega) (by omega)).1, (s (m + 7) (by omega) (by omega)).2.1, (s (m + 8) (by omega) (by omega)).1, (s (m + 8) (by omega) (by omega)).2.1, (s (m + 9) (by omega) (by omega)).1, (s (m + 9) (by omega) (by omega)).2.1, (s (m + 10) (by omega) (by omega)).1, (s (m + 10) (by omega) (by omega)).2.1, (s (m + 11) (by omega) (by omega)).1, (s (m + 11) (by omega) (by omega)).2.1, (s (m + 12) (by omega) (by omega)).1, (s (m + 12) (by omega) (by omega)).2.1, (s (m + 13) (by omega) (by omega)).1, (s (m + 13) (by omega) (by omega)).2.1, (s (m + 14) (by omega) (by omega)).1, (s (m + 14) (by omega) (by omega)).2.1, (s (m + 15) (by omega) (by omega)).1, (s (m + 15) (by omega) (by omega)).2.1, (s (m + 16) (by omega) (by omega)).1, (s (m + 16) (by omega) (by omega)).2.1, (s (m + 17) (by omega) (by omega)).1, (s (m + 17) (by omega) (by omega)).2.1, (s (m + 18) (by omega) (by omega)).1, (s (m + 18) (by omega) (by omega)).2.1, (s (m + 19) (by omega) (by omega)).1, (s (m + 19) (by omega) (by omega)).2.1, (s (m + 20) (by omega) (by omega)).1, (s (m + 20) (by omega) (by omega)).2.1, (s (m + 21) (by omega) (by omega)).1, (s (m + 21) (by omega) (by omega)).2.1, (s (m + 22) (by omega) (by omega)).1, (s (m + 22) (by omega) (by omega)).2.1, (s (m + 23) (by omega) (by omega)).1, (s (m + 23) (by omega) (by omega)).2.1, (s (m + 24) (by omega) (by omega)).1, (s (m + 24) (by omega) (by omega)).2.1, (s (m + 25) (by omega) (by omega)).1, (s (m + 25) (by omega) (by omega)).2.1, (s (m + 26) (by omega) (by omega)).1, (s (m + 26) (by omega) (by omega)).2.1, (s (m + 27) (by omega) (by omega)).1, (s (m + 27) (by omega) (by omega)).2.1, (s (m + 28) (by omega) (by omega)).1, (s (m + 28) (by omega) (by omega)).2.1, (s (m + 29) (by omega) (by omega)).1, (s (m + 29) (by omega) (by omega)).2.1, (s (m + 30) (by omega) (by omega)).1, (s (m + 30) (by omega) (by omega)).2.1, (s (m + 31) (by omega) (by omega)).1, (s (m + 31) (by omega) (by omega)).2.1, (s (m + 32) (by omega) (by omega)).1, (s (m + 32) (by omega) (by omega)).2.1, (s (m + 33) (by omega) (by omega)).1, (s (m + 33) (by omega) (by omega)).2.1, (s (m + 34) (by omega) (by omega)).1, (s (m + 34) (by omega) (by omega)).2.1, (s (m + 35) (by omega) (by omega)).1, (s (m + 35) (by omega) (by omega)).2.1, (s (m + 36) (by omega) (by omega)).1, (s (m + 36) (by omega) (by omega)).2.1, (s (m + 37) (by omega) (by omega)).1, (s (m + 37) (by omega) (by omega)).2.1]
  exact g1
theorem DI.sm0 {d : Nat} {μ' : Mm} (h : DI d S0 μ) (s : ∀ q, d ≤ q → q < d + 1255 → same q μ μ') : DI d S0 μ' := by
  obtain ⟨⟨a1, a2, a3⟩, g2, g3, g4, g5, ⟨g6, ra, sa, g6'⟩, g7, g8, ⟨b1, π, b4, b5, b6, b7⟩, g10, g11, ⟨bb, c1, c2⟩⟩ := h
  have sd := s d (by omega) (by omega)
  have s3 := s (d + 3) (by omega) (by omega)
  have s262 := s (d + 262) (by omega) (by omega)
  have s294 := s (d + 294) (by omega) (by omega)
  have s300 := s (d + 300) (by omega) (by omega)
  refine ⟨⟨by rw [sd.1, sd.2.2.2.2.2.2.1]; exact a1, by rw [s3.1, s3.2.1, s262.1, s262.2.1, s294.1, s294.2.1, s300.1, s300.2.1]; exact a2, fun i hi => by rw [s262.2.2.2.2.2.2.2]; exact a3 i hi⟩, g2.sm (fun q a b => s q (by omega) (by omega)), g3.sm (s _ (by omega) (by omega)), ⟨g4.1.sm (fun q a b => s q (by omega) (by omega)), g4.2.sm0 (fun q a b => s q (by omega) (by omega))⟩, g5.sm (fun q a b => s q (by omega) (by omega)), ⟨g6.sm (fun q a b => s q (by omega) (by omega)), ra, sa, by unfold Rp; rw [(s (d + 263) (by omega) (by omega)).2.2.2.2.2.2.1]; exact g6'⟩, ⟨g7.1.sm (fun q a b => s q (by omega) (by omega)), g7.2.sm (fun q a b => s q (by omega) (by omega))⟩, g8.sm (fun q a b => s q (by omega) (by omega)), ⟨fun j hj => (b1 j hj).sm (fun q a b => s q ?_ ?_), π, b4, b5, by rw [sd.2.2.2.2.2.2.1]; exact b6, fun i hi => ⟨by rw [s3.2.2.2.2.2.2.2]; exact (b7 i hi).1, ?_⟩⟩, ⟨by rw [sd.2.2.1]; exact g10.1, fun i hi => (g10.2.1 i hi).sm (fun q a b => s q ?_ ?_), fun i nm hi => ?_⟩, ?_, ⟨bb, by rw [sd.2.2.1]; exact c1, fun q => by rw [s294.2.2.2.2.1]; exact c2 q⟩⟩
  · have := shA_in (d := d) hj; omega
  · have := shA_in (d := d) hj; omega
  · have b7' : ShM μ (shA d (π i)) none := (b7 i hi).2
    have b8 : ShM μ' (shA d (π i)) none := b7'.sm0 (fun q a b => s q (by have := shA_in (d := d) (b4 i (by omega)); omega) (by have := shA_in (d := d) (b4 i (by omega)); omega))
    exact b8
  · unfold nA at a; omega
  · unfold nA at b; omega
  · have hi' : ([] : List Nm)[i]? = some nm := hi
    simp at hi'
  · rcases g11 with e | ⟨i, nm, hi, _⟩
    · exact Or.inl (by rw [sd.2.2.1]; exact e)
    · have hi' : ([] : List Nm)[i]? = some nm := hi
      simp at hi'
theorem q_look_lt {S : Ast} {x n : Int32} : (q_look S x n).1 < 3 := by
  unfold q_look
  split
  · split
    · split
      · exact (by decide : 0 < 3)
      · exact (by decide : 2 < 3)
    · exact (by decide : 2 < 3)
  · exact (by decide : 1 < 3)
theorem lcmp_self (x : Int64) : lg_cmp x x = 0 := by simp [lg_cmp]
theorem and31 (x : Int32) : ∃ r, r < 32 ∧ x &&& nI 31 = nI r := by
  refine ⟨(x.toBitVec &&& 31#32).toNat, ?_, ?_⟩
  · rw [BitVec.toNat_and]
    exact Nat.lt_of_le_of_lt Nat.and_le_right (by decide)
  · apply Int32.toBitVec_inj.mp
    show (x &&& Int32.ofNat 31).toBitVec = (Int32.ofNat (x.toBitVec &&& 31#32).toNat).toBitVec
    rw [Int32.toBitVec_and, Int32.toBitVec_ofNat', Int32.toBitVec_ofNat']
    simp
theorem lt6 : ∀ L, L < 6 → nI L - nI 6 < nI 0 := by decide +kernel
variable {b d L i kc ks : Nat} {xs : Nat → Int32} {S : Ast} {l5 l6 : Option Value}
theorem law_look (hl : (xl E).stackTraces = false) (hx : ∀ U : State, xP E U → lowX E U) (hSc : ∀ U : State, xP E U → va_T .int b L (fun j => .int (xs j)) (aE E) U (xH E)) (hL : L ≤ 3072) (hiL : i + 6 ≤ L) (h : LwS d S μ) (hN : ∀ S' μ' l5' l6', LwS d S' μ' → Ev E M_law kc ks 808 (lwL b d i l5' l6') [] μ' K) : Ev E M_law (kc + 1) (ks + 6) 517 (lwL b d i l5 l6) [] μ K := by
  have hW := h.1
  have hD := h.2.1
  have hM := h.2.2.1
  have gk := hD.1.1.1
  refine e_al1 518 rfl dL_law_517 ?_
  refine e_al0 519 rfl dL_law_518 ?_
  refine e_il4 521 rfl dL_law_519 ?_
  refine e_iconst (nI 1) 522 rfl dL_law_521 ic_1 ?_
  first | refine e_iaddN 523 rfl dL_law_522 rfl rfl ?_ | refine e_iadd 523 rfl dL_law_522 ?_
  refine e_ialdLow 524 rfl dL_law_523 hSc rfl (by omega) (by omega) ?_
  refine e_al0 525 rfl dL_law_524 ?_
  refine e_il4 527 rfl dL_law_525 ?_
  refine e_iconst (nI 2) 528 rfl dL_law_527 ic_2 ?_
  first | refine e_iaddN 529 rfl dL_law_528 rfl rfl ?_ | refine e_iadd 529 rfl dL_law_528 ?_
  refine e_ialdLow 530 rfl dL_law_529 hSc rfl (by omega) (by omega) ?_
  refine e_al3 531 rfl dL_law_530 ?_
  refine e_invLk 534 rfl dL_law_531 (wt 826 (by decide +kernel) rfl) ⟨by decide, by decide⟩ (Nat.le_of_ble_eq_true rfl) ?_
  refine l_look hl hx hW hD h.2.2.2.1 h.2.2.2.2 (by omega) (fun μ1 hF1 hD1 hj => ?_)
  have hM1 : MI (d + 1255) S μ1 := (hM.x (n := mN μ1)).off (Q := fun q => (d ≤ q ∧ q < d + 1255) ∨ q = d + 1293) ⟨rfl, hF1.2.1, hF1.2.2.1, hF1.2.2.2⟩ (fun q a b => by omega)
  have mk1 := hM1.1.1
  refine e_is5 536 rfl dL_law_534 (by decide) rfl ?_
  refine e_al2 537 rfl dL_law_536 ?_
  refine e_al0 538 rfl dL_law_537 ?_
  refine e_il4 540 rfl dL_law_538 ?_
  refine e_iconst (nI 1) 541 rfl dL_law_540 ic_1 ?_
  first | refine e_iaddN 542 rfl dL_law_541 rfl rfl ?_ | refine e_iadd 542 rfl dL_law_541 ?_
  refine e_ialdLow 543 rfl dL_law_542 hSc rfl (by omega) (by omega) ?_
  refine e_al0 544 rfl dL_law_543 ?_
  refine e_il4 546 rfl dL_law_544 ?_
  refine e_iconst (nI 2) 547 rfl dL_law_546 ic_2 ?_
  first | refine e_iaddN 548 rfl dL_law_547 rfl rfl ?_ | refine e_iadd 548 rfl dL_law_547 ?_
  refine e_ialdLow 549 rfl dL_law_548 hSc rfl (by omega) (by omega) ?_
  refine e_invV0 [_, _] 552 rfl dL_law_549 k_L_66 mo_X10_look ⟨by decide, by decide⟩ ⟨rfl, rfl⟩ rfl rfl (by assumption) (Nat.le_of_ble_eq_true rfl) ?_
  refine m_look hW hM1 (fun μ2 hF2 hM2 ht => ?_)
  have mk2 := hM2.1.1
  refine e_is6 554 rfl dL_law_552 (by decide) rfl ?_
  refine e_al2 555 rfl dL_law_554 ?_
  refine e_invV0 [] 558 rfl dL_law_555 k_L_67 mo_X10_thrown ⟨by decide, by decide⟩ ⟨rfl, rfl⟩ rfl rfl (by assumption) (Nat.le_of_ble_eq_true rfl) ?_
  refine m_thrown mk2 ?_
  rw [ht]
  refine e_il5 560 rfl dL_law_558 ?_
  refine e_cmp_eq 565 563 (by decide) rfl dL_law_560 (fun _ => ?_) (fun q => absurd rfl q)
  refine e_il5 567 rfl dL_law_565 ?_
  have k2 : mK μ2 (d + 1293) = 14 := by rw [hF2.2.1, hF1.2.1]; exact h.2.2.2.1
  have o2 : mL μ2 (d + 1293) = 1 := by rw [hF2.2.2.1, hF1.2.2.1]; exact h.2.2.2.2
  have hl2 : LwS d S μ2 := ⟨hW, hD1.off (Q := fun q => d + 1255 ≤ q ∧ q < d + 1255 + 38) hW hF2.fx (fun q a b => by omega), hM2, k2, o2⟩
  have q3 := q_look_lt (S := S) (x := xs (i + 1)) (n := xs (i + 2))
  have j2 : mJ μ2 (d + 1293) = mJ μ1 (d + 1293) := (hF2.2.2.2.2.2 (d + 1293) (by omega)).2.2.2
  refine e_if_neN 582 570 (by decide) rfl dL_law_567 rfl (by omega) (fun _ => e_goto 808 (by decide) dL_law_582 (hN S μ2 _ _ hl2)) (fun h0 => ?_)
  refine e_al3 571 rfl dL_law_570 ?_
  refine e_iconst (nI 0) 572 rfl dL_law_571 ic_0 ?_
  refine e_laldv (v := (q_look S (xs (i + 1)) (xs (i + 2))).2.toInt64) 573 rfl dL_law_572 k2 o2 rfl (show 0 < 1 by decide) (by decide) (by rw [j2]; exact hj h0) ?_
  refine e_il6 575 rfl dL_law_573 ?_
  refine e_i2l 576 rfl dL_law_575 ?_
  refine e_lcmp 577 rfl dL_law_576 ?_
  exact e_if_eq 582 580 (by decide) rfl dL_law_577 (fun _ => e_goto 808 (by decide) dL_law_582 (hN S μ2 _ _ hl2)) (fun q => absurd (lcmp_self _) q)
theorem law_disp (KH : KHere E) (hl : (xl E).stackTraces = false) (hx : ∀ U : State, xP E U → lowX E U) (hSc : ∀ U : State, xP E U → va_T .int b L (fun j => .int (xs j)) (aE E) U (xH E)) (hL : L ≤ 3072) (hiL : i + 6 ≤ L) (h : LwS d S μ) (hN : ∀ S' μ' l5' l6', LwS d S' μ' → Ev E M_law kc ks 808 (lwL b d i l5' l6') [] μ' K) : Ev E M_law (kc + 1) (ks + 6) 33 (lwL b d i l5 l6) [] μ K := by
  have hN' : ∀ S' μ', LwS d S' μ' → Ev E M_law (kc + 1) (ks + 6) 808 (lwL b d i l5 l6) [] μ' K := fun S' μ' h' => (hN S' μ' l5 l6 h').wk (by omega) (by omega)
  refine e_al0 34 rfl dL_law_33 ?_
  refine e_il4 36 rfl dL_law_34 ?_
  refine e_ialdLow 37 rfl dL_law_36 hSc rfl (by omega) (by omega) ?_
  refine e_bipush (nI 31) 39 rfl dL_law_37 bc_31 ?_
  refine e_iand 40 rfl dL_law_39 ?_
  obtain ⟨r, hr, er⟩ := and31 (xs i)
  rw [er]
  have tr := nI_toInt (n := r) (by omega)
  have hc : r = 0 ∨ r = 1 ∨ r = 2 ∨ r = 3 ∨ r = 4 ∨ r = 5 ∨ r = 6 ∨ r = 7 ∨ r = 8 ∨ r = 9 ∨ r = 10 ∨ r = 11 ∨ r = 12 ∨ r = 13 ∨ r = 14 ∨ r = 15 ∨ r = 16 ∨ 17 ≤ r := by omega
  rcases hc with e | e | e | e | e | e | e | e | e | e | e | e | e | e | e | e | e | e
  · subst e
    refine e_tabIn 124 dL_law_40 (by rw [tr]; omega) (by rw [tr]; omega) (by rw [tr]; rfl) (by decide) ?_
    exact law_feed hSc hL hiL h hN'
  · subst e
    refine e_tabIn 197 dL_law_40 (by rw [tr]; omega) (by rw [tr]; omega) (by rw [tr]; rfl) (by decide) ?_
    exact law_shape KH hSc hL hiL h hN'
  · subst e
    refine e_tabIn 234 dL_law_40 (by rw [tr]; omega) (by rw [tr]; omega) (by rw [tr]; rfl) (by decide) ?_
    exact law_fault hSc hL hiL h hN'
  · subst e
    refine e_tabIn 259 dL_law_40 (by rw [tr]; omega) (by rw [tr]; omega) (by rw [tr]; rfl) (by decide) ?_
    exact law_know hSc hL hiL h hN'
  · subst e
    refine e_tabIn 308 dL_law_40 (by rw [tr]; omega) (by rw [tr]; omega) (by rw [tr]; rfl) (by decide) ?_
    exact law_forget hSc hL hiL h hN'
  · subst e
    refine e_tabIn 357 dL_law_40 (by rw [tr]; omega) (by rw [tr]; omega) (by rw [tr]; rfl) (by decide) ?_
    exact law_name hSc hL hiL h hN'
  · subst e
    refine e_tabIn 394 dL_law_40 (by rw [tr]; omega) (by rw [tr]; omega) (by rw [tr]; rfl) (by decide) ?_
    exact law_readings hSc hL hiL h hN'
  · subst e
    refine e_tabIn 431 dL_law_40 (by rw [tr]; omega) (by rw [tr]; omega) (by rw [tr]; rfl) (by decide) ?_
    exact law_cost hSc hL hiL h hN'
  · subst e
    refine e_tabIn 468 dL_law_40 (by rw [tr]; omega) (by rw [tr]; omega) (by rw [tr]; rfl) (by decide) ?_
    exact law_kind hSc hL hiL h hN'
  · subst e
    refine e_tabIn 517 dL_law_40 (by rw [tr]; omega) (by rw [tr]; omega) (by rw [tr]; rfl) (by decide) ?_
    exact law_look hl hx hSc hL hiL h hN
  · subst e
    refine e_tabIn 585 dL_law_40 (by rw [tr]; omega) (by rw [tr]; omega) (by rw [tr]; rfl) (by decide) ?_
    exact law_order hSc hL hiL h hN'
  · subst e
    refine e_tabIn 610 dL_law_40 (by rw [tr]; omega) (by rw [tr]; omega) (by rw [tr]; rfl) (by decide) ?_
    exact law_sign hSc hL hiL h hN'
  · subst e
    refine e_tabIn 659 dL_law_40 (by rw [tr]; omega) (by rw [tr]; omega) (by rw [tr]; rfl) (by decide) ?_
    exact law_agree hSc hL hiL h hN'
  · subst e
    refine e_tabIn 696 dL_law_40 (by rw [tr]; omega) (by rw [tr]; omega) (by rw [tr]; rfl) (by decide) ?_
    exact law_father hSc hL hiL h hN'
  · subst e
    refine e_tabIn 733 dL_law_40 (by rw [tr]; omega) (by rw [tr]; omega) (by rw [tr]; rfl) (by decide) ?_
    exact law_table hSc hL hiL h hN'
  · subst e
    refine e_tabIn 770 dL_law_40 (by rw [tr]; omega) (by rw [tr]; omega) (by rw [tr]; rfl) (by decide) ?_
    exact law_fallen hSc hL hiL h hN'
  · subst e
    refine e_tabIn 783 dL_law_40 (by rw [tr]; omega) (by rw [tr]; omega) (by rw [tr]; rfl) (by decide) ?_
    exact law_count hSc hL hiL h hN'
  · refine e_tabOut 808 dL_law_40 (Or.inr (by rw [tr]; omega)) (by decide) ?_
    exact hN' S μ h
theorem law_loop (KH : KHere E) (hl : (xl E).stackTraces = false) (hx : ∀ U : State, xP E U → lowX E U) (hSc : ∀ U : State, xP E U → va_T .int b L (fun j => .int (xs j)) (aE E) U (xH E)) (hL : L ≤ 3072) (hL6 : 6 ≤ L) (hK : ∀ μ', K (some (.int (nI 1))) μ') : ∀ (fu i : Nat) (S : Ast) (μ : Mm) (l5 l6 : Option Value), i ≤ 3100 → L ≤ i + 6 * fu + 5 → LwS d S μ → Ev E M_law fu (6 * fu) 23 (lwL b d i l5 l6) [] μ K := by
  intro fu
  induction fu with
  | zero =>
    intro i S μ l5 l6 hi hf h
    refine e_il4 25 rfl dL_law_23 ?_
    refine e_al0 26 rfl dL_law_25 ?_
    refine e_alenLow 27 rfl dL_law_26 hSc ?_
    refine e_bipush (nI 6) 29 rfl dL_law_27 bc_6 ?_
    refine e_isubN 30 rfl dL_law_29 rfl rfl hL6 ?_
    refine e_cmp_gtN 814 33 (by decide) rfl dL_law_30 rfl rfl (by omega) (by omega) (fun _ => ?_) (fun q => by omega)
    refine e_iconst (nI 1) 815 rfl dL_law_814 ic_1 ?_
    exact e_zret dL_law_815 rfl z1 (hK μ)
  | succ fu ih =>
    intro i S μ l5 l6 hi hf h
    refine e_il4 25 rfl dL_law_23 ?_
    refine e_al0 26 rfl dL_law_25 ?_
    refine e_alenLow 27 rfl dL_law_26 hSc ?_
    refine e_bipush (nI 6) 29 rfl dL_law_27 bc_6 ?_
    refine e_isubN 30 rfl dL_law_29 rfl rfl hL6 ?_
    refine e_cmp_gtN 814 33 (by decide) rfl dL_law_30 rfl rfl (by omega) (by omega) (fun _ => ?_) (fun q => ?_)
    · refine e_iconst (nI 1) 815 rfl dL_law_814 ic_1 ?_
      exact e_zret dL_law_815 rfl z1 (hK μ)
    · refine law_disp KH hl hx hSc hL (by omega) h (fun S' μ' l5' l6' h' => ?_)
      refine e_ii4 (nI (i + 6)) 811 rfl dL_law_808 (ii6 _) rfl ?_
      refine e_goto 23 (by decide) dL_law_811 ?_
      exact ih (i + 6) S' μ' l5' l6' (by omega) (by omega) h'
theorem law_ev (KH : KHere E) (IR : IRd E) (hl : (xl E).stackTraces = false) (hx : ∀ U : State, xP E U → lowX E U) (hSc : ∀ U : State, xP E U → va_T .int b L (fun j => .int (xs j)) (aE E) U (xH E)) (hL : L ≤ 3072) (hK : ∀ μ', K (some (.int (nI 1))) μ') (μ0 : Mm) : Ev E M_law 601024 7293034 0 [some (.ref b), none, none, none, none, none, none] [] μ0 K := by
  refine e_newB 601023 7293019 3 rfl dL_law_0 nc_L_8 rfl rfl ?_
  refine e_dup 4 rfl dL_law_3 rfl ?_
  refine e_invIB [] 599769 7247902 7 rfl dL_law_4 k_L_17 mo_X9_init ⟨by decide, by decide⟩ rfl rfl rfl rfl (Nat.le_of_ble_eq_true rfl) ?_
  refine i_desk (ν := sN μ0 10 0) IR ⟨rfl, sN_cell.1, sN_cell.2.2.2.2.2.2.1, sN_cell.2.2.1, fun q _ => same.rf⟩ (fun μ1 hn1 hD1 hs1 => ?_)
  refine e_as1 8 rfl dL_law_7 (by decide) rfl ?_
  refine e_newB 599768 7247853 11 rfl dL_law_8 nc_L_18 rfl rfl ?_
  refine e_dup 12 rfl dL_law_11 rfl ?_
  refine e_invIB [] 599731 7220896 15 rfl dL_law_12 k_L_20 mo_X10_init ⟨by decide, by decide⟩ rfl rfl rfl rfl (Nat.le_of_ble_eq_true rfl) ?_
  refine i_model Ob.start (fun μ2 hn2 hM2 hs2 => ?_)
  rw [hn1] at hn2 hM2 hs2 ⊢
  generalize mN μ0 = d at hn1 hD1 hn2 hM2 hs2 hs1 ⊢
  refine e_as2 16 rfl dL_law_15 (by decide) rfl ?_
  refine e_iconst (nI 1) 17 rfl dL_law_16 ic_1 ?_
  refine e_newaB 599730 7220895 19 rfl dL_law_17 (Or.inr (Or.inr (Or.inl ⟨rfl, rfl⟩))) ac_long rfl (by decide) rfl rfl ?_
  rw [hn2]
  refine e_as3 20 rfl dL_law_19 (by decide) rfl ?_
  refine e_iconst (nI 0) 21 rfl dL_law_20 ic_0 ?_
  refine e_is4 23 rfl dL_law_21 (by decide) rfl ?_
  have hc := sN_cell (μ := μ2) (k := 14) (l := 1)
  rw [hn2] at hc
  have hS : LwS d S0 (sN μ2 14 1) := ⟨wf_S0, hD1.sm0 (fun q a b => ((sN_same (by rw [hn1]; omega)).trans (hs2 q b)).trans (sN_same (by rw [hn2]; omega))), hM2.sm (fun q a b => sN_same (by rw [hn2]; omega)), hc.1, hc.2.1⟩
  by_cases h6 : 6 ≤ L
  · exact (law_loop KH hl hx hSc hL h6 hK 512 0 S0 _ none none (by omega) (by omega) hS).wk (by omega) (by omega)
  · refine e_il4 25 rfl dL_law_23 ?_
    refine e_al0 26 rfl dL_law_25 ?_
    refine e_alenLow 27 rfl dL_law_26 hSc ?_
    refine e_bipush (nI 6) 29 rfl dL_law_27 bc_6 ?_
    refine e_isub 30 rfl dL_law_29 ?_
    refine e_cmp_gt 814 33 (by decide) rfl dL_law_30 (fun _ => ?_) (fun q => absurd (lt6 L (by omega)) q)
    refine e_iconst (nI 1) 815 rfl dL_law_814 ic_1 ?_
    exact e_zret dL_law_815 rfl z1 (hK _)
end LAWL
