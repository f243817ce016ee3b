/-! NameDesk: know and forget -/
section KNOW
variable {E : En} {μ : Mm} {K : Option Value → Mm → Prop}
theorem nI_nm1 {i : Nat} (h : i < 2 ^ 31) : nI i ≠ -1 := fun e => absurd (e ▸ nI_pos' h) (by decide)
def bkQ (d : Nat) : Nat → Prop := fun q => s2 (d + 1) q ∨ bS (d + 15) q ∨ lcS d q
theorem bkQ_n {d q : Nat} (h : (d + 3 ≤ q ∧ q < d + 15) ∨ (d + 259 ≤ q ∧ q < d + 355)) : ¬ bkQ d q := by
  unfold bkQ s2 bS lcS nA
  rintro (a | a | a | ⟨i, _, a⟩) <;> omega
theorem DI.book {d : Nat} {S : Ast} {μ' : Mm} {l : List Nat} {es : List Ent} (h : DI d S μ) (f : Fx (bkQ d) μ μ') (hP : ∀ g, mP μ' d g = mP μ d g) (hT : TI μ' d l) (hB : BI μ' d es) (hN : NmI μ' d (aS S) es (aL S) (aN S)) (h9 : mF μ' d 9 = -1) (h11 : mF μ' d 11 = nI 0) : DI d (l, S.2.1, es, S.2.2.2) μ' := by
  obtain ⟨h1, h2, h3, h4, h5, h6, h7, h8, h9', h10, h11', h12⟩ := h
  exact ⟨h1.fx f (fun g _ => hP g) (bkQ_n (by omega)), hT, h3.fx f (bkQ_n (by omega)), hB, h5.fx f (bkQ_n (by omega)), h6.fx f (fun q a b => bkQ_n (by omega)), h7.fx f (fun q a b => bkQ_n (by omega)), h8.fx f (bkQ_n (by omega)), h9'.fx f (hP 3) (bkQ_n (by omega)) (fun q a => bkQ_n (by omega)), hN, Or.inl h9, false, h11, fun q => by cases q⟩
theorem Fr.wscr {d : Nat} {μ' : Mm} (h : Fr (wS (d + 259)) μ μ') : Fr (scr d) μ μ' := h.mono (fun q a => by unfold wS at a; unfold scr; omega)
def q_know (S : Ast) (x y n : Int32) : Int32 × Ast := match entQ (aT S) x y n with
  | some e => if (aB S).length < 80 ∧ e ∉ aB S then (nI ((aB S).length + 1), ([], S.2.1, aB S ++ [e], S.2.2.2)) else (-1, S)
  | none => (-1, S)
theorem lcS_b {d q : Nat} (h1 : d < q) (h2 : q < d + 355) : ¬ lcS d q := by
  unfold lcS nA
  rintro (a | ⟨i, _, a⟩) <;> omega
theorem d_know {d : Nat} {S : Ast} {x y n : Int32} (hW : WF S) (hD : DI d S μ) (k : ∀ μ', DF d μ μ' → DI d (q_know S x y n).2 μ' → K (some (.int (q_know S x y n).1)) μ') : Cl E M_X9_know [.ref d, .int x, .int y, .int n] μ K := by
  have gk0 := hD.1.1.1
  unfold q_know at k
  refine Cl.of0 0 pn_X9 (Nat.le_of_ble_eq_true rfl) ⟨rfl, rfl⟩ rfl ?_
  refine e_al0 1 rfl dX9_know_0 ?_
  refine e_il1 2 rfl dX9_know_1 ?_
  refine e_il2 3 rfl dX9_know_2 ?_
  refine e_il3 4 rfl dX9_know_3 ?_
  refine e_invV0 [_, _, _] 7 rfl dX9_know_4 k_X9_128 mo_X9_isEntry rm_X9_know_X9_isEntry ⟨rfl, rfl⟩ rfl rfl (by assumption) (Nat.le_of_ble_eq_true rfl) ?_
  refine c_isEntry hD (fun he μ1 hF1 => ?_) (fun ld kd w he hl hk hx hy hwf μ1 hF1 hwl => ?_)
  · rw [he] at k
    first | refine e_if_eqB 39 10 (by decide) rfl dX9_know_7 rfl (fun y1 => ?_) (fun y1 => ?_) | refine e_if_eqN 39 10 (by decide) rfl dX9_know_7 rfl (by omega) (fun y1 => ?_) (fun y1 => ?_) | refine e_if_eq 39 10 (by decide) rfl dX9_know_7 (fun y1 => ?_) (fun y1 => ?_)
    · refine e_iconst (-1) 40 rfl dX9_know_39 ic_m1 ?_
      refine e_iret dX9_know_40 rfl ?_
      exact k μ1 (hF1.fx.mono (fun q a => by unfold wS at a; omega)) (hD.scrF hW hF1.wscr)
    · exact absurd rfl y1
  rw [he] at k
  simp only [] at k
  have hD1 := hD.scrF hW hF1.wscr
  have hX1 : DF d μ μ1 := hF1.fx.mono (fun q a => by unfold wS at a; omega)
  obtain ⟨⟨⟨gk, p0, p1, p2, p4, p5, px⟩, _⟩, hT, _, ⟨hBk, hBc⟩, hh, _⟩ := id hD1
  have bk := hBk.1.1
  have b3 := hBc.1
  have b80 := hBc.2.1
  subst hx
  subst hy
  first | refine e_if_eqB 39 10 (by decide) rfl dX9_know_7 rfl (fun y1 => ?_) (fun y1 => ?_) | refine e_if_eqN 39 10 (by decide) rfl dX9_know_7 rfl (by omega) (fun y1 => ?_) (fun y1 => ?_) | refine e_if_eq 39 10 (by decide) rfl dX9_know_7 (fun y1 => ?_) (fun y1 => ?_)
  · exact absurd y1 (by decide)
  refine e_al0 11 rfl dX9_know_10 ?_
  refine e_getR 14 rfl dX9_know_11 f_X9_37 (by assumption) (by assumption) ?_
  first | refine e_getIv 17 rfl dX9_know_14 f_X9_132 (by assumption) (by first | assumption | (simp only [mN_sF, mK_sF, mL_sF, mF_sF, mB_sF, mA_sF, mJ_sF, mP_sF, mO_sF, mN_sB, mK_sB, mL_sB, mF_sB, mB_sB, mA_sB, mJ_sB, mP_sB, mO_sB, mN_sA, mK_sA, mL_sA, mF_sA, mB_sA, mA_sA, mJ_sA, mP_sA, mO_sA, mN_sJ, mK_sJ, mL_sJ, mF_sJ, mB_sJ, mA_sJ, mJ_sJ, mP_sJ, mO_sJ, mN_sP, mK_sP, mL_sP, mF_sP, mB_sP, mA_sP, mJ_sP, mP_sP, mO_sP, mN_sO, mK_sO, mL_sO, mF_sO, mB_sO, mA_sO, mJ_sO, mP_sO, mO_sO, up2, if_true, if_false, eq_self, ite_true, ite_false, reduceIte, Nat.add_left_cancel_iff, Nat.add_eq_left, Nat.left_eq_add, Nat.reduceEqDiff]; assumption) | (simp only [mN_sF, mK_sF, mL_sF, mF_sF, mB_sF, mA_sF, mJ_sF, mP_sF, mO_sF, mN_sB, mK_sB, mL_sB, mF_sB, mB_sB, mA_sB, mJ_sB, mP_sB, mO_sB, mN_sA, mK_sA, mL_sA, mF_sA, mB_sA, mA_sA, mJ_sA, mP_sA, mO_sA, mN_sJ, mK_sJ, mL_sJ, mF_sJ, mB_sJ, mA_sJ, mJ_sJ, mP_sJ, mO_sJ, mN_sP, mK_sP, mL_sP, mF_sP, mB_sP, mA_sP, mJ_sP, mP_sP, mO_sP, mN_sO, mK_sO, mL_sO, mF_sO, mB_sO, mA_sO, mJ_sO, mP_sO, mO_sO, up2, if_true, if_false, eq_self, ite_true, ite_false, reduceIte, Nat.add_left_cancel_iff, Nat.add_eq_left, Nat.left_eq_add, Nat.reduceEqDiff]; done)) ?_ | refine e_getI 17 rfl dX9_know_14 f_X9_132 (by assumption) ?_
  refine e_bipush (nI 80) 19 rfl dX9_know_17 bc_80 ?_
  first | refine e_cmp_geN 39 22 (by decide) rfl dX9_know_19 rfl rfl (by omega) (by omega) (fun y2 => ?_) (fun y2 => ?_) | refine e_cmp_ge 39 22 (by decide) rfl dX9_know_19 (fun y2 => ?_) (fun y2 => ?_)
  · rw [if_neg (fun q => by omega)] at k
    refine e_iconst (-1) 40 rfl dX9_know_39 ic_m1 ?_
    refine e_iret dX9_know_40 rfl ?_
    exact k μ1 hX1 hD1
  refine e_al0 23 rfl dX9_know_22 ?_
  refine e_getR 26 rfl dX9_know_23 f_X9_37 (by assumption) (by assumption) ?_
  refine e_il1 27 rfl dX9_know_26 ?_
  refine e_il2 28 rfl dX9_know_27 ?_
  refine e_al0 29 rfl dX9_know_28 ?_
  refine e_getR 32 rfl dX9_know_29 f_X9_44 (by assumption) (by assumption) ?_
  refine e_invV0 [_, _, _] 35 rfl dX9_know_32 k_X9_133 mo_X0_find rm_X9_know_X0_find ⟨rfl, rfl⟩ rfl rfl (by assumption) (Nat.le_of_ble_eq_true rfl) ?_
  refine c_find hBk hBc hh hwl hl hk (fun hnin => ?_) (fun i hi _ => ?_)
  rotate_left
  · have hi80 := (List.getElem?_eq_some_iff.mp hi).1
    rw [if_neg (fun q => q.2 (List.mem_of_getElem? hi))] at k
    refine e_iconst (-1) 36 rfl dX9_know_35 ic_m1 ?_
    refine e_cmp_eq 41 39 (by decide) rfl dX9_know_36 (fun y3 => ?_) (fun y3 => ?_)
    · exact absurd y3 (nI_nm1 (by omega))
    · refine e_iconst (-1) 40 rfl dX9_know_39 ic_m1 ?_
      refine e_iret dX9_know_40 rfl ?_
      exact k μ1 hX1 hD1
  rw [if_pos ⟨y2, hnin⟩] at k
  refine e_iconst (-1) 36 rfl dX9_know_35 ic_m1 ?_
  refine e_cmp_eq 41 39 (by decide) rfl dX9_know_36 (fun y3 => ?_) (fun y3 => ?_)
  rotate_left
  · exact absurd rfl y3
  refine e_al0 42 rfl dX9_know_41 ?_
  refine e_getR 45 rfl dX9_know_42 f_X9_37 (by assumption) (by assumption) ?_
  refine e_il1 46 rfl dX9_know_45 ?_
  refine e_il2 47 rfl dX9_know_46 ?_
  refine e_al0 48 rfl dX9_know_47 ?_
  refine e_getR 51 rfl dX9_know_48 f_X9_44 (by assumption) (by assumption) ?_
  refine e_invV0 [_, _, _] 54 rfl dX9_know_51 k_X9_137 mo_X0_add rm_X9_know_X0_add ⟨rfl, rfl⟩ rfl rfl (by assumption) (Nat.le_of_ble_eq_true rfl) ?_
  refine c_badd hBk hBc hh hwl hl hk y2 (by omega) (fun μ2 hF2 hBc2 => ?_)
  have gk2 : mK μ2 d = 10 := by rw [hF2.2.1]; exact gk
  have p02 : mP μ2 d 0 = some (d + 1) := by rw [hF2.2.2.2.1]; exact p0
  have tk2 : mK μ2 (d + 1) = 8 := by rw [hF2.2.1]; exact hT.1.1
  have hT2 : TI μ2 d (aT S) := hT.fx hF2.fx (by unfold bS; omega) (by unfold bS; omega)
  have gk3 : mK (sF μ2 (d + 1) 1 (nI 0)) d = 10 := gk2
  refine e_al0 55 rfl dX9_know_54 ?_
  refine e_getR 58 rfl dX9_know_55 f_X9_12 (by assumption) (by assumption) ?_
  refine e_iconst (nI 0) 59 rfl dX9_know_58 ic_0 ?_
  refine e_putI 62 rfl dX9_know_59 f_X9_94 (by assumption) ?_
  refine e_al0 63 rfl dX9_know_62 ?_
  refine e_il1 64 rfl dX9_know_63 ?_
  refine e_invV0 [_] 67 rfl dX9_know_64 k_X9_116 mo_X9_landChanged rm_X9_know_X9_landChanged ⟨rfl, rfl⟩ rfl rfl (by assumption) (Nat.le_of_ble_eq_true rfl) ?_
  have hF3 : Fr (bkQ d) μ1 (sF μ2 (d + 1) 1 (nI 0)) := (hF2.mono (S' := bkQ d) (fun q a => Or.inr (Or.inl a))).sF (show bkQ d (d + 1) from Or.inl ⟨by omega, by omega⟩) _ _
  have hF3b : Fr (fun q => s2 (d + 1) q ∨ bS (d + 15) q) μ1 (sF μ2 (d + 1) 1 (nI 0)) := (hF2.mono (S' := fun q => s2 (d + 1) q ∨ bS (d + 15) q) (fun q a => Or.inr a)).sF (show s2 (d + 1) (d + 1) ∨ bS (d + 15) (d + 1) from Or.inl ⟨by omega, by omega⟩) _ _
  have nd : ¬ (s2 (d + 1) d ∨ bS (d + 15) d) := by unfold s2 bS; omega
  have hG3 : GD (sF μ2 (d + 1) 1 (nI 0)) d := hD1.1.fx hF3.fx (fun g _ => by rw [hF3.2.2.2.1]) (bkQ_n (by omega))
  have hN3 : NmI (sF μ2 (d + 1) 1 (nI 0)) d (aS S) (aB S) (aL S) (aN S) := hD1.2.2.2.2.2.2.2.2.2.1.fx hW.2.2.2.1 hF3b.fx (by rw [(hF3b.2.2.2.2.2 d nd).1]) (fun q a b => by unfold s2 bS; omega)
  refine c_landChanged (sh' := aS S) (es' := aB S ++ [(ld, kd, w)]) hG3 hN3 hW.2.2.2.1 hl (fun _ _ => rfl) (fun l' k' w' hne => ?_) (fun μ4 hF4 hf4 hN4 h9 h11 => ?_)
  · simp; intro e; exact absurd e hne
  have hF14 := hF3.trans (hF4.mono (S' := bkQ d) (fun q a => Or.inr (Or.inr a)))
  have hB4 : BI μ4 d (aB S ++ [(ld, kd, w)]) := BI.fx ⟨(hBk.fr hF2), hBc2⟩ (Fx.trans ((Fr.rf (S := fun q => q = d + 1 ∨ lcS d q)).sF (Or.inl rfl) 1 (nI 0)).fx (hF4.fx.mono (fun q a => Or.inr a))) (fun q a b => by
    rintro (z | z)
    · omega
    · exact lcS_b (by omega) (by omega) z)
  have b34 := hB4.2.1
  rw [List.length_append, List.length_singleton] at b34
  have gk4 : mK μ4 d = 10 := by rw [hF14.2.1]; exact gk
  have p44 : mP μ4 d 4 = some (d + 15) := by rw [hF14.2.2.2.1]; exact p4
  have bk4 : mK μ4 (d + 15) = 1 := by rw [hF14.2.1]; exact bk
  refine e_al0 68 rfl dX9_know_67 ?_
  refine e_getR 71 rfl dX9_know_68 f_X9_37 (by assumption) (by assumption) ?_
  first | refine e_getIv 74 rfl dX9_know_71 f_X9_132 (by assumption) (by first | assumption | (simp only [mN_sF, mK_sF, mL_sF, mF_sF, mB_sF, mA_sF, mJ_sF, mP_sF, mO_sF, mN_sB, mK_sB, mL_sB, mF_sB, mB_sB, mA_sB, mJ_sB, mP_sB, mO_sB, mN_sA, mK_sA, mL_sA, mF_sA, mB_sA, mA_sA, mJ_sA, mP_sA, mO_sA, mN_sJ, mK_sJ, mL_sJ, mF_sJ, mB_sJ, mA_sJ, mJ_sJ, mP_sJ, mO_sJ, mN_sP, mK_sP, mL_sP, mF_sP, mB_sP, mA_sP, mJ_sP, mP_sP, mO_sP, mN_sO, mK_sO, mL_sO, mF_sO, mB_sO, mA_sO, mJ_sO, mP_sO, mO_sO, up2, if_true, if_false, eq_self, ite_true, ite_false, reduceIte, Nat.add_left_cancel_iff, Nat.add_eq_left, Nat.left_eq_add, Nat.reduceEqDiff]; assumption) | (simp only [mN_sF, mK_sF, mL_sF, mF_sF, mB_sF, mA_sF, mJ_sF, mP_sF, mO_sF, mN_sB, mK_sB, mL_sB, mF_sB, mB_sB, mA_sB, mJ_sB, mP_sB, mO_sB, mN_sA, mK_sA, mL_sA, mF_sA, mB_sA, mA_sA, mJ_sA, mP_sA, mO_sA, mN_sJ, mK_sJ, mL_sJ, mF_sJ, mB_sJ, mA_sJ, mJ_sJ, mP_sJ, mO_sJ, mN_sP, mK_sP, mL_sP, mF_sP, mB_sP, mA_sP, mJ_sP, mP_sP, mO_sP, mN_sO, mK_sO, mL_sO, mF_sO, mB_sO, mA_sO, mJ_sO, mP_sO, mO_sO, up2, if_true, if_false, eq_self, ite_true, ite_false, reduceIte, Nat.add_left_cancel_iff, Nat.add_eq_left, Nat.left_eq_add, Nat.reduceEqDiff]; done)) ?_ | refine e_getI 74 rfl dX9_know_71 f_X9_132 (by assumption) ?_
  refine e_iret dX9_know_74 rfl ?_
  refine k μ4 (hX1.trans (hF14.fx.mono (fun q a => ?_))) (hD1.book hF14.fx (fun g => by rw [hF14.2.2.2.1]) ?_ hB4 hN4 h9 h11)
  · unfold bkQ s2 bS lcS nA at a
    rcases a with a | a | a | ⟨i, h30, a⟩ <;> omega
  · exact hT2.zero.fx hF4.fx (lcS_b (by omega) (by omega)) (lcS_b (by omega) (by omega))
def fndI (es : List Ent) (e : Ent) : Nat := es.findIdx (fun x => decide (x = e))
def q_forget (S : Ast) (x y n : Int32) : Int32 × Ast := match entQ (aT S) x y n with
  | some e => if e ∈ aB S then (nI 1, ([], S.2.1, remL (aB S) (fndI (aB S) e), S.2.2.2)) else (nI 0, S)
  | none => (nI 0, S)
theorem fndI_eq {es : List Ent} {e : Ent} {i : Nat} (h : es[i]? = some e) (hn : ∀ j, j < i → es[j]? ≠ some e) : fndI es e = i := by
  obtain ⟨h1, h2⟩ := List.getElem?_eq_some_iff.mp h
  unfold fndI
  rw [List.findIdx_eq h1]
  refine ⟨by simp [h2], fun j hj => ?_⟩
  have := hn j hj
  rw [List.getElem?_eq_getElem (by omega)] at this
  simp only [decide_eq_false_iff_not]
  exact fun q => this (by rw [q])
theorem remL_perm {es : List Ent} {i : Nat} (h : i < es.length) : (remL es i).Perm (es.eraseIdx i) := by
  have hl : es[es.length - 1]? = some (es[es.length - 1]'(by omega)) := List.getElem?_eq_getElem (by omega)
  unfold remL
  rw [hl]
  simp only []
  obtain ⟨x, hx⟩ : ∃ x, x = es[es.length - 1]'(by omega) := ⟨_, rfl⟩
  rw [← hx]
  have hs : es.dropLast ++ [x] = es := by
    have hne : es ≠ [] := fun q => by rw [q] at h; simp at h
    have := List.dropLast_concat_getLast hne
    rw [List.getLast_eq_getElem] at this
    rw [hx]; exact this
  by_cases c : i = es.length - 1
  · have e1 : (es.set i x).dropLast = es.dropLast := by
      have : es.set i x = es := by
        subst c
        rw [hx]; exact List.set_getElem_self (by omega)
      rw [this]
    have e2 : es.eraseIdx i = es.dropLast := by
      rw [c, List.eraseIdx_length_sub_one]
    rw [e1, e2]
  · have hi : i < es.dropLast.length := by rw [List.length_dropLast]; omega
    have e1 : (es.set i x).dropLast = es.dropLast.set i x := by
      have : es.set i x = es.dropLast.set i x ++ [x] := by
        conv => lhs; rw [← hs]
        rw [List.set_append, if_pos hi]
      rw [this, List.dropLast_concat]
    have e2 : es.eraseIdx i = es.dropLast.eraseIdx i ++ [x] := by
      conv => lhs; rw [← hs]
      rw [List.eraseIdx_append_of_lt_length hi]
    rw [e1, e2]
    have e3 : es.dropLast.set i x = es.dropLast.take i ++ x :: es.dropLast.drop (i + 1) := List.set_eq_take_append_cons_drop .. |>.trans (if_pos hi)
    have e4 : es.dropLast.eraseIdx i = es.dropLast.take i ++ es.dropLast.drop (i + 1) := List.eraseIdx_eq_take_drop_succ ..
    rw [e3, e4]
    have := (List.perm_append_comm (l₁ := [x]) (l₂ := es.dropLast.drop (i + 1)))
    rw [List.append_assoc]
    exact List.Perm.append_left _ this
theorem remL_mem {es : List Ent} {i : Nat} {e : Ent} (hn : es.Nodup) (h : es[i]? = some e) (x : Ent) : x ∈ remL es i ↔ x ∈ es ∧ x ≠ e := by
  obtain ⟨h1, h2⟩ := List.getElem?_eq_some_iff.mp h
  rw [(remL_perm h1).mem_iff]
  have hes : es = es.take i ++ e :: es.drop (i + 1) := by
    conv => lhs; rw [← List.take_append_drop i es, List.drop_eq_getElem_cons h1, h2]
  rw [List.eraseIdx_eq_take_drop_succ]
  have hn2 := hn
  rw [hes, List.nodup_append, List.nodup_cons] at hn2
  obtain ⟨n1, ⟨n2, n3⟩, n4⟩ := hn2
  constructor
  · intro hx
    rcases List.mem_append.mp hx with q | q
    · exact ⟨List.mem_of_mem_take q, fun z => n4 x q e (by simp) z⟩
    · exact ⟨List.mem_of_mem_drop q, fun z => n2 (z ▸ q)⟩
  · rintro ⟨hx, hne⟩
    rw [hes] at hx
    rcases List.mem_append.mp hx with q | q
    · exact List.mem_append_left _ q
    · rcases List.mem_cons.mp q with z | z
      · exact absurd z hne
      · exact List.mem_append_right _ z
theorem d_forget {d : Nat} {S : Ast} {x y n : Int32} (hW : WF S) (hD : DI d S μ) (k : ∀ μ', DF d μ μ' → DI d (q_forget S x y n).2 μ' → K (some (.int (q_forget S x y n).1)) μ') : Cl E M_X9_forget [.ref d, .int x, .int y, .int n] μ K := by
  have gk0 := hD.1.1.1
  unfold q_forget at k
  refine Cl.of0 1 pn_X9 (Nat.le_of_ble_eq_true rfl) ⟨rfl, rfl⟩ rfl ?_
  refine e_al0 1 rfl dX9_forget_0 ?_
  refine e_il1 2 rfl dX9_forget_1 ?_
  refine e_il2 3 rfl dX9_forget_2 ?_
  refine e_il3 4 rfl dX9_forget_3 ?_
  refine e_invV0 [_, _, _] 7 rfl dX9_forget_4 k_X9_128 mo_X9_isEntry rm_X9_forget_X9_isEntry ⟨rfl, rfl⟩ rfl rfl (by assumption) (Nat.le_of_ble_eq_true rfl) ?_
  refine c_isEntry hD (fun he μ1 hF1 => ?_) (fun ld kd w he hl hk hx hy hwf μ1 hF1 hwl => ?_)
  · rw [he] at k
    first | refine e_if_neB 12 10 (by decide) rfl dX9_forget_7 rfl (fun y1 => ?_) (fun y1 => ?_) | refine e_if_neN 12 10 (by decide) rfl dX9_forget_7 rfl (by omega) (fun y1 => ?_) (fun y1 => ?_) | refine e_if_ne 12 10 (by decide) rfl dX9_forget_7 (fun y1 => ?_) (fun y1 => ?_)
    · exact absurd rfl y1
    · refine e_iconst (nI 0) 11 rfl dX9_forget_10 ic_0 ?_
      refine e_zret dX9_forget_11 rfl (by first | exact z0 | exact z1 | exact bI01 _ | assumption) ?_
      exact k μ1 (hF1.fx.mono (fun q a => by unfold wS at a; omega)) (hD.scrF hW hF1.wscr)
  rw [he] at k
  simp only [] at k
  have hD1 := hD.scrF hW hF1.wscr
  have hX1 : DF d μ μ1 := hF1.fx.mono (fun q a => by unfold wS at a; omega)
  obtain ⟨⟨⟨gk, p0, p1, p2, p4, p5, px⟩, _⟩, hT, _, ⟨hBk, hBc⟩, hh, _⟩ := id hD1
  have bk := hBk.1.1
  have b80 := hBc.2.1
  subst hx
  subst hy
  first | refine e_if_neB 12 10 (by decide) rfl dX9_forget_7 rfl (fun y1 => ?_) (fun y1 => ?_) | refine e_if_neN 12 10 (by decide) rfl dX9_forget_7 rfl (by omega) (fun y1 => ?_) (fun y1 => ?_) | refine e_if_ne 12 10 (by decide) rfl dX9_forget_7 (fun y1 => ?_) (fun y1 => ?_)
  rotate_left
  · exact absurd y1 (by decide)
  refine e_al0 13 rfl dX9_forget_12 ?_
  refine e_getR 16 rfl dX9_forget_13 f_X9_37 (by assumption) (by assumption) ?_
  refine e_il1 17 rfl dX9_forget_16 ?_
  refine e_il2 18 rfl dX9_forget_17 ?_
  refine e_al0 19 rfl dX9_forget_18 ?_
  refine e_getR 22 rfl dX9_forget_19 f_X9_44 (by assumption) (by assumption) ?_
  refine e_invV0 [_, _, _] 25 rfl dX9_forget_22 k_X9_133 mo_X0_find rm_X9_forget_X0_find ⟨rfl, rfl⟩ rfl rfl (by assumption) (Nat.le_of_ble_eq_true rfl) ?_
  refine c_find hBk hBc hh hwl hl hk (fun hnin => ?_) (fun i hi hfst => ?_)
  · rw [if_neg hnin] at k
    refine e_is4 27 rfl dX9_forget_25 (by decide) rfl ?_
    refine e_il4 29 rfl dX9_forget_27 ?_
    refine e_iconst (-1) 30 rfl dX9_forget_29 ic_m1 ?_
    refine e_cmp_ne 35 33 (by decide) rfl dX9_forget_30 (fun y3 => ?_) (fun y3 => ?_)
    · exact absurd rfl y3
    · refine e_iconst (nI 0) 34 rfl dX9_forget_33 ic_0 ?_
      refine e_zret dX9_forget_34 rfl (by first | exact z0 | exact z1 | exact bI01 _ | assumption) ?_
      exact k μ1 hX1 hD1
  have hi80 := (List.getElem?_eq_some_iff.mp hi).1
  rw [if_pos (List.mem_of_getElem? hi), fndI_eq hi hfst] at k
  refine e_is4 27 rfl dX9_forget_25 (by decide) rfl ?_
  refine e_il4 29 rfl dX9_forget_27 ?_
  refine e_iconst (-1) 30 rfl dX9_forget_29 ic_m1 ?_
  refine e_cmp_ne 35 33 (by decide) rfl dX9_forget_30 (fun y3 => ?_) (fun y3 => ?_)
  rotate_left
  · exact absurd y3 (nI_nm1 (by omega))
  refine e_al0 36 rfl dX9_forget_35 ?_
  refine e_getR 39 rfl dX9_forget_36 f_X9_37 (by assumption) (by assumption) ?_
  refine e_il4 41 rfl dX9_forget_39 ?_
  refine e_invV0 [_] 44 rfl dX9_forget_41 k_X9_140 mo_X0_remove rm_X9_forget_X0_remove ⟨rfl, rfl⟩ rfl rfl (by assumption) (Nat.le_of_ble_eq_true rfl) ?_
  refine c_remove hBk hBc hi80 (fun μ2 hF2 hBk2 hBc2 => ?_)
  have hF2' : Fx (bkQ d) μ1 μ2 := hF2.mono (fun q a => Or.inr (Or.inl ⟨by omega, by omega⟩))
  have nb : ∀ q, q < d + 15 ∨ d + 19 ≤ q → ¬ (d + 15 ≤ q ∧ q < d + 15 + 4) := fun q a => by omega
  have fd2 := hF2.2.2.2 d (nb d (by omega))
  have gk2 : mK μ2 d = 10 := by rw [hF2.2.1]; exact gk
  have p02 : mP μ2 d 0 = some (d + 1) := by rw [fd2.2.2.2.2.1]; exact p0
  have tk2 : mK μ2 (d + 1) = 8 := by rw [hF2.2.1]; exact hT.1.1
  have hT2 : TI μ2 d (aT S) := hT.fx hF2 (nb _ (by omega)) (nb _ (by omega))
  have gk3 : mK (sF μ2 (d + 1) 1 (nI 0)) d = 10 := gk2
  refine e_al0 45 rfl dX9_forget_44 ?_
  refine e_getR 48 rfl dX9_forget_45 f_X9_12 (by assumption) (by assumption) ?_
  refine e_iconst (nI 0) 49 rfl dX9_forget_48 ic_0 ?_
  refine e_putI 52 rfl dX9_forget_49 f_X9_94 (by assumption) ?_
  refine e_al0 53 rfl dX9_forget_52 ?_
  refine e_il1 54 rfl dX9_forget_53 ?_
  refine e_invV0 [_] 57 rfl dX9_forget_54 k_X9_116 mo_X9_landChanged rm_X9_forget_X9_landChanged ⟨rfl, rfl⟩ rfl rfl (by assumption) (Nat.le_of_ble_eq_true rfl) ?_
  have hF3 : Fx (bkQ d) μ1 (sF μ2 (d + 1) 1 (nI 0)) := hF2'.sF (show bkQ d (d + 1) from Or.inl ⟨by omega, by omega⟩) _ _
  have hP3 : ∀ g, mP (sF μ2 (d + 1) 1 (nI 0)) d g = mP μ1 d g := fun g => by show mP μ2 d g = _; rw [fd2.2.2.2.2.1]
  have hF3b : Fx (fun q => s2 (d + 1) q ∨ bS (d + 15) q) μ1 (sF μ2 (d + 1) 1 (nI 0)) := (hF2.mono (S' := fun q => s2 (d + 1) q ∨ bS (d + 15) q) (fun q a => Or.inr ⟨by omega, by omega⟩)).sF (show s2 (d + 1) (d + 1) ∨ bS (d + 15) (d + 1) from Or.inl ⟨by omega, by omega⟩) _ _
  have nd : ¬ (s2 (d + 1) d ∨ bS (d + 15) d) := by unfold s2 bS; omega
  have hG3 : GD (sF μ2 (d + 1) 1 (nI 0)) d := hD1.1.fx hF3 (fun g _ => hP3 g) (bkQ_n (by omega))
  have hN3 : NmI (sF μ2 (d + 1) 1 (nI 0)) d (aS S) (aB S) (aL S) (aN S) := hD1.2.2.2.2.2.2.2.2.2.1.fx hW.2.2.2.1 hF3b (by rw [(hF3b.2.2.2 d nd).1]) (fun q a b => by unfold s2 bS; omega)
  refine c_landChanged (sh' := aS S) (es' := remL (aB S) i) hG3 hN3 hW.2.2.2.1 hl (fun _ _ => rfl) (fun l' k' w' hne => ?_) (fun μ4 hF4 hf4 hN4 h9 h11 => ?_)
  · rw [remL_mem hW.2.2.1.2.1 hi]
    exact ⟨fun q => q.1, fun q => ⟨q, fun z => hne (congrArg Prod.fst z)⟩⟩
  have hF14 := hF3.trans (hF4.fx.mono (S' := bkQ d) (fun q a => Or.inr (Or.inr a)))
  have hB4 : BI μ4 d (remL (aB S) i) := BI.fx ⟨hBk2, hBc2⟩ (Fx.trans ((Fr.rf (S := fun q => q = d + 1 ∨ lcS d q)).sF (Or.inl rfl) 1 (nI 0)).fx (hF4.fx.mono (fun q a => Or.inr a))) (fun q a b => by
    rintro (z | z)
    · omega
    · exact lcS_b (by omega) (by omega) z)
  refine e_iconst (nI 1) 58 rfl dX9_forget_57 ic_1 ?_
  refine e_zret dX9_forget_58 rfl (by first | exact z0 | exact z1 | exact bI01 _ | assumption) ?_
  refine k μ4 (hX1.trans (hF14.mono (fun q a => ?_))) (hD1.book hF14 (fun g => by rw [hF4.2.2.2.1]; exact hP3 g) ?_ hB4 hN4 h9 h11)
  · unfold bkQ s2 bS lcS nA at a
    rcases a with a | a | a | ⟨i, h30, a⟩ <;> omega
  · exact hT2.zero.fx hF4.fx (lcS_b (by omega) (by omega)) (lcS_b (by omega) (by omega))
end KNOW
