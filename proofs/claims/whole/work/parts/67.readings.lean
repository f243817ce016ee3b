/-! NameDesk: readings, cost, kind -/
section READINGS
variable {E : En} {μ : Mm} {K : Option Value → Mm → Prop}
theorem AR_dg {sl : List Slot0} {C : Nat → Nat → Nat} : ∀ f w c m o x, x ∈ AR sl C f w c m o → (∀ j, j < w → dg w m j < 7) → ∀ j, j < w + f → dg (w + f) x.2 j < 7 := by
  intro f
  induction f with
  | zero =>
    intro w c m o x hx h j hj
    unfold AR at hx
    split at hx
    · simp at hx; subst hx; exact h j hj
    · simp at hx
  | succ f ih =>
    intro w c m o x hx h j hj
    unfold AR at hx
    obtain ⟨k, hk, hx⟩ := List.mem_flatMap.mp hx
    have hk7 : k < 7 := List.mem_range.mp hk
    split at hx
    · have := ih (w + 1) _ _ _ x hx (fun j hj => by
        by_cases e : j = w
        · rw [e, dg_new (by omega)]; exact hk7
        · rw [dg_old (by omega) (by omega)]; exact h j (by omega)) j (by omega)
      rw [show w + 1 + f = w + (f + 1) by omega] at this
      exact this
    · simp at hx
theorem fr1_none {sl : List Slot0} {C : Nat → Nat → Nat} {n fm : Nat} (hn : sl.length ≤ 8) (hC : ∀ w k, C w k < 1000 → C w k ≤ 5) (ho : Om sl fm) (h : ∀ d, ¬ Rn sl C n 0 fm d) : fr1 (PRr sl C n fm n) = none := by
  have h1 := PR_end hn hC ho (n := n)
  rw [AR_nil h] at h1
  have h2 : PRr sl C n fm n = [] := List.map_eq_nil_iff.mp h1
  rw [h2]
  unfold fr1
  rw [List.getElem?_eq_none_iff, SRr_len]
  exact Nat.le_of_eq rfl
theorem SRr_head {T : List Rw} {L : Nat} {y : Rw} (hm : ∀ x ∈ T, L ≤ x.1) (hf : T.find? (fun x => decide (x.1 = L)) = some y) : ∀ n, L < n → (SRr T n)[0]? = some y := by
  intro n
  induction n with
  | zero => intro h; omega
  | succ n ih =>
    intro h
    rw [SRr_s]
    by_cases c : L < n
    · have := ih c
      rw [List.getElem?_append_left (List.getElem?_eq_some_iff.mp this).1]; exact this
    · have e : n = L := by omega
      subst e
      have h0 : SRr T n = [] := by
        apply List.eq_nil_of_length_eq_zero
        rw [SRr_len]
        unfold cL
        rw [List.length_eq_zero_iff, List.filter_eq_nil_iff]
        intro x hx
        have := hm x hx
        simp; omega
      rw [h0, List.nil_append, ← List.head?_eq_getElem?, List.head?_filter]
      exact hf
theorem fr1_some {sl : List Slot0} {C : Nat → Nat → Nat} {n fm L m : Nat} (hn : sl.length ≤ 8) (hC : ∀ w k, C w k < 1000 → C w k ≤ 5) (ho : Om sl fm) (h8 : n ≤ 8) (hL : Mo (Rn sl C n 0 fm) L) (hlt : L < 1000) (hf : fnd sl C n 0 0 0 fm L = some (L, m)) : ∃ y, fr1 (PRr sl C n fm n) = some y ∧ y.2.1 = m ∧ ∀ j, j < n → dg n m j < 7 := by
  have h1 := PR_end hn hC ho (n := n)
  have hmem : (L, m) ∈ AR sl C n 0 0 0 fm := List.mem_of_find?_eq_some hf
  unfold fnd at hf
  rw [← h1, List.find?_map] at hf
  obtain ⟨y, hy1, hy2⟩ := Option.map_eq_some_iff.mp hf
  have hr : Rn sl C n 0 fm L := by
    rcases hL with q | q
    · omega
    · exact q.2.1
  have hL40 := Rn_le hC n 0 fm L hr
  refine ⟨y, SRr_head (L := L) (fun x hx => ?_) hy1 41 (by omega), (Prod.mk.inj hy2).2, fun j hj => ?_⟩
  · have hx2 : (x.1, x.2.1) ∈ AR sl C n 0 0 0 fm := by rw [← h1]; exact List.mem_map.mpr ⟨x, hx, rfl⟩
    obtain ⟨d, hd1, hd2⟩ := AR_mem _ _ _ _ _ _ hx2
    have hd1' : x.1 = 0 + d := hd1
    rcases hL with q | q
    · omega
    · have := q.2.2 d hd2; omega
  · have := AR_dg n 0 0 0 fm (L, m) hmem (fun j hj => by omega) j (by omega)
    rw [Nat.zero_add] at this
    exact this
theorem costW_b (es : List Ent) (ld : Nat) (en : List Nat) (fs : List (List Nat)) (w k : Nat) : costW es ld en fs w k ≤ 5 ∨ costW es ld en fs w k = 1000 := cst_le es ld en (fs.getD w []) k
theorem nA_R {d i : Nat} (h : i < 30) : d + 355 ≤ nA d i ∧ nA d i + 30 ≤ d + 1255 := by unfold nA; omega
/-- the cells that the desk's reader has, and the desk itself -/
def rdQ (d : Nat) : Nat → Prop := fun q => q = d ∨ (d + 263 ≤ q ∧ q < d + 294)
theorem c_listReadings {d i : Nat} {S : Ast} {nm : Nm} (hW : WF S) (hD : DI d S μ) (hi : (aN S)[i]? = some nm) (k : ∀ μ', DF d μ μ' → DI d S μ' → Lst μ' (d + 263) nm.2.length (rdT (aS S nm.1) (aB S) nm) → K none μ') : Cl E M_X9_listReadings [.ref d, .int (nI i)] μ K := by
  obtain ⟨hG, hT, hX, hB, hh, hR, hTb, hLn, hSM, hN, hLs, hRk⟩ := id hD
  obtain ⟨⟨gk, p0, p1, p2, p4, p5, p6, p8, p10, p12, px⟩, ⟨k3, l3, k262, l262, kx⟩, g3⟩ := id hG
  obtain ⟨hSg, π, hπ, hinj, hdr, hsh⟩ := id hSM
  have hil := (List.getElem?_eq_some_iff.mp hi).1
  have n30 := hW.2.2.2.1.1
  have hwf := hW.2.2.2.1.2 nm (List.mem_of_getElem? hi)
  have hNc := hN.2.2 i nm hi
  have hNg := hN.2.1 i (by omega)
  have o1 := g3 i (by omega)
  have haR := nA_R (d := d) (i := i) (by omega)
  obtain ⟨a, ha⟩ : ∃ a, a = nA d i := ⟨_, rfl⟩
  rw [← ha] at hNc hNg o1 haR
  have nk := hNg.1.1
  have al := hNc.1
  have hl6 := hwf.1
  have o3 := (hsh nm.1 hl6).1
  have hShM := (hsh nm.1 hl6).2
  have hsR := shA_in (d := d) (hπ nm.1 (by omega))
  obtain ⟨s, hs⟩ : ∃ s, s = shA d (π nm.1) := ⟨_, rfl⟩
  rw [← hs] at o3 hShM hsR
  have sk : mK μ s = 5 := hShM.1.1.1.1
  have bk := hB.1.1.1
  have rk := hR.1.1.1
  refine Cl.of0 1 pn_X9 (Nat.le_of_ble_eq_true rfl) ⟨rfl, rfl⟩ rfl ?_
  refine e_al0 1 rfl dX9_listReadings_0 ?_
  first | refine e_getIv 4 rfl dX9_listReadings_1 f_X9_65 (by assumption) (by first | assumption | (simp only [mN_sF, mK_sF, mL_sF, mF_sF, mB_sF, mA_sF, mJ_sF, mP_sF, mO_sF, mN_sB, mK_sB, mL_sB, mF_sB, mB_sB, mA_sB, mJ_sB, mP_sB, mO_sB, mN_sA, mK_sA, mL_sA, mF_sA, mB_sA, mA_sA, mJ_sA, mP_sA, mO_sA, mN_sJ, mK_sJ, mL_sJ, mF_sJ, mB_sJ, mA_sJ, mJ_sJ, mP_sJ, mO_sJ, mN_sP, mK_sP, mL_sP, mF_sP, mB_sP, mA_sP, mJ_sP, mP_sP, mO_sP, mN_sO, mK_sO, mL_sO, mF_sO, mB_sO, mA_sO, mJ_sO, mP_sO, mO_sO, up2, if_true, if_false, eq_self, ite_true, ite_false, reduceIte, Nat.add_left_cancel_iff, Nat.add_eq_left, Nat.left_eq_add, Nat.reduceEqDiff]; assumption) | (simp only [mN_sF, mK_sF, mL_sF, mF_sF, mB_sF, mA_sF, mJ_sF, mP_sF, mO_sF, mN_sB, mK_sB, mL_sB, mF_sB, mB_sB, mA_sB, mJ_sB, mP_sB, mO_sB, mN_sA, mK_sA, mL_sA, mF_sA, mB_sA, mA_sA, mJ_sA, mP_sA, mO_sA, mN_sJ, mK_sJ, mL_sJ, mF_sJ, mB_sJ, mA_sJ, mJ_sJ, mP_sJ, mO_sJ, mN_sP, mK_sP, mL_sP, mF_sP, mB_sP, mA_sP, mJ_sP, mP_sP, mO_sP, mN_sO, mK_sO, mL_sO, mF_sO, mB_sO, mA_sO, mJ_sO, mP_sO, mO_sO, up2, if_true, if_false, eq_self, ite_true, ite_false, reduceIte, Nat.add_left_cancel_iff, Nat.add_eq_left, Nat.left_eq_add, Nat.reduceEqDiff]; done)) ?_ | refine e_getI 4 rfl dX9_listReadings_1 f_X9_65 (by assumption) ?_
  refine e_il1 5 rfl dX9_listReadings_4 ?_
  refine e_cmp_eq 48 8 (by decide) rfl dX9_listReadings_5 (fun y1 => ?_) (fun y1 => ?_)
  · refine e_ret dX9_listReadings_48 rfl ?_
    refine k μ Fx.rf hD ?_
    rcases hLs with q | ⟨j, nm', q1, q2, q3⟩
    · rw [q] at y1; exact absurd y1.symm (nI_nm1 (by omega))
    · have hjl := (List.getElem?_eq_some_iff.mp q1).1
      rw [q2] at y1
      have e : j = i := (nI_eq (by omega) (by omega)).mp y1
      subst e
      rw [hi] at q1
      cases q1
      exact q3
  refine e_al0 9 rfl dX9_listReadings_8 ?_
  refine e_getR 12 rfl dX9_listReadings_9 f_X9_50 (by assumption) (by assumption) ?_
  refine e_il1 13 rfl dX9_listReadings_12 ?_
  refine e_aald 14 rfl dX9_listReadings_13 (by assumption) (by decide) (by assumption) (by first | rfl | simp only [pk_mul, nI_add]) (by omega) (by omega) (by assumption) ?_
  refine e_as2 15 rfl dX9_listReadings_14 (by decide) rfl ?_
  refine e_al0 16 rfl dX9_listReadings_15 ?_
  refine e_getR 19 rfl dX9_listReadings_16 f_X9_61 (by assumption) (by assumption) ?_
  refine e_al2 20 rfl dX9_listReadings_19 ?_
  refine e_al0 21 rfl dX9_listReadings_20 ?_
  refine e_getR 24 rfl dX9_listReadings_21 f_X9_18 (by assumption) (by assumption) ?_
  refine e_al2 25 rfl dX9_listReadings_24 ?_
  first | refine e_getIv 28 rfl dX9_listReadings_25 f_X9_147 (by assumption) (by first | assumption | (simp only [mN_sF, mK_sF, mL_sF, mF_sF, mB_sF, mA_sF, mJ_sF, mP_sF, mO_sF, mN_sB, mK_sB, mL_sB, mF_sB, mB_sB, mA_sB, mJ_sB, mP_sB, mO_sB, mN_sA, mK_sA, mL_sA, mF_sA, mB_sA, mA_sA, mJ_sA, mP_sA, mO_sA, mN_sJ, mK_sJ, mL_sJ, mF_sJ, mB_sJ, mA_sJ, mJ_sJ, mP_sJ, mO_sJ, mN_sP, mK_sP, mL_sP, mF_sP, mB_sP, mA_sP, mJ_sP, mP_sP, mO_sP, mN_sO, mK_sO, mL_sO, mF_sO, mB_sO, mA_sO, mJ_sO, mP_sO, mO_sO, up2, if_true, if_false, eq_self, ite_true, ite_false, reduceIte, Nat.add_left_cancel_iff, Nat.add_eq_left, Nat.left_eq_add, Nat.reduceEqDiff]; assumption) | (simp only [mN_sF, mK_sF, mL_sF, mF_sF, mB_sF, mA_sF, mJ_sF, mP_sF, mO_sF, mN_sB, mK_sB, mL_sB, mF_sB, mB_sB, mA_sB, mJ_sB, mP_sB, mO_sB, mN_sA, mK_sA, mL_sA, mF_sA, mB_sA, mA_sA, mJ_sA, mP_sA, mO_sA, mN_sJ, mK_sJ, mL_sJ, mF_sJ, mB_sJ, mA_sJ, mJ_sJ, mP_sJ, mO_sJ, mN_sP, mK_sP, mL_sP, mF_sP, mB_sP, mA_sP, mJ_sP, mP_sP, mO_sP, mN_sO, mK_sO, mL_sO, mF_sO, mB_sO, mA_sO, mJ_sO, mP_sO, mO_sO, up2, if_true, if_false, eq_self, ite_true, ite_false, reduceIte, Nat.add_left_cancel_iff, Nat.add_eq_left, Nat.left_eq_add, Nat.reduceEqDiff]; done)) ?_ | refine e_getI 28 rfl dX9_listReadings_25 f_X9_147 (by assumption) ?_
  refine e_aald 29 rfl dX9_listReadings_28 (by assumption) (by decide) (by assumption) (by first | rfl | simp only [pk_mul, nI_add]) (by omega) (by omega) (by assumption) ?_
  refine e_al0 30 rfl dX9_listReadings_29 ?_
  refine e_getR 33 rfl dX9_listReadings_30 f_X9_37 (by assumption) (by assumption) ?_
  refine e_invV0 [_, _, _] 36 rfl dX9_listReadings_33 k_X9_251 mo_X3_weigh rm_X9_listReadings_X3_weigh ⟨rfl, rfl⟩ rfl rfl (by assumption) (Nat.le_of_ble_eq_true rfl) ?_
  obtain ⟨hRg, ra, sa, hRp⟩ := hR
  have hf := hNc.2.1.nf hwf
  refine c_weigh (fm := fmO (aS S nm.1)) (sl := slO (aS S nm.1)) (en := enO (aS S nm.1)) (fs := fsN nm) hRg hNg al hl6 hf (by rw [fsN_len]; exact hwf.2.1) hShM.1 hB.1 hB.2 (by omega) (by omega) (by omega) (fun μ1 hF1 hP1 hf1 hRst1 => ?_)
  rw [fsN_len] at hRst1
  have nQ1 : ∀ q, (q < d + 263 ∨ d + 294 ≤ q) → ¬ weR (d + 263) q := fun q h => by unfold weR weS; omega
  have fd1 := hF1.2.2.2 d (nQ1 d (by omega))
  have gk1 : mK μ1 d = 10 := by rw [hF1.2.1]; exact gk
  have p81 : mP μ1 d 8 = some (d + 263) := by rw [fd1.2.2.2.2.1]; exact p8
  have rk1 : mK μ1 (d + 263) = 4 := by rw [hF1.2.1]; exact rk
  refine e_al0 37 rfl dX9_listReadings_36 ?_
  refine e_getR 40 rfl dX9_listReadings_37 f_X9_61 (by assumption) (by assumption) ?_
  refine e_invV0 [] 43 rfl dX9_listReadings_40 k_X9_255 mo_X3_listRows rm_X9_listReadings_X3_listRows ⟨rfl, rfl⟩ rfl rfl (by assumption) (Nat.le_of_ble_eq_true rfl) ?_
  have hRp1 : Rp μ1 (d + 263) ra sa := by unfold Rp; rw [hP1 4 (by decide), hP1 5 (by decide)]; exact hRp
  refine c_listRows hRst1 (hShM.1.fx hF1 (fun q a b => nQ1 q (by omega))) (costW_b _ _ _ _) hRp1 (by omega) (fun μ2 hF2 hP2 hLst2 => ?_)
  have nQ2 : ∀ q, (q < d + 263 ∨ d + 294 ≤ q) → ¬ soS (d + 263) q := fun q h => by unfold soS; omega
  have fd2 := hF2.2.2.2 d (nQ2 d (by omega))
  have gk2 : mK μ2 d = 10 := by rw [hF2.2.1]; exact gk1
  refine e_al0 44 rfl dX9_listReadings_43 ?_
  refine e_il1 45 rfl dX9_listReadings_44 ?_
  refine e_putI 48 rfl dX9_listReadings_45 f_X9_65 (by assumption) ?_
  refine e_ret dX9_listReadings_48 rfl ?_
  have hF3 : Fx (rdQ d) μ (sF μ2 d 9 (nI i)) := ((hF1.mono (S' := rdQ d) (fun q h => by unfold weR weS at h; exact Or.inr (by omega))).trans (hF2.mono (fun q h => by unfold soS at h; exact Or.inr (by omega)))).sF (show rdQ d d from Or.inl rfl) _ _
  have hP3 : mP (sF μ2 d 9 (nI i)) d = mP μ d := by show mP μ2 d = _; rw [fd2.2.2.2.2.1, fd1.2.2.2.2.1]
  have hf3 : ∀ f, f ≠ 9 → mF (sF μ2 d 9 (nI i)) d f = mF μ d f := fun f hf => by
    show up2 _ d 9 _ d f = _
    rw [up2_k hf, fd2.1, fd1.1]
  have hL3 : Lst (sF μ2 d 9 (nI i)) (d + 263) nm.2.length (rdT (aS S nm.1) (aB S) nm) := hLst2.fx ((Fx.rf (S := fun q => q = d)).sF rfl 9 (nI i)) (fun q a b => by omega)
  have h93 : mF (sF μ2 d 9 (nI i)) d 9 = nI i := by simp only [mN_sF, mK_sF, mL_sF, mF_sF, mB_sF, mA_sF, mJ_sF, mP_sF, mO_sF, mN_sB, mK_sB, mL_sB, mF_sB, mB_sB, mA_sB, mJ_sB, mP_sB, mO_sB, mN_sA, mK_sA, mL_sA, mF_sA, mB_sA, mA_sA, mJ_sA, mP_sA, mO_sA, mN_sJ, mK_sJ, mL_sJ, mF_sJ, mB_sJ, mA_sJ, mJ_sJ, mP_sJ, mO_sJ, mN_sP, mK_sP, mL_sP, mF_sP, mB_sP, mA_sP, mJ_sP, mP_sP, mO_sP, mN_sO, mK_sO, mL_sO, mF_sO, mB_sO, mA_sO, mJ_sO, mP_sO, mO_sO, up2, if_true, if_false, eq_self, ite_true, ite_false, reduceIte, Nat.add_left_cancel_iff, Nat.add_eq_left, Nat.left_eq_add, Nat.reduceEqDiff]
  generalize sF μ2 d 9 (nI i) = μ3 at hF3 hP3 hf3 hL3 h93 ⊢
  have nQ : ∀ q, (d < q ∧ q < d + 263) ∨ d + 294 ≤ q → ¬ rdQ d q := fun q h => by unfold rdQ; omega
  refine k μ3 (hF3.mono (fun q h => by unfold rdQ at h; omega)) ⟨hG.fx hF3 (fun g _ => by rw [hP3]) (nQ _ (by omega)), hT.fx hF3 (nQ _ (by omega)) (nQ _ (by omega)), hX.fx hF3 (nQ _ (by omega)), hB.fx hF3 (fun q a b => nQ q (by omega)), hh.fx hF3 (nQ _ (by omega)), ⟨hL3.1, ?_⟩, hTb.fx hF3 (fun q a b => nQ q (by omega)), hLn.fx hF3 (nQ _ (by omega)), hSM.fx hF3 (by rw [hP3]) (nQ _ (by omega)) (fun q a => nQ q (by omega)), hN.fx hW.2.2.2.1 hF3 (hf3 7 (by decide)) (fun q a b => nQ q (by omega)), Or.inr ⟨i, nm, hi, h93, hL3⟩, hRk.fx hF3 (hf3 11 (by decide)) (nQ _ (by omega))⟩ hL3
  obtain ⟨ra', sa', q1, _⟩ := hL3.2.2.2.2.2.2.2
  exact ⟨ra', sa', q1⟩
noncomputable def q_readings (S : Ast) (x c : Int32) : Int32 := match nmx (aN S) x, iN c with
  | some nm, some a => nI (cL (rdT (aS S nm.1) (aB S) nm) (a + 1))
  | _, _ => -1
theorem d_readings {d : Nat} {S : Ast} {x c : Int32} (hW : WF S) (hD : DI d S μ) (k : ∀ μ', DF d μ μ' → DI d S μ' → K (some (.int (q_readings S x c))) μ') : Cl E M_X9_readings [.ref d, .int x, .int c] μ K := by
  have gk := hD.1.1.1
  unfold q_readings at k
  refine Cl.of0 0 pn_X9 (Nat.le_of_ble_eq_true rfl) ⟨rfl, rfl⟩ rfl ?_
  refine e_al0 1 rfl dX9_readings_0 ?_
  refine e_il1 2 rfl dX9_readings_1 ?_
  refine e_invV0 [_] 5 rfl dX9_readings_2 k_X9_156 mo_X9_isName rm_X9_readings_X9_isName ⟨rfl, rfl⟩ rfl rfl (by assumption) (Nat.le_of_ble_eq_true rfl) ?_
  refine c_isName gk hD.2.2.2.2.2.2.2.2.2.1.1 hW.2.2.2.1.1 ?_
  cases eN : nmx (aN S) x with
  | none =>
    rw [eN] at k
    first | refine e_if_eqB 12 8 (by decide) rfl dX9_readings_5 rfl (fun y1 => ?_) (fun y1 => ?_) | refine e_if_eqN 12 8 (by decide) rfl dX9_readings_5 rfl (by omega) (fun y1 => ?_) (fun y1 => ?_) | refine e_if_eq 12 8 (by decide) rfl dX9_readings_5 (fun y1 => ?_) (fun y1 => ?_)
    · refine e_iconst (-1) 13 rfl dX9_readings_12 ic_m1 ?_
      refine e_iret dX9_readings_13 rfl ?_
      exact k μ Fx.rf hD
    · cases y1
  | some nm =>
  rw [eN] at k
  obtain ⟨i, hx, hi⟩ := nmx_some eN
  subst hx
  first | refine e_if_eqB 12 8 (by decide) rfl dX9_readings_5 rfl (fun y1 => ?_) (fun y1 => ?_) | refine e_if_eqN 12 8 (by decide) rfl dX9_readings_5 rfl (by omega) (fun y1 => ?_) (fun y1 => ?_) | refine e_if_eq 12 8 (by decide) rfl dX9_readings_5 (fun y1 => ?_) (fun y1 => ?_)
  · cases y1
  rcases iN_cases c with ⟨hc, qc⟩ | ⟨a, ha, hc, qc⟩
  · rw [qc] at k
    refine e_il2 9 rfl dX9_readings_8 ?_
    refine e_if_ge 14 12 (by decide) rfl dX9_readings_9 (fun y2 => ?_) (fun y2 => ?_)
    · exact absurd hc (Int32.not_lt.mpr y2)
    · refine e_iconst (-1) 13 rfl dX9_readings_12 ic_m1 ?_
      refine e_iret dX9_readings_13 rfl ?_
      exact k μ Fx.rf hD
  rw [qc] at k
  simp only [] at k
  subst hc
  refine e_il2 9 rfl dX9_readings_8 ?_
  first | refine e_if_geN 14 12 (by decide) rfl dX9_readings_9 rfl (by omega) ?_ | refine e_if_ge 14 12 (by decide) rfl dX9_readings_9 (fun h => ?_) (fun h => ?_)
  refine e_al0 15 rfl dX9_readings_14 ?_
  refine e_il1 16 rfl dX9_readings_15 ?_
  refine e_invV0 [_] 19 rfl dX9_readings_16 k_X9_159 mo_X9_listReadings rm_X9_readings_X9_listReadings ⟨rfl, rfl⟩ rfl rfl (by assumption) (Nat.le_of_ble_eq_true rfl) ?_
  refine c_listReadings hW hD hi (fun μ1 hF1 hD1 hL1 => ?_)
  have gk1 := hD1.1.1.1
  have p81 : mP μ1 d 8 = some (d + 263) := hD1.1.1.2.2.2.2.2.2.2.1
  have rk1 := hL1.1.1.1
  refine e_al0 20 rfl dX9_readings_19 ?_
  refine e_getR 23 rfl dX9_readings_20 f_X9_61 (by assumption) (by assumption) ?_
  refine e_il2 24 rfl dX9_readings_23 ?_
  refine e_invV0 [_] 27 rfl dX9_readings_24 k_X9_162 mo_X3_rowsUpTo rm_X9_readings_X3_rowsUpTo ⟨rfl, rfl⟩ rfl rfl (by assumption) (Nat.le_of_ble_eq_true rfl) ?_
  refine c_rowsUpTo hL1 ha ?_
  refine e_iret dX9_readings_27 rfl ?_
  exact k μ1 hF1 hD1
noncomputable def q_cost (S : Ast) (x r : Int32) : Int32 := match nmx (aN S) x with
  | some nm => cstR (rdT (aS S nm.1) (aB S) nm) r
  | none => -1
theorem d_cost {d : Nat} {S : Ast} {x r : Int32} (hW : WF S) (hD : DI d S μ) (k : ∀ μ', DF d μ μ' → DI d S μ' → K (some (.int (q_cost S x r))) μ') : Cl E M_X9_cost [.ref d, .int x, .int r] μ K := by
  have gk := hD.1.1.1
  unfold q_cost at k
  refine Cl.of0 0 pn_X9 (Nat.le_of_ble_eq_true rfl) ⟨rfl, rfl⟩ rfl ?_
  refine e_al0 1 rfl dX9_cost_0 ?_
  refine e_il1 2 rfl dX9_cost_1 ?_
  refine e_invV0 [_] 5 rfl dX9_cost_2 k_X9_156 mo_X9_isName rm_X9_cost_X9_isName ⟨rfl, rfl⟩ rfl rfl (by assumption) (Nat.le_of_ble_eq_true rfl) ?_
  refine c_isName gk hD.2.2.2.2.2.2.2.2.2.1.1 hW.2.2.2.1.1 ?_
  cases eN : nmx (aN S) x with
  | none =>
    rw [eN] at k
    first | refine e_if_neB 10 8 (by decide) rfl dX9_cost_5 rfl (fun y1 => ?_) (fun y1 => ?_) | refine e_if_neN 10 8 (by decide) rfl dX9_cost_5 rfl (by omega) (fun y1 => ?_) (fun y1 => ?_) | refine e_if_ne 10 8 (by decide) rfl dX9_cost_5 (fun y1 => ?_) (fun y1 => ?_)
    · cases y1
    · refine e_iconst (-1) 9 rfl dX9_cost_8 ic_m1 ?_
      refine e_iret dX9_cost_9 rfl ?_
      exact k μ Fx.rf hD
  | some nm =>
  rw [eN] at k
  obtain ⟨i, hx, hi⟩ := nmx_some eN
  subst hx
  first | refine e_if_neB 10 8 (by decide) rfl dX9_cost_5 rfl (fun y1 => ?_) (fun y1 => ?_) | refine e_if_neN 10 8 (by decide) rfl dX9_cost_5 rfl (by omega) (fun y1 => ?_) (fun y1 => ?_) | refine e_if_ne 10 8 (by decide) rfl dX9_cost_5 (fun y1 => ?_) (fun y1 => ?_)
  rotate_left
  · cases y1
  refine e_al0 11 rfl dX9_cost_10 ?_
  refine e_il1 12 rfl dX9_cost_11 ?_
  refine e_invV0 [_] 15 rfl dX9_cost_12 k_X9_159 mo_X9_listReadings rm_X9_cost_X9_listReadings ⟨rfl, rfl⟩ rfl rfl (by assumption) (Nat.le_of_ble_eq_true rfl) ?_
  refine c_listReadings hW hD hi (fun μ1 hF1 hD1 hL1 => ?_)
  have gk1 := hD1.1.1.1
  have p81 : mP μ1 d 8 = some (d + 263) := hD1.1.1.2.2.2.2.2.2.2.1
  have rk1 := hL1.1.1.1
  refine e_al0 16 rfl dX9_cost_15 ?_
  refine e_getR 19 rfl dX9_cost_16 f_X9_61 (by assumption) (by assumption) ?_
  refine e_il2 20 rfl dX9_cost_19 ?_
  refine e_invV0 [_] 23 rfl dX9_cost_20 k_X9_166 mo_X3_costOfRow rm_X9_cost_X3_costOfRow ⟨rfl, rfl⟩ rfl rfl (by assumption) (Nat.le_of_ble_eq_true rfl) ?_
  refine c_costOfRow hL1 ?_
  refine e_iret dX9_cost_23 rfl ?_
  exact k μ1 hF1 hD1
noncomputable def q_kind (S : Ast) (x r w : Int32) : Int32 := match nmx (aN S) x with
  | some nm => kndR nm.2.length (rdT (aS S nm.1) (aB S) nm) r w
  | none => -1
theorem d_kind {d : Nat} {S : Ast} {x r w : Int32} (hW : WF S) (hD : DI d S μ) (k : ∀ μ', DF d μ μ' → DI d S μ' → K (some (.int (q_kind S x r w))) μ') : Cl E M_X9_kind [.ref d, .int x, .int r, .int w] μ K := by
  have gk := hD.1.1.1
  unfold q_kind at k
  refine Cl.of0 0 pn_X9 (Nat.le_of_ble_eq_true rfl) ⟨rfl, rfl⟩ rfl ?_
  refine e_al0 1 rfl dX9_kind_0 ?_
  refine e_il1 2 rfl dX9_kind_1 ?_
  refine e_invV0 [_] 5 rfl dX9_kind_2 k_X9_156 mo_X9_isName rm_X9_kind_X9_isName ⟨rfl, rfl⟩ rfl rfl (by assumption) (Nat.le_of_ble_eq_true rfl) ?_
  refine c_isName gk hD.2.2.2.2.2.2.2.2.2.1.1 hW.2.2.2.1.1 ?_
  cases eN : nmx (aN S) x with
  | none =>
    rw [eN] at k
    first | refine e_if_neB 10 8 (by decide) rfl dX9_kind_5 rfl (fun y1 => ?_) (fun y1 => ?_) | refine e_if_neN 10 8 (by decide) rfl dX9_kind_5 rfl (by omega) (fun y1 => ?_) (fun y1 => ?_) | refine e_if_ne 10 8 (by decide) rfl dX9_kind_5 (fun y1 => ?_) (fun y1 => ?_)
    · cases y1
    · refine e_iconst (-1) 9 rfl dX9_kind_8 ic_m1 ?_
      refine e_iret dX9_kind_9 rfl ?_
      exact k μ Fx.rf hD
  | some nm =>
  rw [eN] at k
  obtain ⟨i, hx, hi⟩ := nmx_some eN
  subst hx
  first | refine e_if_neB 10 8 (by decide) rfl dX9_kind_5 rfl (fun y1 => ?_) (fun y1 => ?_) | refine e_if_neN 10 8 (by decide) rfl dX9_kind_5 rfl (by omega) (fun y1 => ?_) (fun y1 => ?_) | refine e_if_ne 10 8 (by decide) rfl dX9_kind_5 (fun y1 => ?_) (fun y1 => ?_)
  rotate_left
  · cases y1
  refine e_al0 11 rfl dX9_kind_10 ?_
  refine e_il1 12 rfl dX9_kind_11 ?_
  refine e_invV0 [_] 15 rfl dX9_kind_12 k_X9_159 mo_X9_listReadings rm_X9_kind_X9_listReadings ⟨rfl, rfl⟩ rfl rfl (by assumption) (Nat.le_of_ble_eq_true rfl) ?_
  refine c_listReadings hW hD hi (fun μ1 hF1 hD1 hL1 => ?_)
  have gk1 := hD1.1.1.1
  have p81 : mP μ1 d 8 = some (d + 263) := hD1.1.1.2.2.2.2.2.2.2.1
  have rk1 := hL1.1.1.1
  refine e_al0 16 rfl dX9_kind_15 ?_
  refine e_getR 19 rfl dX9_kind_16 f_X9_61 (by assumption) (by assumption) ?_
  refine e_il2 20 rfl dX9_kind_19 ?_
  refine e_il3 21 rfl dX9_kind_20 ?_
  refine e_invV0 [_, _] 24 rfl dX9_kind_21 k_X9_169 mo_X3_kindInRow rm_X9_kind_X3_kindInRow ⟨rfl, rfl⟩ rfl rfl (by assumption) (Nat.le_of_ble_eq_true rfl) ?_
  refine c_kindInRow hL1 ?_
  refine e_iret dX9_kind_24 rfl ?_
  exact k μ1 hF1 hD1
end READINGS
