/-! NameDesk: freshName -/
section FRESH
variable {E : En} {μ : Mm} {K : Option Value → Mm → Prop}
theorem plcF_len (k : Nat) : ∀ (ks : List Nat) (j : Nat), (plcF k ks j).length = (ks.filter (fun x => decide (x = k))).length := by
  intro ks
  induction ks with
  | nil => intro j; rfl
  | cons x r ih =>
    intro j
    unfold plcF
    rw [List.filter_cons]
    by_cases e : x = k
    · rw [if_pos e, if_pos (by simp [e]), List.length_cons, List.length_cons, ih]
    · rw [if_neg e, if_neg (by simp [e]), ih]
theorem plcF_mem (k : Nat) : ∀ (ks : List Nat) (j p : Nat), p ∈ plcF k ks j ↔ j ≤ p ∧ ks[p - j]? = some k := by
  intro ks
  induction ks with
  | nil => intro j p; simp [plcF]
  | cons x r ih =>
    intro j p
    have key : ∀ q, (q ∈ plcF k r (j + 1)) ↔ j + 1 ≤ q ∧ (x :: r)[q - j]? = some k := fun q => by
      rw [ih]
      constructor
      · rintro ⟨h1, h2⟩
        refine ⟨h1, ?_⟩
        rw [show q - j = (q - (j + 1)) + 1 by omega, List.getElem?_cons_succ]; exact h2
      · rintro ⟨h1, h2⟩
        refine ⟨h1, ?_⟩
        rw [show q - j = (q - (j + 1)) + 1 by omega, List.getElem?_cons_succ] at h2; exact h2
    unfold plcF
    by_cases e : x = k
    · rw [if_pos e, List.mem_cons, key]
      constructor
      · rintro (h | h)
        · subst h; refine ⟨Nat.le_refl _, ?_⟩; simp [e]
        · exact ⟨by omega, h.2⟩
      · rintro ⟨h1, h2⟩
        by_cases c : p = j
        · exact Or.inl c
        · exact Or.inr ⟨by omega, h2⟩
    · rw [if_neg e, key]
      constructor
      · rintro ⟨h1, h2⟩; exact ⟨by omega, h2⟩
      · rintro ⟨h1, h2⟩
        refine ⟨?_, h2⟩
        by_cases c : p = j
        · subst c
          simp at h2
          exact absurd h2 e
        · omega
theorem chL_le : ∀ (lt ks : List Nat), lt.Nodup → (lt.flatMap (fun k => plcF k ks 0)).length ≤ (ks.filter (fun x => decide (x ∈ lt))).length := by
  intro lt
  induction lt with
  | nil => intro ks _; simp
  | cons a r ih =>
    intro ks h
    obtain ⟨h1, h2⟩ := List.nodup_cons.mp h
    rw [List.flatMap_cons, List.length_append, plcF_len]
    have := ih ks h2
    have e : (ks.filter (fun x => decide (x ∈ a :: r))).length = (ks.filter (fun x => decide (x = a))).length + (ks.filter (fun x => decide (x ∈ r))).length := by
      clear this ih
      induction ks with
      | nil => rfl
      | cons y t iht =>
        simp only [List.filter_cons]
        by_cases c : y = a
        · have : y ∉ r := fun q => h1 (c ▸ q)
          simp only [c, List.mem_cons, true_or, decide_true, if_true, List.length_cons]
          rw [if_neg (by rw [decide_eq_true_eq]; exact c ▸ this)]
          simp only [List.mem_cons] at iht
          omega
        · by_cases c2 : y ∈ r
          · simp only [c, c2, List.mem_cons, or_true, decide_true, if_true, List.length_cons, decide_false, Bool.false_eq_true, if_false]
            simp only [List.mem_cons] at iht
            omega
          · simp only [c, c2, List.mem_cons, or_false, decide_false, Bool.false_eq_true, if_false]
            simp only [List.mem_cons] at iht
            omega
    omega
theorem chL_len {rd : Bool} {lt ks : List Nat} (h : lt.Nodup) (h8 : ks.length ≤ 8) : (chL rd lt ks).length ≤ 8 := by
  unfold chL
  split
  · exact Nat.le_trans (chL_le lt ks h) (Nat.le_trans (List.length_filter_le _ _) h8)
  · simp
theorem chL_lt {rd : Bool} {lt ks : List Nat} {p : Nat} (h : p ∈ chL rd lt ks) : p < ks.length := by
  unfold chL at h
  split at h
  · obtain ⟨k, _, h⟩ := List.mem_flatMap.mp h
    have := ((plcF_mem k ks 0 p).mp h).2
    have := (List.getElem?_eq_some_iff.mp this).1
    omega
  · simp at h
theorem soO_ok {s : Nat} {o : Option Shp} (h : ShM μ s o) : (soO o).length ≤ 7 ∧ (soO o).Nodup ∧ ∀ k ∈ soO o, k < 7 := ⟨h.2.1.2.1, h.2.1.2.2.2.1, h.2.1.2.2.2.2⟩
theorem caO_ok {s : Nat} {o : Option Shp} (h : ShM μ s o) : (caO o).length ≤ 7 ∧ (caO o).Nodup ∧ ∀ k ∈ caO o, k < 7 := ⟨h.2.2.2.1, h.2.2.2.2.2.1, h.2.2.2.2.2.2⟩
/-- the cells that freshName may write -/
def fnQ (d i : Nat) : Nat → Prop := fun q => rdQ d q ∨ q = nA d i ∨ q = nA d i + 2 ∨ q = nA d i + 3
theorem DI.unlist {d : Nat} {S : Ast} (hW : WF S) (hD : DI d S μ) : DI d S (sF μ d 9 (-1)) := by
  obtain ⟨hG, hT, hX, hB, hh, hR, hTb, hLn, hSM, hN, hLs, hRk⟩ := hD
  have f : Fr (fun q => q = d) μ (sF μ d 9 (-1)) := (Fr.rf (S := fun q => q = d)).sF rfl _ _
  exact ⟨hG.fx f.fx (fun g _ => rfl) (by omega), hT.fx f.fx (by omega) (by omega), hX.fx f.fx (by omega), hB.fx f.fx (fun q a b => by omega), hh.fr f, hR.fx f.fx (fun q a b => by omega), hTb.fx f.fx (fun q a b => by omega), hLn.fr f, hSM.fx f.fx rfl (by omega) (fun q a => by omega), hN.fx hW.2.2.2.1 f.fx (by simp only [mN_sF, mK_sF, mL_sF, mF_sF, mB_sF, mA_sF, mJ_sF, mP_sF, mO_sF, mN_sB, mK_sB, mL_sB, mF_sB, mB_sB, mA_sB, mJ_sB, mP_sB, mO_sB, mN_sA, mK_sA, mL_sA, mF_sA, mB_sA, mA_sA, mJ_sA, mP_sA, mO_sA, mN_sJ, mK_sJ, mL_sJ, mF_sJ, mB_sJ, mA_sJ, mJ_sJ, mP_sJ, mO_sJ, mN_sP, mK_sP, mL_sP, mF_sP, mB_sP, mA_sP, mJ_sP, mP_sP, mO_sP, mN_sO, mK_sO, mL_sO, mF_sO, mB_sO, mA_sO, mJ_sO, mP_sO, mO_sO, up2, if_true, if_false, eq_self, ite_true, ite_false, reduceIte, Nat.add_left_cancel_iff, Nat.add_eq_left, Nat.left_eq_add, Nat.reduceEqDiff]) (fun q a b => by omega), Or.inl (by simp only [mN_sF, mK_sF, mL_sF, mF_sF, mB_sF, mA_sF, mJ_sF, mP_sF, mO_sF, mN_sB, mK_sB, mL_sB, mF_sB, mB_sB, mA_sB, mJ_sB, mP_sB, mO_sB, mN_sA, mK_sA, mL_sA, mF_sA, mB_sA, mA_sA, mJ_sA, mP_sA, mO_sA, mN_sJ, mK_sJ, mL_sJ, mF_sJ, mB_sJ, mA_sJ, mJ_sJ, mP_sJ, mO_sJ, mN_sP, mK_sP, mL_sP, mF_sP, mB_sP, mA_sP, mJ_sP, mP_sP, mO_sP, mN_sO, mK_sO, mL_sO, mF_sO, mB_sO, mA_sO, mJ_sO, mP_sO, mO_sO, up2, if_true, if_false, eq_self, ite_true, ite_false, reduceIte, Nat.add_left_cancel_iff, Nat.add_eq_left, Nat.left_eq_add, Nat.reduceEqDiff]), hRk.fx f.fx (by simp only [mN_sF, mK_sF, mL_sF, mF_sF, mB_sF, mA_sF, mJ_sF, mP_sF, mO_sF, mN_sB, mK_sB, mL_sB, mF_sB, mB_sB, mA_sB, mJ_sB, mP_sB, mO_sB, mN_sA, mK_sA, mL_sA, mF_sA, mB_sA, mA_sA, mJ_sA, mP_sA, mO_sA, mN_sJ, mK_sJ, mL_sJ, mF_sJ, mB_sJ, mA_sJ, mJ_sJ, mP_sJ, mO_sJ, mN_sP, mK_sP, mL_sP, mF_sP, mB_sP, mA_sP, mJ_sP, mP_sP, mO_sP, mN_sO, mK_sO, mL_sO, mF_sO, mB_sO, mA_sO, mJ_sO, mP_sO, mO_sO, up2, if_true, if_false, eq_self, ite_true, ite_false, reduceIte, Nat.add_left_cancel_iff, Nat.add_eq_left, Nat.left_eq_add, Nat.reduceEqDiff]) (by omega)⟩
theorem c_freshName {d i : Nat} {S : Ast} {nm : Nm} (hW : WF S) (hD : DI d S μ) (hi : (aN S)[i]? = some nm)
    (k : ∀ μ', Fx (fnQ d i) μ μ' → (∀ f, f ≠ 9 → mF μ' d f = mF μ d f) → (mP μ' d = mP μ d) → DI d S μ' → mF μ' (nA d i) 3 = nI 1 → K (some (.ref (nA d i))) μ') : Cl E M_X9_freshName [.ref d, .int (nI i)] μ K := by
  obtain ⟨hG, hT, hX, hB, hh, hR, hTb, hLn, hSM, hN, hLs, hRk⟩ := id hD
  obtain ⟨⟨gk, p0, p1, p2, p4, p5, p6, p8, p10, p12, px⟩, ⟨k3, l3, k262, l262, kx⟩, g3⟩ := id hG
  obtain ⟨hSg, π, hπ, hinj, hdr, hsh⟩ := id hSM
  have hil := (List.getElem?_eq_some_iff.mp hi).1
  have n30 := hW.2.2.2.1.1
  have hwf := hW.2.2.2.1.2 nm (List.mem_of_getElem? hi)
  have hNc := hN.2.2 i nm hi
  have hNg := hN.2.1 i (by omega)
  have o1 := g3 i (by omega)
  have haR := nA_R (d := d) (i := i) (by omega)
  obtain ⟨a, ha⟩ : ∃ a, a = nA d i := ⟨_, rfl⟩
  have oth : ∀ j, j < 30 → j ≠ i → ∀ q, nS (nA d j) q → q ≠ a ∧ q ≠ a + 2 ∧ q ≠ a + 3 := fun j _ hne q hq => by rw [ha]; unfold nS nA at hq; unfold nA; omega
  unfold fnQ at k
  rw [← ha] at hNc hNg o1 haR k
  have nk := hNg.1.1
  have al := hNc.1
  have hl6 := hwf.1
  have o3 := (hsh nm.1 hl6).1
  have hShM := (hsh nm.1 hl6).2
  have hsR := shA_in (d := d) (hπ nm.1 (by omega))
  obtain ⟨s, hs⟩ : ∃ s, s = shA d (π nm.1) := ⟨_, rfl⟩
  rw [← hs] at o3 hShM hsR
  have sk : mK μ s = 5 := hShM.1.1.1.1
  have bk := hB.1.1.1
  have rk := hR.1.1.1
  obtain ⟨b, hb3, hbc⟩ := id hNc.2.2.1
  refine Cl.of0 2 pn_X9 (Nat.le_of_ble_eq_true rfl) ⟨rfl, rfl⟩ rfl ?_
  refine e_al0 1 rfl dX9_freshName_0 ?_
  refine e_getR 4 rfl dX9_freshName_1 f_X9_50 (by assumption) (by assumption) ?_
  refine e_il1 5 rfl dX9_freshName_4 ?_
  refine e_aald 6 rfl dX9_freshName_5 (by assumption) (by decide) (by assumption) (by first | rfl | simp only [pk_mul, nI_add]) (by omega) (by omega) (by assumption) ?_
  refine e_as2 7 rfl dX9_freshName_6 (by decide) rfl ?_
  refine e_al2 8 rfl dX9_freshName_7 ?_
  first | refine e_getIv 11 rfl dX9_freshName_8 f_X9_150 (by assumption) (by first | assumption | (simp only [mN_sF, mK_sF, mL_sF, mF_sF, mB_sF, mA_sF, mJ_sF, mP_sF, mO_sF, mN_sB, mK_sB, mL_sB, mF_sB, mB_sB, mA_sB, mJ_sB, mP_sB, mO_sB, mN_sA, mK_sA, mL_sA, mF_sA, mB_sA, mA_sA, mJ_sA, mP_sA, mO_sA, mN_sJ, mK_sJ, mL_sJ, mF_sJ, mB_sJ, mA_sJ, mJ_sJ, mP_sJ, mO_sJ, mN_sP, mK_sP, mL_sP, mF_sP, mB_sP, mA_sP, mJ_sP, mP_sP, mO_sP, mN_sO, mK_sO, mL_sO, mF_sO, mB_sO, mA_sO, mJ_sO, mP_sO, mO_sO, up2, if_true, if_false, eq_self, ite_true, ite_false, reduceIte, Nat.add_left_cancel_iff, Nat.add_eq_left, Nat.left_eq_add, Nat.reduceEqDiff]; assumption) | (simp only [mN_sF, mK_sF, mL_sF, mF_sF, mB_sF, mA_sF, mJ_sF, mP_sF, mO_sF, mN_sB, mK_sB, mL_sB, mF_sB, mB_sB, mA_sB, mJ_sB, mP_sB, mO_sB, mN_sA, mK_sA, mL_sA, mF_sA, mB_sA, mA_sA, mJ_sA, mP_sA, mO_sA, mN_sJ, mK_sJ, mL_sJ, mF_sJ, mB_sJ, mA_sJ, mJ_sJ, mP_sJ, mO_sJ, mN_sP, mK_sP, mL_sP, mF_sP, mB_sP, mA_sP, mJ_sP, mP_sP, mO_sP, mN_sO, mK_sO, mL_sO, mF_sO, mB_sO, mA_sO, mJ_sO, mP_sO, mO_sO, up2, if_true, if_false, eq_self, ite_true, ite_false, reduceIte, Nat.add_left_cancel_iff, Nat.add_eq_left, Nat.left_eq_add, Nat.reduceEqDiff]; done)) ?_ | refine e_getI 11 rfl dX9_freshName_8 f_X9_150 (by assumption) ?_
  first | refine e_if_neB 82 14 (by decide) rfl dX9_freshName_11 rfl (fun y1 => ?_) (fun y1 => ?_) | refine e_if_neN 82 14 (by decide) rfl dX9_freshName_11 rfl (by omega) (fun y1 => ?_) (fun y1 => ?_) | refine e_if_ne 82 14 (by decide) rfl dX9_freshName_11 (fun y1 => ?_) (fun y1 => ?_)
  · refine e_al2 83 rfl dX9_freshName_82 ?_
    refine e_aret dX9_freshName_83 rfl ?_
    refine k μ Fx.rf (fun _ _ => rfl) rfl hD ?_
    rw [hb3, y1]; rfl
  have hD1 := hD.unlist hW
  have nk1 : mK (sF μ d 9 (-1)) a = 3 := nk
  have gk1 : mK (sF μ d 9 (-1)) d = 10 := gk
  refine e_al0 15 rfl dX9_freshName_14 ?_
  refine e_getR 18 rfl dX9_freshName_15 f_X9_18 (by assumption) (by assumption) ?_
  refine e_al2 19 rfl dX9_freshName_18 ?_
  first | refine e_getIv 22 rfl dX9_freshName_19 f_X9_147 (by assumption) (by first | assumption | (simp only [mN_sF, mK_sF, mL_sF, mF_sF, mB_sF, mA_sF, mJ_sF, mP_sF, mO_sF, mN_sB, mK_sB, mL_sB, mF_sB, mB_sB, mA_sB, mJ_sB, mP_sB, mO_sB, mN_sA, mK_sA, mL_sA, mF_sA, mB_sA, mA_sA, mJ_sA, mP_sA, mO_sA, mN_sJ, mK_sJ, mL_sJ, mF_sJ, mB_sJ, mA_sJ, mJ_sJ, mP_sJ, mO_sJ, mN_sP, mK_sP, mL_sP, mF_sP, mB_sP, mA_sP, mJ_sP, mP_sP, mO_sP, mN_sO, mK_sO, mL_sO, mF_sO, mB_sO, mA_sO, mJ_sO, mP_sO, mO_sO, up2, if_true, if_false, eq_self, ite_true, ite_false, reduceIte, Nat.add_left_cancel_iff, Nat.add_eq_left, Nat.left_eq_add, Nat.reduceEqDiff]; assumption) | (simp only [mN_sF, mK_sF, mL_sF, mF_sF, mB_sF, mA_sF, mJ_sF, mP_sF, mO_sF, mN_sB, mK_sB, mL_sB, mF_sB, mB_sB, mA_sB, mJ_sB, mP_sB, mO_sB, mN_sA, mK_sA, mL_sA, mF_sA, mB_sA, mA_sA, mJ_sA, mP_sA, mO_sA, mN_sJ, mK_sJ, mL_sJ, mF_sJ, mB_sJ, mA_sJ, mJ_sJ, mP_sJ, mO_sJ, mN_sP, mK_sP, mL_sP, mF_sP, mB_sP, mA_sP, mJ_sP, mP_sP, mO_sP, mN_sO, mK_sO, mL_sO, mF_sO, mB_sO, mA_sO, mJ_sO, mP_sO, mO_sO, up2, if_true, if_false, eq_self, ite_true, ite_false, reduceIte, Nat.add_left_cancel_iff, Nat.add_eq_left, Nat.left_eq_add, Nat.reduceEqDiff]; done)) ?_ | refine e_getI 22 rfl dX9_freshName_19 f_X9_147 (by assumption) ?_
  refine e_aald 23 rfl dX9_freshName_22 (by assumption) (by decide) (by assumption) (by first | rfl | simp only [pk_mul, nI_add]) (by omega) (by omega) (by assumption) ?_
  refine e_as3 24 rfl dX9_freshName_23 (by decide) rfl ?_
  refine e_al0 25 rfl dX9_freshName_24 ?_
  refine e_iconst (-1) 26 rfl dX9_freshName_25 ic_m1 ?_
  refine e_putI 29 rfl dX9_freshName_26 f_X9_65 (by assumption) ?_
  refine e_al0 30 rfl dX9_freshName_29 ?_
  refine e_getR 33 rfl dX9_freshName_30 f_X9_61 (by assumption) (by assumption) ?_
  refine e_al2 34 rfl dX9_freshName_33 ?_
  refine e_al3 35 rfl dX9_freshName_34 ?_
  refine e_al0 36 rfl dX9_freshName_35 ?_
  refine e_getR 39 rfl dX9_freshName_36 f_X9_37 (by assumption) (by assumption) ?_
  refine e_invV0 [_, _, _] 42 rfl dX9_freshName_39 k_X9_251 mo_X3_weigh rm_X9_freshName_X3_weigh ⟨rfl, rfl⟩ rfl rfl (by assumption) (Nat.le_of_ble_eq_true rfl) ?_
  have f01 : Fr (fun q => q = d) μ (sF μ d 9 (-1)) := (Fr.rf (S := fun q => q = d)).sF rfl _ _
  have hf01 : ∀ f, f ≠ 9 → mF (sF μ d 9 (-1)) d f = mF μ d f := fun f hf => by show up2 _ d 9 _ d f = _; rw [up2_k hf]
  have h91 : mF (sF μ d 9 (-1)) d 9 = -1 := by simp only [mN_sF, mK_sF, mL_sF, mF_sF, mB_sF, mA_sF, mJ_sF, mP_sF, mO_sF, mN_sB, mK_sB, mL_sB, mF_sB, mB_sB, mA_sB, mJ_sB, mP_sB, mO_sB, mN_sA, mK_sA, mL_sA, mF_sA, mB_sA, mA_sA, mJ_sA, mP_sA, mO_sA, mN_sJ, mK_sJ, mL_sJ, mF_sJ, mB_sJ, mA_sJ, mJ_sJ, mP_sJ, mO_sJ, mN_sP, mK_sP, mL_sP, mF_sP, mB_sP, mA_sP, mJ_sP, mP_sP, mO_sP, mN_sO, mK_sO, mL_sO, mF_sO, mB_sO, mA_sO, mJ_sO, mP_sO, mO_sO, up2, if_true, if_false, eq_self, ite_true, ite_false, reduceIte, Nat.add_left_cancel_iff, Nat.add_eq_left, Nat.left_eq_add, Nat.reduceEqDiff]
  have hP01 : mP (sF μ d 9 (-1)) = mP μ := rfl
  generalize sF μ d 9 (-1) = μ1 at hD1 nk1 gk1 f01 hf01 hP01 h91 ⊢
  have hNc1 := hD1.2.2.2.2.2.2.2.2.2.1.2.2 i nm hi
  have hNg1 := hD1.2.2.2.2.2.2.2.2.2.1.2.1 i (by omega)
  rw [← ha] at hNc1 hNg1
  have hShM1 : ShM μ1 s (aS S nm.1) := hShM.fx f01.fx (fun q a b => by omega)
  have hR1 := hD1.2.2.2.2.2.1
  have hB1 := hD1.2.2.2.1
  have hf := hNc1.2.1.nf hwf
  refine c_weigh (fm := fmO (aS S nm.1)) (sl := slO (aS S nm.1)) (en := enO (aS S nm.1)) (fs := fsN nm) hR1.1 hNg1 hNc1.1 hl6 hf (by rw [fsN_len]; exact hwf.2.1) hShM1.1 hB1.1 hB1.2 (by omega) (by omega) (by omega) (fun μ2 hF2 hP2 hf2 hRst2 => ?_)
  rw [fsN_len] at hRst2
  have nQ2 : ∀ q, (q < d + 263 ∨ d + 294 ≤ q) → ¬ weR (d + 263) q := fun q h => by unfold weR weS; omega
  have fd2 := hF2.2.2.2 d (nQ2 d (by omega))
  have fa2 := hF2.2.2.2 a (nQ2 a (by omega))
  have gk2 : mK μ2 d = 10 := by rw [hF2.2.1]; exact gk1
  have p82 : mP μ2 d 8 = some (d + 263) := by rw [fd2.2.2.2.2.1, hP01]; exact p8
  have nk2 : mK μ2 a = 3 := by rw [hF2.2.1]; exact nk1
  have rk2 : mK μ2 (d + 263) = 4 := by rw [hF2.2.1, f01.2.1]; exact rk
  have hNg2 : Ng μ2 a := hNg1.fx hF2 (fun q hq => nQ2 q (by unfold nS at hq; omega))
  have hShM2 : ShM μ2 s (aS S nm.1) := hShM1.fx hF2 (fun q a b => nQ2 q (by omega))
  have a52 := hNg2.1.2.2.1
  have k22 : mK μ2 (a + 2) = 13 := hNg2.1.2.2.2.2.2.2.2.1
  have l22 : mL μ2 (a + 2) = 8 := hNg2.1.2.2.2.2.2.2.2.2.1
  refine e_al2 43 rfl dX9_freshName_42 ?_
  refine e_al0 44 rfl dX9_freshName_43 ?_
  refine e_getR 47 rfl dX9_freshName_44 f_X9_61 (by assumption) (by assumption) ?_
  refine e_al2 48 rfl dX9_freshName_47 ?_
  refine e_getR 51 rfl dX9_freshName_48 f_X9_258 (by assumption) (by assumption) ?_
  refine e_invV0 [_] 54 rfl dX9_freshName_51 k_X9_261 mo_X3_readFirst rm_X9_freshName_X3_readFirst ⟨rfl, rfl⟩ rfl rfl (by assumption) (Nat.le_of_ble_eq_true rfl) ?_
  have hR2 : RI μ2 d := ⟨hRst2.1, by obtain ⟨ra, sa, h⟩ := hR1.2; exact ⟨ra, sa, by unfold Rp; rw [hP2 4 (by decide), hP2 5 (by decide)]; exact h⟩⟩
  have cont : ∀ μ3, Fr (fun q => q = a + 2) μ2 μ3 → (rdB (aS S nm.1) (aB S) nm = true → Hd (mA μ3 (a + 2)) (rdK (aS S nm.1) (aB S) nm) ∧ ∀ k ∈ rdK (aS S nm.1) (aB S) nm, k < 7) → Ev E M_X9_freshName 0 0 54 [some (.ref d), some (.int (nI i)), some (.ref a), some (.ref s)] [.int (bI (rdB (aS S nm.1) (aB S) nm)), .ref a] μ3 K := by
    intro μ3 hF3 hk3
    have nk3 : mK μ3 a = 3 := by rw [hF3.2.1]; exact nk2
    have fa3 := (hF3.2.2.2.2.2 a (by omega)).1
    have hNg4 : Ng (sF μ3 a 4 (bI (rdB (aS S nm.1) (aB S) nm))) a := (hNg2.fr hF3).fr ((Fr.rf (S := fun q => q = a)).sF rfl 4 (bI (rdB (aS S nm.1) (aB S) nm)))
    have hShM4 : ShM (sF μ3 a 4 (bI (rdB (aS S nm.1) (aB S) nm))) s (aS S nm.1) := (hShM2.fx hF3.fx (fun q a b => by omega)).fx ((Fr.rf (S := fun q => q = a)).sF rfl 4 (bI (rdB (aS S nm.1) (aB S) nm))).fx (fun q a b => by omega)
    have h14 : mF (sF μ3 a 4 (bI (rdB (aS S nm.1) (aB S) nm))) a 1 = nI nm.2.length := by simp only [mN_sF, mK_sF, mL_sF, mF_sF, mB_sF, mA_sF, mJ_sF, mP_sF, mO_sF, mN_sB, mK_sB, mL_sB, mF_sB, mB_sB, mA_sB, mJ_sB, mP_sB, mO_sB, mN_sA, mK_sA, mL_sA, mF_sA, mB_sA, mA_sA, mJ_sA, mP_sA, mO_sA, mN_sJ, mK_sJ, mL_sJ, mF_sJ, mB_sJ, mA_sJ, mJ_sJ, mP_sJ, mO_sJ, mN_sP, mK_sP, mL_sP, mF_sP, mB_sP, mA_sP, mJ_sP, mP_sP, mO_sP, mN_sO, mK_sO, mL_sO, mF_sO, mB_sO, mA_sO, mJ_sO, mP_sO, mO_sO, up2, if_true, if_false, eq_self, ite_true, ite_false, reduceIte, Nat.add_left_cancel_iff, Nat.add_eq_left, Nat.left_eq_add, Nat.reduceEqDiff]; rw [fa3, fa2.1]; exact hNc1.2.1.1
    have hNk4 : Nk (sF μ3 a 4 (bI (rdB (aS S nm.1) (aB S) nm))) a (rdB (aS S nm.1) (aB S) nm) (rdK (aS S nm.1) (aB S) nm) := ⟨by simp only [mN_sF, mK_sF, mL_sF, mF_sF, mB_sF, mA_sF, mJ_sF, mP_sF, mO_sF, mN_sB, mK_sB, mL_sB, mF_sB, mB_sB, mA_sB, mJ_sB, mP_sB, mO_sB, mN_sA, mK_sA, mL_sA, mF_sA, mB_sA, mA_sA, mJ_sA, mP_sA, mO_sA, mN_sJ, mK_sJ, mL_sJ, mF_sJ, mB_sJ, mA_sJ, mJ_sJ, mP_sJ, mO_sJ, mN_sP, mK_sP, mL_sP, mF_sP, mB_sP, mA_sP, mJ_sP, mP_sP, mO_sP, mN_sO, mK_sO, mL_sO, mF_sO, mB_sO, mA_sO, mJ_sO, mP_sO, mO_sO, up2, if_true, if_false, eq_self, ite_true, ite_false, reduceIte, Nat.add_left_cancel_iff, Nat.add_eq_left, Nat.left_eq_add, Nat.reduceEqDiff], by rw [rdK_len]; exact h14, by rw [rdK_len]; exact hwf.2.2.1, hk3⟩
    have hF4 : Fx (fun q => rdQ d q ∨ q = a ∨ q = a + 2 ∨ q = a + 3) μ (sF μ3 a 4 (bI (rdB (aS S nm.1) (aB S) nm))) := (((f01.fx.mono (S' := fun q => rdQ d q ∨ q = a ∨ q = a + 2 ∨ q = a + 3) (fun q h => Or.inl (Or.inl h))).trans (hF2.mono (fun q h => by unfold weR weS at h; exact Or.inl (Or.inr (by omega))))).trans (hF3.fx.mono (fun q h => Or.inr (Or.inr (Or.inl h))))).sF (Or.inr (Or.inl rfl)) _ _
    have hf4 : mF (sF μ3 a 4 (bI (rdB (aS S nm.1) (aB S) nm))) d = mF μ1 d := by
      show (up2 (mF μ3) a 4 _) d = _
      rw [up2_a (show d ≠ a by omega), (hF3.2.2.2.2.2 d (by omega)).1, fd2.1]
    have hP4 : mP (sF μ3 a 4 (bI (rdB (aS S nm.1) (aB S) nm))) d = mP μ d := by show mP μ3 d = _; rw [hF3.2.2.2.1, fd2.2.2.2.2.1, hP01]
    have hR4 : RI (sF μ3 a 4 (bI (rdB (aS S nm.1) (aB S) nm))) d := (hR2.fx hF3.fx (fun q a b => by omega)).fx ((Fr.rf (S := fun q => q = a)).sF rfl 4 (bI (rdB (aS S nm.1) (aB S) nm))).fx (fun q a b => by omega)
    have hfa4 : ∀ f, f ≠ 4 → mF (sF μ3 a 4 (bI (rdB (aS S nm.1) (aB S) nm))) a f = mF μ a f := fun f hf => by
      show up2 _ a 4 _ a f = _
      rw [up2_k hf, fa3, fa2.1, (f01.2.2.2.2.2 a (by omega)).1]
    have nk4 : mK (sF μ3 a 4 (bI (rdB (aS S nm.1) (aB S) nm))) a = 3 := nk3
    have sk4 : mK (sF μ3 a 4 (bI (rdB (aS S nm.1) (aB S) nm))) s = 5 := hShM4.1.1.1.1
    have s74 := hShM4.1.1.1.2.2.2.2.2.2.1
    have s84 := hShM4.2.1.1
    have a64 := hNg4.1.2.2.2.1
    refine e_putZ 57 rfl dX9_freshName_54 f_X9_207 (by assumption) (by first | exact z0 | exact z1 | exact bI01 _ | assumption) ?_
    refine e_al2 58 rfl dX9_freshName_57 ?_
    refine e_al2 59 rfl dX9_freshName_58 ?_
    refine e_al3 60 rfl dX9_freshName_59 ?_
    refine e_getR 63 rfl dX9_freshName_60 f_X9_265 (by assumption) (by assumption) ?_
    refine e_al3 64 rfl dX9_freshName_63 ?_
    first | refine e_getIv 67 rfl dX9_freshName_64 f_X9_268 (by assumption) (by first | assumption | (simp only [mN_sF, mK_sF, mL_sF, mF_sF, mB_sF, mA_sF, mJ_sF, mP_sF, mO_sF, mN_sB, mK_sB, mL_sB, mF_sB, mB_sB, mA_sB, mJ_sB, mP_sB, mO_sB, mN_sA, mK_sA, mL_sA, mF_sA, mB_sA, mA_sA, mJ_sA, mP_sA, mO_sA, mN_sJ, mK_sJ, mL_sJ, mF_sJ, mB_sJ, mA_sJ, mJ_sJ, mP_sJ, mO_sJ, mN_sP, mK_sP, mL_sP, mF_sP, mB_sP, mA_sP, mJ_sP, mP_sP, mO_sP, mN_sO, mK_sO, mL_sO, mF_sO, mB_sO, mA_sO, mJ_sO, mP_sO, mO_sO, up2, if_true, if_false, eq_self, ite_true, ite_false, reduceIte, Nat.add_left_cancel_iff, Nat.add_eq_left, Nat.left_eq_add, Nat.reduceEqDiff]; assumption) | (simp only [mN_sF, mK_sF, mL_sF, mF_sF, mB_sF, mA_sF, mJ_sF, mP_sF, mO_sF, mN_sB, mK_sB, mL_sB, mF_sB, mB_sB, mA_sB, mJ_sB, mP_sB, mO_sB, mN_sA, mK_sA, mL_sA, mF_sA, mB_sA, mA_sA, mJ_sA, mP_sA, mO_sA, mN_sJ, mK_sJ, mL_sJ, mF_sJ, mB_sJ, mA_sJ, mJ_sJ, mP_sJ, mO_sJ, mN_sP, mK_sP, mL_sP, mF_sP, mB_sP, mA_sP, mJ_sP, mP_sP, mO_sP, mN_sO, mK_sO, mL_sO, mF_sO, mB_sO, mA_sO, mJ_sO, mP_sO, mO_sO, up2, if_true, if_false, eq_self, ite_true, ite_false, reduceIte, Nat.add_left_cancel_iff, Nat.add_eq_left, Nat.left_eq_add, Nat.reduceEqDiff]; done)) ?_ | refine e_getI 67 rfl dX9_freshName_64 f_X9_268 (by assumption) ?_
    refine e_al2 68 rfl dX9_freshName_67 ?_
    refine e_getR 71 rfl dX9_freshName_68 f_X9_271 (by assumption) (by assumption) ?_
    refine e_invV0 [_, _, _] 74 rfl dX9_freshName_71 k_X9_274 mo_X2_choose rm_X9_freshName_X2_choose ⟨rfl, rfl⟩ rfl rfl (by assumption) (Nat.le_of_ble_eq_true rfl) ?_
    generalize sF μ3 a 4 (bI (rdB (aS S nm.1) (aB S) nm)) = μ4 at hNg4 hShM4 h14 hNk4 hF4 hf4 hP4 hR4 hfa4 nk4 sk4 ⊢
    have hso := soO_ok hShM4
    refine c_choose (n := 7) hNg4 hNk4 hShM4.1.1.2.2.2.2.2.2.2.2.2.2.2.1 hShM4.1.1.2.2.2.2.2.2.2.2.2.2.2.2.1 (by decide) hso.1 hShM4.2.1.2.2.1 hso.2.2 hNg4.1.2.2.2.2.2.2.2.2.2.1 hNg4.1.2.2.2.2.2.2.2.2.2.2 (by omega) (by omega) (chL_len hso.2.1 (by rw [rdK_len]; exact hwf.2.2.1)) (fun μ5 hF5 hH5 => ?_)
    have nk5 : mK μ5 a = 3 := by rw [hF5.2.1]; exact nk4
    have nk6 : mK (sF μ5 a 7 (nI (chL (rdB (aS S nm.1) (aB S) nm) (soO (aS S nm.1)) (rdK (aS S nm.1) (aB S) nm)).length)) a = 3 := nk5
    refine e_putI 77 rfl dX9_freshName_74 f_X9_191 (by assumption) ?_
    refine e_al2 78 rfl dX9_freshName_77 ?_
    refine e_iconst (nI 1) 79 rfl dX9_freshName_78 ic_1 ?_
    refine e_putZ 82 rfl dX9_freshName_79 f_X9_150 (by assumption) (by first | exact z0 | exact z1 | exact bI01 _ | assumption) ?_
    refine e_al2 83 rfl dX9_freshName_82 ?_
    refine e_aret dX9_freshName_83 rfl ?_
    have f45 : Fr (fun q => q = a ∨ q = a + 3) μ4 (sF (sF μ5 a 7 (nI (chL (rdB (aS S nm.1) (aB S) nm) (soO (aS S nm.1)) (rdK (aS S nm.1) (aB S) nm)).length)) a 3 (nI 1)) := ((hF5.mono (S' := fun q => q = a ∨ q = a + 3) (fun q h => Or.inr h)).sF (Or.inl rfl) _ _).sF (Or.inl rfl) _ _
    have hfa6 : ∀ f, f ≠ 3 → f ≠ 7 → mF (sF (sF μ5 a 7 (nI (chL (rdB (aS S nm.1) (aB S) nm) (soO (aS S nm.1)) (rdK (aS S nm.1) (aB S) nm)).length)) a 3 (nI 1)) a f = mF μ4 a f := fun f h1 h2 => by
      show up2 (up2 _ a 7 _) a 3 _ a f = _
      rw [up2_k h1, up2_k h2, (hF5.2.2.2.2.2 a (by omega)).1]
    have hfa67 : mF (sF (sF μ5 a 7 (nI (chL (rdB (aS S nm.1) (aB S) nm) (soO (aS S nm.1)) (rdK (aS S nm.1) (aB S) nm)).length)) a 3 (nI 1)) a 7 = nI (kyP (aS S nm.1) (aB S) nm).length := by
      show up2 (up2 _ a 7 _) a 3 _ a 7 = _
      rw [up2_k (by decide), up2_s]; rfl
    have hfa63 : mF (sF (sF μ5 a 7 (nI (chL (rdB (aS S nm.1) (aB S) nm) (soO (aS S nm.1)) (rdK (aS S nm.1) (aB S) nm)).length)) a 3 (nI 1)) a 3 = nI 1 := by
      show up2 (up2 _ a 7 _) a 3 _ a 3 = _
      rw [up2_s]
    have hH6 : Hd (mA (sF (sF μ5 a 7 (nI (chL (rdB (aS S nm.1) (aB S) nm) (soO (aS S nm.1)) (rdK (aS S nm.1) (aB S) nm)).length)) a 3 (nI 1)) (a + 3)) (kyP (aS S nm.1) (aB S) nm) := hH5
    generalize sF (sF μ5 a 7 (nI (chL (rdB (aS S nm.1) (aB S) nm) (soO (aS S nm.1)) (rdK (aS S nm.1) (aB S) nm)).length)) a 3 (nI 1) = μ6 at f45 hfa6 hfa67 hfa63 hH6 ⊢
    have hF : Fx (fun q => rdQ d q ∨ q = a ∨ q = a + 2 ∨ q = a + 3) μ μ6 := hF4.trans (f45.fx.mono (fun q h => by rcases h with h | h; exact Or.inr (Or.inl h); exact Or.inr (Or.inr (Or.inr h))))
    have nQ : ∀ q, (d < q ∧ q < d + 263) ∨ (d + 294 ≤ q ∧ q < d + 355) → ¬ (rdQ d q ∨ q = a ∨ q = a + 2 ∨ q = a + 3) := fun q h => by unfold rdQ; omega
    have fd6 : mF μ6 d = mF μ1 d := by rw [(f45.2.2.2.2.2 d (by omega)).1, hf4]
    have hP6 : mP μ6 d = mP μ d := by rw [f45.2.2.2.1, hP4]
    have hff : ∀ f, f ≠ 9 → mF μ6 d f = mF μ d f := fun f hf => by rw [fd6]; exact hf01 f hf
    refine k μ6 hF hff hP6 ⟨hG.fx hF (fun g _ => by rw [hP6]) (nQ _ (by omega)), hT.fx hF (nQ _ (by omega)) (nQ _ (by omega)), hX.fx hF (nQ _ (by omega)), hB.fx hF (fun q a b => nQ q (by omega)), hh.fx hF (nQ _ (by omega)), hR4.fx f45.fx (fun q a b => by omega), hTb.fx hF (fun q a b => nQ q (by omega)), hLn.fx hF (nQ _ (by omega)), hSM.fx hF (by rw [hP6]) (nQ _ (by omega)) (fun q a => nQ q (by omega)), ⟨by rw [hff 7 (by decide)]; exact hN.1, fun j hj => ?_, fun j nm' hj => ?_⟩, Or.inl (by rw [fd6]; exact h91), hRk.fx hF (hff 11 (by decide)) (nQ _ (by omega))⟩ hfa63
    · by_cases e : j = i
      · subst e; rw [← ha]; exact hNg4.fr f45
      · exact (hN.2.1 j hj).fx hF (fun q hq => by have := oth j hj e q hq; have := nA_R (d := d) hj; unfold nS at hq; unfold rdQ; omega)
    · have hjl := (List.getElem?_eq_some_iff.mp hj).1
      by_cases e : j = i
      · subst e
        rw [hi] at hj
        cases hj
        rw [← ha]
        have hfr : Fr (fun q => q = a ∨ q = a + 3) μ4 μ6 := f45
        refine ⟨by rw [hfa6 0 (by decide) (by decide), hfa4 0 (by decide)]; exact hNc.1, hNc.2.1.fx hwf.2.2.1 hF (by rw [hfa6 1 (by decide) (by decide), hfa4 1 (by decide)]) (fun q h1 h2 => by unfold rdQ; omega), ⟨true, hfa63, fun _ => ⟨?_, hfa67, hH6⟩⟩, ?_⟩
        · unfold Nk
          rw [hfa6 4 (by decide) (by decide), hfa6 1 (by decide) (by decide), (f45.2.2.2.2.2 (a + 2) (by omega)).2.2.1]
          exact hNk4
        · obtain ⟨c, hc1, hc2⟩ := hNc.2.2.2
          exact ⟨c, by rw [hfa6 8 (by decide) (by decide), hfa4 8 (by decide)]; exact hc1, fun q => (hc2 q).fx hF (by unfold rdQ; omega) (by unfold rdQ; omega)⟩
      · exact (hN.2.2 j nm' hj).fx (hW.2.2.2.1.2 nm' (List.mem_of_getElem? hj)).2.2.1 hF (fun q hq => by have := oth j (by omega) e q hq; have := nA_R (d := d) (i := j) (by omega); unfold nS at hq; unfold rdQ; omega)
  have hC5 := costW_le (aB S) nm.1 (enO (aS S nm.1)) (fsN nm)
  have hom := hShM2.1.2.2.2.1
  have hs8 := hShM2.1.2.1.2.1
  refine c_readFirst hRst2 hShM2.1 (costW_b _ _ _ _) k22 l22 (by omega) (by omega) (fun hno => ?_) (fun μ3 L m hF3 hMo hlt hfnd hks => ?_)
  · have e1 : fr1 (rdT (aS S nm.1) (aB S) nm) = none := fr1_none hs8 hC5 hom hno
    have e2 : rdB (aS S nm.1) (aB S) nm = false := by unfold rdB; rw [e1]; rfl
    have := cont μ2 Fr.rf (fun q => by rw [e2] at q; cases q)
    rw [e2] at this
    exact this
  · obtain ⟨y, e1, e3, e4⟩ := fr1_some hs8 hC5 hom hwf.2.2.1 hMo hlt hfnd
    have e2 : rdB (aS S nm.1) (aB S) nm = true := by unfold rdB rdT; rw [e1]; rfl
    have e5 : rdK (aS S nm.1) (aB S) nm = (List.range nm.2.length).map (dg nm.2.length m) := by unfold rdK fr1m rdT; rw [e1]; simp only []; rw [e3]
    have := cont μ3 hF3 (fun _ => by
      rw [e5]
      refine ⟨fun j c hj => ?_, fun c hc => ?_⟩
      · rw [List.getElem?_map] at hj
        obtain ⟨r, hr, hc⟩ := Option.map_eq_some_iff.mp hj
        obtain ⟨hr1, hr2⟩ := List.getElem?_eq_some_iff.mp hr
        rw [List.getElem_range] at hr2
        rw [List.length_range] at hr1
        subst hr2
        rw [← hc]
        exact hks j hr1
      · obtain ⟨r, hr, hc⟩ := List.mem_map.mp hc
        rw [← hc]
        exact e4 r (List.mem_range.mp hr))
    rw [e2] at this
    exact this
theorem DI.fresh {d i : Nat} {S : Ast} {nm : Nm} (hD : DI d S μ) (hi : (aN S)[i]? = some nm) (h : mF μ (nA d i) 3 = nI 1) : Nk μ (nA d i) (rdB (aS S nm.1) (aB S) nm) (rdK (aS S nm.1) (aB S) nm) ∧ mF μ (nA d i) 7 = nI (kyP (aS S nm.1) (aB S) nm).length ∧ Hd (mA μ (nA d i + 3)) (kyP (aS S nm.1) (aB S) nm) := by
  obtain ⟨b, h1, h2⟩ := (hD.2.2.2.2.2.2.2.2.2.1.2.2 i nm hi).2.2.1
  cases b with
  | true => exact h2 rfl
  | false => rw [h1] at h; exact absurd h (by decide)
end FRESH
