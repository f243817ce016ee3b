/-! NameDesk: what changes -/
section CHANGE
variable {E : En} {μ : Mm} {K : Option Value → Mm → Prop}
theorem rdT_es {o : Option Shp} {es es' : List Ent} {nm : Nm} (h : ∀ k w, (nm.1, k, w) ∈ es' ↔ (nm.1, k, w) ∈ es) : rdT o es' nm = rdT o es nm := by
  have : costW es' nm.1 (enO o) (fsN nm) = costW es nm.1 (enO o) (fsN nm) := by
    funext w k
    unfold costW cst
    simp only [h]
  unfold rdT
  rw [this]
theorem NmC.es {a : Nat} {o : Option Shp} {es es' : List Ent} {tb : Nat → List Nat} {nm : Nm} (h : NmC μ a o es tb nm) (he : ∀ k w, (nm.1, k, w) ∈ es' ↔ (nm.1, k, w) ∈ es) : NmC μ a o es' tb nm := by
  unfold NmC rdB rdK kyP rdB rdK at h ⊢
  rw [rdT_es he]
  exact h
theorem NmC.stale {a : Nat} {o o' : Option Shp} {es es' : List Ent} {tb : Nat → List Nat} {nm : Nm} (h : NmC μ a o es tb nm) : NmC (sF μ a 3 (nI 0)) a o' es' tb nm := by
  obtain ⟨h1, h2, ⟨b, h3, h4⟩, c, h5, h6⟩ := h
  refine ⟨by simp only [mN_sF, mK_sF, mL_sF, mF_sF, mB_sF, mA_sF, mJ_sF, mP_sF, mO_sF, mN_sB, mK_sB, mL_sB, mF_sB, mB_sB, mA_sB, mJ_sB, mP_sB, mO_sB, mN_sA, mK_sA, mL_sA, mF_sA, mB_sA, mA_sA, mJ_sA, mP_sA, mO_sA, mN_sJ, mK_sJ, mL_sJ, mF_sJ, mB_sJ, mA_sJ, mJ_sJ, mP_sJ, mO_sJ, mN_sP, mK_sP, mL_sP, mF_sP, mB_sP, mA_sP, mJ_sP, mP_sP, mO_sP, mN_sO, mK_sO, mL_sO, mF_sO, mB_sO, mA_sO, mJ_sO, mP_sO, mO_sO, up2, if_true, if_false, eq_self, ite_true, ite_false, reduceIte, Nat.add_left_cancel_iff, Nat.add_eq_left, Nat.left_eq_add, Nat.reduceEqDiff]; exact h1, ⟨by simp only [mN_sF, mK_sF, mL_sF, mF_sF, mB_sF, mA_sF, mJ_sF, mP_sF, mO_sF, mN_sB, mK_sB, mL_sB, mF_sB, mB_sB, mA_sB, mJ_sB, mP_sB, mO_sB, mN_sA, mK_sA, mL_sA, mF_sA, mB_sA, mA_sA, mJ_sA, mP_sA, mO_sA, mN_sJ, mK_sJ, mL_sJ, mF_sJ, mB_sJ, mA_sJ, mJ_sJ, mP_sJ, mO_sJ, mN_sP, mK_sP, mL_sP, mF_sP, mB_sP, mA_sP, mJ_sP, mP_sP, mO_sP, mN_sO, mK_sO, mL_sO, mF_sO, mB_sO, mA_sO, mJ_sO, mP_sO, mO_sO, up2, if_true, if_false, eq_self, ite_true, ite_false, reduceIte, Nat.add_left_cancel_iff, Nat.add_eq_left, Nat.left_eq_add, Nat.reduceEqDiff]; exact h2.1, fun i w hi => ?_⟩, ⟨false, by simp only [mN_sF, mK_sF, mL_sF, mF_sF, mB_sF, mA_sF, mJ_sF, mP_sF, mO_sF, mN_sB, mK_sB, mL_sB, mF_sB, mB_sB, mA_sB, mJ_sB, mP_sB, mO_sB, mN_sA, mK_sA, mL_sA, mF_sA, mB_sA, mA_sA, mJ_sA, mP_sA, mO_sA, mN_sJ, mK_sJ, mL_sJ, mF_sJ, mB_sJ, mA_sJ, mJ_sJ, mP_sJ, mO_sJ, mN_sP, mK_sP, mL_sP, mF_sP, mB_sP, mA_sP, mJ_sP, mP_sP, mO_sP, mN_sO, mK_sO, mL_sO, mF_sO, mB_sO, mA_sO, mJ_sO, mP_sO, mO_sO, up2, if_true, if_false, eq_self, ite_true, ite_false, reduceIte, Nat.add_left_cancel_iff, Nat.add_eq_left, Nat.left_eq_add, Nat.reduceEqDiff]; rfl, fun q => by cases q⟩, c, by simp only [mN_sF, mK_sF, mL_sF, mF_sF, mB_sF, mA_sF, mJ_sF, mP_sF, mO_sF, mN_sB, mK_sB, mL_sB, mF_sB, mB_sB, mA_sB, mJ_sB, mP_sB, mO_sB, mN_sA, mK_sA, mL_sA, mF_sA, mB_sA, mA_sA, mJ_sA, mP_sA, mO_sA, mN_sJ, mK_sJ, mL_sJ, mF_sJ, mB_sJ, mA_sJ, mJ_sJ, mP_sJ, mO_sJ, mN_sP, mK_sP, mL_sP, mF_sP, mB_sP, mA_sP, mJ_sP, mP_sP, mO_sP, mN_sO, mK_sO, mL_sO, mF_sO, mB_sO, mA_sO, mJ_sO, mP_sO, mO_sO, up2, if_true, if_false, eq_self, ite_true, ite_false, reduceIte, Nat.add_left_cancel_iff, Nat.add_eq_left, Nat.left_eq_add, Nat.reduceEqDiff]; exact h5, fun q => (h6 q).fr ((Fr.rf (S := fun q => q = a)).sF rfl 3 (nI 0)) (by omega) (by omega)⟩
  obtain ⟨w1, w2, w3, w4⟩ := h2.2 i w hi
  refine ⟨?_, ?_, w3, w4⟩
  · show up2 _ a 3 _ (a + 6 + 3 * i) 1 = _
    rw [up2_a (by omega)]; exact w1
  · show up2 _ a 3 _ (a + 6 + 3 * i) 3 = _
    rw [up2_a (by omega)]; exact w2
def lcS (d : Nat) : Nat → Prop := fun q => q = d ∨ ∃ i, i < 30 ∧ q = nA d i
theorem c_landChanged {d ld : Nat} {sh sh' : Nat → Option Shp} {es es' : List Ent} {tb : Nat → List Nat} {ns : List Nm} (hG : GD μ d) (hN : NmI μ d sh es tb ns) (hw : ns.length ≤ 30 ∧ ∀ nm ∈ ns, wfN nm) (hld : ld < 6) (hsh : ∀ l, l ≠ ld → sh' l = sh l) (hes : ∀ l k w, l ≠ ld → ((l, k, w) ∈ es' ↔ (l, k, w) ∈ es))
    (k : ∀ μ', Fr (lcS d) μ μ' → (∀ f, f ≠ 9 → f ≠ 11 → mF μ' d f = mF μ d f) → NmI μ' d sh' es' tb ns → mF μ' d 9 = -1 → mF μ' d 11 = nI 0 → K none μ') : Cl E M_X9_landChanged [.ref d, .int (nI ld)] μ K := by
  have n30 := hw.1
  let Q : Nat → Prop := fun q => ∃ i, i < 30 ∧ q = nA d i
  have hQd : ¬ Q d := fun ⟨i, _, h⟩ => by unfold nA at h; omega
  have hQ262 : ¬ Q (d + 262) := fun ⟨i, _, h⟩ => by unfold nA at h; omega
  have loop : ∀ (fu i : Nat), i + fu = ns.length → ∀ μ1, Fr Q μ μ1 → (∀ j nm, ns[j]? = some nm → (j < i → NmC μ1 (nA d j) (sh' nm.1) es' tb nm) ∧ (i ≤ j → NmC μ1 (nA d j) (sh nm.1) es tb nm)) → Ev E M_X9_landChanged 0 0 2 [some (.ref d), some (.int (nI ld)), some (.int (nI i))] [] μ1 K := by
    intro fu
    induction fu with
    | zero =>
      intro i hi μ1 hF hI
      have hG1 := hG.fx hF.fx (fun g _ => by rw [hF.2.2.2.1]) hQ262
      have gk := hG1.1.1
      have h7 : mF μ1 d 7 = nI ns.length := by rw [(hF.2.2.2.2.2 d hQd).1]; exact hN.1
      refine e_il2 3 rfl dX9_landChanged_2 ?_
      refine e_al0 4 rfl dX9_landChanged_3 ?_
      first | refine e_getIv 7 rfl dX9_landChanged_4 f_X9_54 (by assumption) (by first | assumption | (simp only [mN_sF, mK_sF, mL_sF, mF_sF, mB_sF, mA_sF, mJ_sF, mP_sF, mO_sF, mN_sB, mK_sB, mL_sB, mF_sB, mB_sB, mA_sB, mJ_sB, mP_sB, mO_sB, mN_sA, mK_sA, mL_sA, mF_sA, mB_sA, mA_sA, mJ_sA, mP_sA, mO_sA, mN_sJ, mK_sJ, mL_sJ, mF_sJ, mB_sJ, mA_sJ, mJ_sJ, mP_sJ, mO_sJ, mN_sP, mK_sP, mL_sP, mF_sP, mB_sP, mA_sP, mJ_sP, mP_sP, mO_sP, mN_sO, mK_sO, mL_sO, mF_sO, mB_sO, mA_sO, mJ_sO, mP_sO, mO_sO, up2, if_true, if_false, eq_self, ite_true, ite_false, reduceIte, Nat.add_left_cancel_iff, Nat.add_eq_left, Nat.left_eq_add, Nat.reduceEqDiff]; assumption) | (simp only [mN_sF, mK_sF, mL_sF, mF_sF, mB_sF, mA_sF, mJ_sF, mP_sF, mO_sF, mN_sB, mK_sB, mL_sB, mF_sB, mB_sB, mA_sB, mJ_sB, mP_sB, mO_sB, mN_sA, mK_sA, mL_sA, mF_sA, mB_sA, mA_sA, mJ_sA, mP_sA, mO_sA, mN_sJ, mK_sJ, mL_sJ, mF_sJ, mB_sJ, mA_sJ, mJ_sJ, mP_sJ, mO_sJ, mN_sP, mK_sP, mL_sP, mF_sP, mB_sP, mA_sP, mJ_sP, mP_sP, mO_sP, mN_sO, mK_sO, mL_sO, mF_sO, mB_sO, mA_sO, mJ_sO, mP_sO, mO_sO, up2, if_true, if_false, eq_self, ite_true, ite_false, reduceIte, Nat.add_left_cancel_iff, Nat.add_eq_left, Nat.left_eq_add, Nat.reduceEqDiff]; done)) ?_ | refine e_getI 7 rfl dX9_landChanged_4 f_X9_54 (by assumption) ?_
      first | refine e_cmp_geN 39 10 (by decide) rfl dX9_landChanged_7 rfl rfl (by omega) (by omega) (fun y1 => ?_) (fun y1 => ?_) | refine e_cmp_ge 39 10 (by decide) rfl dX9_landChanged_7 (fun y1 => ?_) (fun y1 => ?_)
      rotate_left
      · omega
      have gk2 : mK (sF μ1 d 9 (-1)) d = 10 := gk
      refine e_al0 40 rfl dX9_landChanged_39 ?_
      refine e_iconst (-1) 41 rfl dX9_landChanged_40 ic_m1 ?_
      refine e_putI 44 rfl dX9_landChanged_41 f_X9_65 (by assumption) ?_
      refine e_al0 45 rfl dX9_landChanged_44 ?_
      refine e_iconst (nI 0) 46 rfl dX9_landChanged_45 ic_0 ?_
      refine e_putZ 49 rfl dX9_landChanged_46 f_X9_72 (by assumption) (by first | exact z0 | exact z1 | exact bI01 _ | assumption) ?_
      refine e_ret dX9_landChanged_49 rfl ?_
      have hF2 : Fr (lcS d) μ (sF (sF μ1 d 9 (-1)) d 11 (nI 0)) := ((hF.mono (S' := lcS d) (fun q h => Or.inr h)).sF (show lcS d d from Or.inl rfl) _ _).sF (show lcS d d from Or.inl rfl) _ _
      refine k _ hF2 (fun f a b => ?_) ⟨?_, fun i hi => (hN.2.1 i hi).fr hF2, fun j nm hj => ?_⟩ (by simp only [mN_sF, mK_sF, mL_sF, mF_sF, mB_sF, mA_sF, mJ_sF, mP_sF, mO_sF, mN_sB, mK_sB, mL_sB, mF_sB, mB_sB, mA_sB, mJ_sB, mP_sB, mO_sB, mN_sA, mK_sA, mL_sA, mF_sA, mB_sA, mA_sA, mJ_sA, mP_sA, mO_sA, mN_sJ, mK_sJ, mL_sJ, mF_sJ, mB_sJ, mA_sJ, mJ_sJ, mP_sJ, mO_sJ, mN_sP, mK_sP, mL_sP, mF_sP, mB_sP, mA_sP, mJ_sP, mP_sP, mO_sP, mN_sO, mK_sO, mL_sO, mF_sO, mB_sO, mA_sO, mJ_sO, mP_sO, mO_sO, up2, if_true, if_false, eq_self, ite_true, ite_false, reduceIte, Nat.add_left_cancel_iff, Nat.add_eq_left, Nat.left_eq_add, Nat.reduceEqDiff]) (by simp only [mN_sF, mK_sF, mL_sF, mF_sF, mB_sF, mA_sF, mJ_sF, mP_sF, mO_sF, mN_sB, mK_sB, mL_sB, mF_sB, mB_sB, mA_sB, mJ_sB, mP_sB, mO_sB, mN_sA, mK_sA, mL_sA, mF_sA, mB_sA, mA_sA, mJ_sA, mP_sA, mO_sA, mN_sJ, mK_sJ, mL_sJ, mF_sJ, mB_sJ, mA_sJ, mJ_sJ, mP_sJ, mO_sJ, mN_sP, mK_sP, mL_sP, mF_sP, mB_sP, mA_sP, mJ_sP, mP_sP, mO_sP, mN_sO, mK_sO, mL_sO, mF_sO, mB_sO, mA_sO, mJ_sO, mP_sO, mO_sO, up2, if_true, if_false, eq_self, ite_true, ite_false, reduceIte, Nat.add_left_cancel_iff, Nat.add_eq_left, Nat.left_eq_add, Nat.reduceEqDiff])
      · show up2 (up2 _ d 9 _) d 11 _ d f = _
        rw [up2_k b, up2_k a, (hF.2.2.2.2.2 d hQd).1]
      · simp only [mN_sF, mK_sF, mL_sF, mF_sF, mB_sF, mA_sF, mJ_sF, mP_sF, mO_sF, mN_sB, mK_sB, mL_sB, mF_sB, mB_sB, mA_sB, mJ_sB, mP_sB, mO_sB, mN_sA, mK_sA, mL_sA, mF_sA, mB_sA, mA_sA, mJ_sA, mP_sA, mO_sA, mN_sJ, mK_sJ, mL_sJ, mF_sJ, mB_sJ, mA_sJ, mJ_sJ, mP_sJ, mO_sJ, mN_sP, mK_sP, mL_sP, mF_sP, mB_sP, mA_sP, mJ_sP, mP_sP, mO_sP, mN_sO, mK_sO, mL_sO, mF_sO, mB_sO, mA_sO, mJ_sO, mP_sO, mO_sO, up2, if_true, if_false, eq_self, ite_true, ite_false, reduceIte, Nat.add_left_cancel_iff, Nat.add_eq_left, Nat.left_eq_add, Nat.reduceEqDiff]; exact h7
      · have hjl := (List.getElem?_eq_some_iff.mp hj).1
        have hF3 : Fr (fun q => q = d) μ1 (sF (sF μ1 d 9 (-1)) d 11 (nI 0)) := ((Fr.rf (S := fun q => q = d)).sF rfl _ _).sF rfl _ _
        exact ((hI j nm hj).1 (by omega)).fx (hw.2 nm (List.mem_of_getElem? hj)).2.2.1 hF3.fx (fun q hq => by unfold nS nA at hq; omega)
    | succ fu ih =>
      intro i hi μ1 hF hI
      have hG1 := hG.fx hF.fx (fun g _ => by rw [hF.2.2.2.1]) hQ262
      obtain ⟨⟨gk, p0, p1, p2, p4, p5, p6, px⟩, ⟨k3, l3, k262, l262, kx⟩, g3⟩ := id hG1
      have h7 : mF μ1 d 7 = nI ns.length := by rw [(hF.2.2.2.2.2 d hQd).1]; exact hN.1
      have hil : i < ns.length := by omega
      have hi30 : i < 30 := by omega
      have o1 := g3 i hi30
      have hx := List.getElem?_eq_getElem hil
      have hNc := (hI i _ hx).2 (Nat.le_refl _)
      have hl0 := hNc.1
      have hwf := hw.2 _ (List.getElem_mem hil)
      have hl6 := hwf.1
      have nk : mK μ1 (nA d i) = 3 := by rw [hF.2.1]; exact (hN.2.1 i hi30).1.1
      refine e_il2 3 rfl dX9_landChanged_2 ?_
      refine e_al0 4 rfl dX9_landChanged_3 ?_
      first | refine e_getIv 7 rfl dX9_landChanged_4 f_X9_54 (by assumption) (by first | assumption | (simp only [mN_sF, mK_sF, mL_sF, mF_sF, mB_sF, mA_sF, mJ_sF, mP_sF, mO_sF, mN_sB, mK_sB, mL_sB, mF_sB, mB_sB, mA_sB, mJ_sB, mP_sB, mO_sB, mN_sA, mK_sA, mL_sA, mF_sA, mB_sA, mA_sA, mJ_sA, mP_sA, mO_sA, mN_sJ, mK_sJ, mL_sJ, mF_sJ, mB_sJ, mA_sJ, mJ_sJ, mP_sJ, mO_sJ, mN_sP, mK_sP, mL_sP, mF_sP, mB_sP, mA_sP, mJ_sP, mP_sP, mO_sP, mN_sO, mK_sO, mL_sO, mF_sO, mB_sO, mA_sO, mJ_sO, mP_sO, mO_sO, up2, if_true, if_false, eq_self, ite_true, ite_false, reduceIte, Nat.add_left_cancel_iff, Nat.add_eq_left, Nat.left_eq_add, Nat.reduceEqDiff]; assumption) | (simp only [mN_sF, mK_sF, mL_sF, mF_sF, mB_sF, mA_sF, mJ_sF, mP_sF, mO_sF, mN_sB, mK_sB, mL_sB, mF_sB, mB_sB, mA_sB, mJ_sB, mP_sB, mO_sB, mN_sA, mK_sA, mL_sA, mF_sA, mB_sA, mA_sA, mJ_sA, mP_sA, mO_sA, mN_sJ, mK_sJ, mL_sJ, mF_sJ, mB_sJ, mA_sJ, mJ_sJ, mP_sJ, mO_sJ, mN_sP, mK_sP, mL_sP, mF_sP, mB_sP, mA_sP, mJ_sP, mP_sP, mO_sP, mN_sO, mK_sO, mL_sO, mF_sO, mB_sO, mA_sO, mJ_sO, mP_sO, mO_sO, up2, if_true, if_false, eq_self, ite_true, ite_false, reduceIte, Nat.add_left_cancel_iff, Nat.add_eq_left, Nat.left_eq_add, Nat.reduceEqDiff]; done)) ?_ | refine e_getI 7 rfl dX9_landChanged_4 f_X9_54 (by assumption) ?_
      first | refine e_cmp_geN 39 10 (by decide) rfl dX9_landChanged_7 rfl rfl (by omega) (by omega) (fun y1 => ?_) (fun y1 => ?_) | refine e_cmp_ge 39 10 (by decide) rfl dX9_landChanged_7 (fun y1 => ?_) (fun y1 => ?_)
      · omega
      refine e_al0 11 rfl dX9_landChanged_10 ?_
      refine e_getR 14 rfl dX9_landChanged_11 f_X9_50 (by assumption) (by assumption) ?_
      refine e_il2 15 rfl dX9_landChanged_14 ?_
      refine e_aald 16 rfl dX9_landChanged_15 (by assumption) (by decide) (by assumption) (by first | rfl | simp only [pk_mul, nI_add]) (by omega) (by omega) (by assumption) ?_
      first | refine e_getIv 19 rfl dX9_landChanged_16 f_X9_147 (by assumption) (by first | assumption | (simp only [mN_sF, mK_sF, mL_sF, mF_sF, mB_sF, mA_sF, mJ_sF, mP_sF, mO_sF, mN_sB, mK_sB, mL_sB, mF_sB, mB_sB, mA_sB, mJ_sB, mP_sB, mO_sB, mN_sA, mK_sA, mL_sA, mF_sA, mB_sA, mA_sA, mJ_sA, mP_sA, mO_sA, mN_sJ, mK_sJ, mL_sJ, mF_sJ, mB_sJ, mA_sJ, mJ_sJ, mP_sJ, mO_sJ, mN_sP, mK_sP, mL_sP, mF_sP, mB_sP, mA_sP, mJ_sP, mP_sP, mO_sP, mN_sO, mK_sO, mL_sO, mF_sO, mB_sO, mA_sO, mJ_sO, mP_sO, mO_sO, up2, if_true, if_false, eq_self, ite_true, ite_false, reduceIte, Nat.add_left_cancel_iff, Nat.add_eq_left, Nat.left_eq_add, Nat.reduceEqDiff]; assumption) | (simp only [mN_sF, mK_sF, mL_sF, mF_sF, mB_sF, mA_sF, mJ_sF, mP_sF, mO_sF, mN_sB, mK_sB, mL_sB, mF_sB, mB_sB, mA_sB, mJ_sB, mP_sB, mO_sB, mN_sA, mK_sA, mL_sA, mF_sA, mB_sA, mA_sA, mJ_sA, mP_sA, mO_sA, mN_sJ, mK_sJ, mL_sJ, mF_sJ, mB_sJ, mA_sJ, mJ_sJ, mP_sJ, mO_sJ, mN_sP, mK_sP, mL_sP, mF_sP, mB_sP, mA_sP, mJ_sP, mP_sP, mO_sP, mN_sO, mK_sO, mL_sO, mF_sO, mB_sO, mA_sO, mJ_sO, mP_sO, mO_sO, up2, if_true, if_false, eq_self, ite_true, ite_false, reduceIte, Nat.add_left_cancel_iff, Nat.add_eq_left, Nat.left_eq_add, Nat.reduceEqDiff]; done)) ?_ | refine e_getI 19 rfl dX9_landChanged_16 f_X9_147 (by assumption) ?_
      refine e_il1 20 rfl dX9_landChanged_19 ?_
      first | refine e_cmp_neN 33 23 (by decide) rfl dX9_landChanged_20 rfl rfl (by omega) (by omega) (fun y2 => ?_) (fun y2 => ?_) | refine e_cmp_ne 33 23 (by decide) rfl dX9_landChanged_20 (fun y2 => ?_) (fun y2 => ?_)
      · refine e_ii2 (nI (_ + 1)) 36 rfl dX9_landChanged_33 (ii1 _) rfl ?_
        refine e_goto 2 (by decide) dX9_landChanged_36 ?_
        refine ih (i + 1) (by omega) μ1 hF (fun j nm hj => ⟨fun hji => ?_, fun hji => (hI j nm hj).2 (by omega)⟩)
        by_cases e : j = i
        · subst e
          rw [hx] at hj
          cases hj
          rw [hsh _ y2]
          exact hNc.es (fun k w => hes _ k w y2)
        · exact (hI j nm hj).1 (by omega)
      · refine e_al0 24 rfl dX9_landChanged_23 ?_
        refine e_getR 27 rfl dX9_landChanged_24 f_X9_50 (by assumption) (by assumption) ?_
        refine e_il2 28 rfl dX9_landChanged_27 ?_
        refine e_aald 29 rfl dX9_landChanged_28 (by assumption) (by decide) (by assumption) (by first | rfl | simp only [pk_mul, nI_add]) (by omega) (by omega) (by assumption) ?_
        refine e_iconst (nI 0) 30 rfl dX9_landChanged_29 ic_0 ?_
        refine e_putZ 33 rfl dX9_landChanged_30 f_X9_150 (by assumption) (by first | exact z0 | exact z1 | exact bI01 _ | assumption) ?_
        refine e_ii2 (nI (_ + 1)) 36 rfl dX9_landChanged_33 (ii1 _) rfl ?_
        refine e_goto 2 (by decide) dX9_landChanged_36 ?_
        have hF3 : Fr (fun q => q = nA d i) μ1 (sF μ1 (nA d i) 3 (nI 0)) := (Fr.rf (S := fun q => q = nA d i)).sF rfl _ _
        have oth : ∀ j nm, ns[j]? = some nm → j ≠ i → ∀ o e, NmC μ1 (nA d j) o e tb nm → NmC (sF μ1 (nA d i) 3 (nI 0)) (nA d j) o e tb nm := fun j nm hj hne o e hc => hc.fx (hw.2 nm (List.mem_of_getElem? hj)).2.2.1 hF3.fx (fun q hq => by unfold nS nA at hq; unfold nA; omega)
        refine ih (i + 1) (by omega) _ (hF.sF (⟨i, hi30, rfl⟩ : Q (nA d i)) _ _) (fun j nm hj => ⟨fun hji => ?_, fun hji => oth j nm hj (by omega) _ _ ((hI j nm hj).2 (by omega))⟩)
        by_cases e : j = i
        · subst e
          rw [hx] at hj
          cases hj
          exact hNc.stale
        · exact oth j nm hj e _ _ ((hI j nm hj).1 (by omega))
  refine Cl.of0 1 pn_X9 (Nat.le_of_ble_eq_true rfl) ⟨rfl, rfl⟩ rfl ?_
  refine e_iconst (nI 0) 1 rfl dX9_landChanged_0 ic_0 ?_
  refine e_is2 2 rfl dX9_landChanged_1 (by decide) rfl ?_
  exact loop ns.length 0 (by omega) μ Fr.rf (fun j nm hj => ⟨fun q => by omega, fun _ => hN.2.2 j nm hj⟩)
/-- the entry that a call names -/
def entQ (l : List Nat) (x y n : Int32) : Option Ent := match okL x, okK y, okH l n with
  | some ld, some kd, some m => if isWordL (l.take m) = true then some (ld, kd, foldL (l.take m)) else none
  | _, _, _ => none
theorem c_isEntry {d : Nat} {S : Ast} {x y n : Int32} (hD : DI d S μ)
    (kf : entQ (aT S) x y n = none → ∀ μ', Fr (wS (d + 259)) μ μ' → K (some (.int (nI 0))) μ')
    (kt : ∀ ld kd w, entQ (aT S) x y n = some (ld, kd, w) → ld < 6 → kd < 5 → x = nI ld → y = nI kd → wfE (ld, kd, w) → ∀ μ', Fr (wS (d + 259)) μ μ' → Wl μ' (d + 259) w → K (some (.int (nI 1))) μ') : Cl E M_X9_isEntry [.ref d, .int x, .int y, .int n] μ K := by
  obtain ⟨⟨⟨gk, p0, p1, p2, p4, p5, px⟩, _⟩, hT, _, _, hh, _⟩ := id hD
  obtain ⟨tk, tp, bk, bl4⟩ := hT.1
  have hk9 := hh.1
  unfold entQ at kf kt
  refine Cl.of0 0 pn_X9 (Nat.le_of_ble_eq_true rfl) ⟨rfl, rfl⟩ rfl ?_
  refine e_il1 1 rfl dX9_isEntry_0 ?_
  refine e_invS0 [_] 4 rfl dX9_isEntry_1 k_X9_101 mo_X9_isLand rm_X9_isEntry_X9_isLand ⟨rfl, rfl⟩ rfl rfl (Nat.le_of_ble_eq_true rfl) ?_
  refine c_isLand ?_
  cases eL : okL x with
  | none =>
    rw [eL] at kf
    first | refine e_if_eqB 50 7 (by decide) rfl dX9_isEntry_4 rfl (fun y1 => ?_) (fun y1 => ?_) | refine e_if_eqN 50 7 (by decide) rfl dX9_isEntry_4 rfl (by omega) (fun y1 => ?_) (fun y1 => ?_) | refine e_if_eq 50 7 (by decide) rfl dX9_isEntry_4 (fun y1 => ?_) (fun y1 => ?_)
    · refine e_iconst (nI 0) 51 rfl dX9_isEntry_50 ic_0 ?_
      refine e_zret dX9_isEntry_51 rfl (by first | exact z0 | exact z1 | exact bI01 _ | assumption) ?_
      exact kf rfl μ Fr.rf
    · cases y1
  | some ld =>
  rw [eL] at kf kt
  obtain ⟨hl6, hxl⟩ := okL_some eL
  first | refine e_if_eqB 50 7 (by decide) rfl dX9_isEntry_4 rfl (fun y1 => ?_) (fun y1 => ?_) | refine e_if_eqN 50 7 (by decide) rfl dX9_isEntry_4 rfl (by omega) (fun y1 => ?_) (fun y1 => ?_) | refine e_if_eq 50 7 (by decide) rfl dX9_isEntry_4 (fun y1 => ?_) (fun y1 => ?_)
  · cases y1
  unfold okK at kf kt
  rcases iN_cases y with ⟨hy, qy⟩ | ⟨kd, hk31, hy, qy⟩
  · rw [qy] at kf
    refine e_il2 8 rfl dX9_isEntry_7 ?_
    refine e_if_lt 50 11 (by decide) rfl dX9_isEntry_8 (fun y2 => ?_) (fun y2 => ?_)
    · refine e_iconst (nI 0) 51 rfl dX9_isEntry_50 ic_0 ?_
      refine e_zret dX9_isEntry_51 rfl (by first | exact z0 | exact z1 | exact bI01 _ | assumption) ?_
      exact kf rfl μ Fr.rf
    · exact absurd hy y2
  rw [qy, Option.filter_some] at kf kt
  subst hy
  refine e_il2 8 rfl dX9_isEntry_7 ?_
  first | refine e_if_ltN 50 11 (by decide) rfl dX9_isEntry_8 rfl (by omega) ?_ | refine e_if_lt 50 11 (by decide) rfl dX9_isEntry_8 (fun h => ?_) (fun h => ?_)
  refine e_il2 12 rfl dX9_isEntry_11 ?_
  refine e_iconst (nI 4) 13 rfl dX9_isEntry_12 ic_4 ?_
  first | refine e_cmp_gtN 50 16 (by decide) rfl dX9_isEntry_13 rfl rfl (by omega) (by omega) (fun y3 => ?_) (fun y3 => ?_) | refine e_cmp_gt 50 16 (by decide) rfl dX9_isEntry_13 (fun y3 => ?_) (fun y3 => ?_)
  · rw [if_neg (by simp; omega)] at kf
    refine e_iconst (nI 0) 51 rfl dX9_isEntry_50 ic_0 ?_
    refine e_zret dX9_isEntry_51 rfl (by first | exact z0 | exact z1 | exact bI01 _ | assumption) ?_
    exact kf rfl μ Fr.rf
  rw [if_pos (by simp; omega)] at kf kt
  refine e_al0 17 rfl dX9_isEntry_16 ?_
  refine e_getR 20 rfl dX9_isEntry_17 f_X9_12 (by assumption) (by assumption) ?_
  refine e_il3 21 rfl dX9_isEntry_20 ?_
  refine e_invV0 [_] 24 rfl dX9_isEntry_21 k_X9_105 mo_X7_holds rm_X9_isEntry_X7_holds ⟨rfl, rfl⟩ rfl rfl (by assumption) (Nat.le_of_ble_eq_true rfl) ?_
  refine c_tholds hT ?_
  cases eH : okH (aT S) n with
  | none =>
    rw [eH] at kf
    first | refine e_if_eqB 50 27 (by decide) rfl dX9_isEntry_24 rfl (fun y4 => ?_) (fun y4 => ?_) | refine e_if_eqN 50 27 (by decide) rfl dX9_isEntry_24 rfl (by omega) (fun y4 => ?_) (fun y4 => ?_) | refine e_if_eq 50 27 (by decide) rfl dX9_isEntry_24 (fun y4 => ?_) (fun y4 => ?_)
    · refine e_iconst (nI 0) 51 rfl dX9_isEntry_50 ic_0 ?_
      refine e_zret dX9_isEntry_51 rfl (by first | exact z0 | exact z1 | exact bI01 _ | assumption) ?_
      exact kf rfl μ Fr.rf
    · cases y4
  | some m =>
  rw [eH] at kf kt
  obtain ⟨hml, hnm⟩ := okH_some eH
  simp only [] at kf kt
  subst hnm
  obtain ⟨tx, htx, hseg⟩ := hT.tx
  have h400 := hT.2.2.2.1
  first | refine e_if_eqB 50 27 (by decide) rfl dX9_isEntry_24 rfl (fun y4 => ?_) (fun y4 => ?_) | refine e_if_eqN 50 27 (by decide) rfl dX9_isEntry_24 rfl (by omega) (fun y4 => ?_) (fun y4 => ?_) | refine e_if_eq 50 27 (by decide) rfl dX9_isEntry_24 (fun y4 => ?_) (fun y4 => ?_)
  · cases y4
  refine e_al0 28 rfl dX9_isEntry_27 ?_
  refine e_getR 31 rfl dX9_isEntry_28 f_X9_44 (by assumption) (by assumption) ?_
  refine e_al0 32 rfl dX9_isEntry_31 ?_
  refine e_getR 35 rfl dX9_isEntry_32 f_X9_12 (by assumption) (by assumption) ?_
  refine e_getR 38 rfl dX9_isEntry_35 f_X9_108 (by assumption) (by assumption) ?_
  refine e_iconst (nI 0) 39 rfl dX9_isEntry_38 ic_0 ?_
  refine e_il3 40 rfl dX9_isEntry_39 ?_
  refine e_invV0 [_, _, _] 43 rfl dX9_isEntry_40 k_X9_248 mo_X8_take rm_X9_isEntry_X8_take ⟨rfl, rfl⟩ rfl rfl (by assumption) (Nat.le_of_ble_eq_true rfl) ?_
  refine c_take (tx := tx) (n := 400) hh bk bl4 (by decide) htx (by unfold wS; omega) (by decide) (by omega) (fun hok μ' hF hWI => ?_) (fun hno μ' hF => ?_)
  · rw [hseg m hml] at hok hWI
    rw [if_pos hok] at kt
    have hww := wordL hok
    first | refine e_if_eqB 50 46 (by decide) rfl dX9_isEntry_43 rfl (fun y5 => ?_) (fun y5 => ?_) | refine e_if_eqN 50 46 (by decide) rfl dX9_isEntry_43 rfl (by omega) (fun y5 => ?_) (fun y5 => ?_) | refine e_if_eq 50 46 (by decide) rfl dX9_isEntry_43 (fun y5 => ?_) (fun y5 => ?_)
    · exact absurd y5 (by decide)
    · refine e_iconst (nI 1) 47 rfl dX9_isEntry_46 ic_1 ?_
      refine e_goto 51 (by decide) dX9_isEntry_47 ?_
      refine e_zret dX9_isEntry_51 rfl (by first | exact z0 | exact z1 | exact bI01 _ | assumption) ?_
      exact kt _ _ _ rfl hl6 (by omega) hxl rfl ⟨hl6, by show kd < 5; omega, hww.2.2.1, hww.2.2.2.1, foldL_r⟩ μ' hF ⟨hWI.2.1, hWI.2.2.2, hww.2.2.2.1, fun c hc => by have := foldL_r c hc; omega⟩
  · rw [hseg m hml] at hno
    rw [if_neg (by rw [hno]; decide)] at kf
    first | refine e_if_eqB 50 46 (by decide) rfl dX9_isEntry_43 rfl (fun y5 => ?_) (fun y5 => ?_) | refine e_if_eqN 50 46 (by decide) rfl dX9_isEntry_43 rfl (by omega) (fun y5 => ?_) (fun y5 => ?_) | refine e_if_eq 50 46 (by decide) rfl dX9_isEntry_43 (fun y5 => ?_) (fun y5 => ?_)
    · refine e_iconst (nI 0) 51 rfl dX9_isEntry_50 ic_0 ?_
      refine e_zret dX9_isEntry_51 rfl (by first | exact z0 | exact z1 | exact bI01 _ | assumption) ?_
      exact kf rfl μ' hF
    · exact absurd rfl y5
end CHANGE
