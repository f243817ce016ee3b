/-! NameDesk: lines -/
section LINES
variable {E : En} {μ : Mm} {K : Option Value → Mm → Prop}
theorem jn_len {ws : List (List Nat)} {B : Nat} (h : ∀ w ∈ ws, w.length ≤ B) : ∀ n, (jn ws n).length ≤ n * (B + 1) := by
  intro n
  induction n with
  | zero => simp [jn]
  | succ n ih =>
    rw [jn, List.length_append, List.length_append, Nat.succ_mul]
    have h1 : (bl n).length ≤ 1 := by unfold bl; split <;> simp
    have h2 : (ws.getD n []).length ≤ B := by
      rw [List.getD_eq_getElem?_getD]
      cases e : ws[n]? with
      | none => simp
      | some w => exact h w (List.mem_of_getElem? e)
    omega
/-- the cells that putLine may write -/
def plQ (d i : Nat) : Nat → Prop := fun q => q = nA d i ∨ q = nA d i + 4 ∨ q = nA d i + 5
theorem DI.nm {d i : Nat} {S : Ast} {nm : Nm} {μ' : Mm} (hW : WF S) (hD : DI d S μ) (hi : (aN S)[i]? = some nm) (f : Fr (nS (nA d i)) μ μ') (h : NmC μ' (nA d i) (aS S nm.1) (aB S) (aL S) nm) : DI d S μ' := by
  obtain ⟨h1, h2, h3, h4, h5, h6, h7, h8, h9, h10, h11, h12⟩ := hD
  have hil := (List.getElem?_eq_some_iff.mp hi).1
  have n30 := hW.2.2.2.1.1
  have nr : ∀ q, q < d + 355 → ¬ nS (nA d i) q := fun q a => by unfold nS nA; omega
  have fd := (f.2.2.2.2.2 d (nr d (by omega))).1
  refine ⟨h1.fx f.fx (fun g _ => by rw [f.2.2.2.1]) (nr _ (by omega)), h2.fx f.fx (nr _ (by omega)) (nr _ (by omega)), h3.fx f.fx (nr _ (by omega)), h4.fx f.fx (fun q a b => nr _ (by omega)), h5.fr f, h6.fx f.fx (fun q a b => nr _ (by omega)), h7.fx f.fx (fun q a b => nr _ (by omega)), h8.fr f, h9.fx f.fx (by rw [f.2.2.2.1]) (nr _ (by omega)) (fun q a => nr _ (by omega)), ⟨by rw [fd]; exact h10.1, fun j hj => (h10.2.1 j hj).fr f, fun j nm' hj => ?_⟩, h11.fx f.fx (by rw [fd]) (fun q a b => nr _ (by omega)), h12.fx f.fx (by rw [fd]) (nr _ (by omega))⟩
  by_cases e : j = i
  · subst e
    rw [hi] at hj
    cases hj
    exact h
  · exact (h10.2.2 j nm' hj).fx (hW.2.2.2.1.2 nm' (List.mem_of_getElem? hj)).2.2.1 f.fx (fun q hq => by unfold nS nA at hq ⊢; omega)
theorem NmC.put {a : Nat} {o : Option Shp} {es : List Ent} {tb : Nat → List Nat} {nm : Nm} {μ' : Mm} (h : NmC μ a o es tb nm) (h8 : nm.2.length ≤ 8) (f : Fr (fun q => q = a ∨ q = a + 4 ∨ q = a + 5) μ μ') (hf : ∀ g, g ≠ 8 → mF μ' a g = mF μ a g) (hp : ∃ b, mF μ' a 8 = bI b ∧ (b = true → Lc μ' (a + 4) (pln tb nm))) : NmC μ' a o es tb nm := by
  obtain ⟨h1, h2, ⟨b, h3, h4⟩, _⟩ := h
  refine ⟨by rw [hf 0 (by decide)]; exact h1, h2.fx h8 f.fx (hf 1 (by decide)) (fun q a b => by omega), ⟨b, by rw [hf 3 (by decide)]; exact h3, fun hb => ?_⟩, hp⟩
  obtain ⟨g1, g2, g3⟩ := h4 hb
  refine ⟨?_, by rw [hf 7 (by decide)]; exact g2, by rw [(f.2.2.2.2.2 (a + 3) (by omega)).2.2.1]; exact g3⟩
  unfold Nk
  rw [hf 4 (by decide), hf 1 (by decide), (f.2.2.2.2.2 (a + 2) (by omega)).2.2.1]
  exact g1
theorem c_putLine {d i : Nat} {S : Ast} {nm : Nm} (hW : WF S) (hD : DI d S μ) (hi : (aN S)[i]? = some nm)
    (k : ∀ μ', Fr (plQ d i) μ μ' → DI d S μ' → Lc μ' (nA d i + 4) (pln (aL S) nm) → K (some (.ref (nA d i + 4))) μ') : Cl E M_X9_putLine [.ref d, .ref (nA d i)] μ K := by
  have hil := (List.getElem?_eq_some_iff.mp hi).1
  have n30 := hW.2.2.2.1.1
  have hwf := hW.2.2.2.1.2 nm (List.mem_of_getElem? hi)
  have hN := hD.2.2.2.2.2.2.2.2.2.1
  have hNc := hN.2.2 i nm hi
  have hNg := hN.2.1 i (by omega)
  have haR := nA_R (d := d) (i := i) (by omega)
  obtain ⟨⟨gk, p0, p1, p2, p4, p5, p6, p8, p10, p12, px⟩, _, g3⟩ := id hD.1
  have hTb := hD.2.2.2.2.2.2.1
  have tk := hTb.1.1
  have key : ∀ μ', Fr (plQ d i) μ μ' → NmC μ' (nA d i) (aS S nm.1) (aB S) (aL S) nm → DI d S μ' := fun μ' f h => hD.nm hW hi (f.mono (fun q a => by unfold plQ at a; unfold nS; omega)) h
  unfold plQ at k key
  obtain ⟨a, ha⟩ : ∃ a, a = nA d i := ⟨_, rfl⟩
  rw [← ha] at hNc hNg haR k key ⊢
  have nk := hNg.1.1
  have a9 := hNg.1.2.2.2.2.1
  have lk := hNg.2.1.1
  obtain ⟨b, hb, hbc⟩ := id hNc.2.2.2
  refine Cl.of0 1 pn_X9 (Nat.le_of_ble_eq_true rfl) ⟨rfl, rfl⟩ rfl ?_
  refine e_al1 1 rfl dX9_putLine_0 ?_
  first | refine e_getIv 4 rfl dX9_putLine_1 f_X9_153 (by assumption) (by first | assumption | (simp only [mN_sF, mK_sF, mL_sF, mF_sF, mB_sF, mA_sF, mJ_sF, mP_sF, mO_sF, mN_sB, mK_sB, mL_sB, mF_sB, mB_sB, mA_sB, mJ_sB, mP_sB, mO_sB, mN_sA, mK_sA, mL_sA, mF_sA, mB_sA, mA_sA, mJ_sA, mP_sA, mO_sA, mN_sJ, mK_sJ, mL_sJ, mF_sJ, mB_sJ, mA_sJ, mJ_sJ, mP_sJ, mO_sJ, mN_sP, mK_sP, mL_sP, mF_sP, mB_sP, mA_sP, mJ_sP, mP_sP, mO_sP, mN_sO, mK_sO, mL_sO, mF_sO, mB_sO, mA_sO, mJ_sO, mP_sO, mO_sO, up2, if_true, if_false, eq_self, ite_true, ite_false, reduceIte, Nat.add_left_cancel_iff, Nat.add_eq_left, Nat.left_eq_add, Nat.reduceEqDiff]; assumption) | (simp only [mN_sF, mK_sF, mL_sF, mF_sF, mB_sF, mA_sF, mJ_sF, mP_sF, mO_sF, mN_sB, mK_sB, mL_sB, mF_sB, mB_sB, mA_sB, mJ_sB, mP_sB, mO_sB, mN_sA, mK_sA, mL_sA, mF_sA, mB_sA, mA_sA, mJ_sA, mP_sA, mO_sA, mN_sJ, mK_sJ, mL_sJ, mF_sJ, mB_sJ, mA_sJ, mJ_sJ, mP_sJ, mO_sJ, mN_sP, mK_sP, mL_sP, mF_sP, mB_sP, mA_sP, mJ_sP, mP_sP, mO_sP, mN_sO, mK_sO, mL_sO, mF_sO, mB_sO, mA_sO, mJ_sO, mP_sO, mO_sO, up2, if_true, if_false, eq_self, ite_true, ite_false, reduceIte, Nat.add_left_cancel_iff, Nat.add_eq_left, Nat.left_eq_add, Nat.reduceEqDiff]; done)) ?_ | refine e_getI 4 rfl dX9_putLine_1 f_X9_153 (by assumption) ?_
  first | refine e_if_neB 54 7 (by decide) rfl dX9_putLine_4 rfl (fun y1 => ?_) (fun y1 => ?_) | refine e_if_neN 54 7 (by decide) rfl dX9_putLine_4 rfl (by omega) (fun y1 => ?_) (fun y1 => ?_) | refine e_if_ne 54 7 (by decide) rfl dX9_putLine_4 (fun y1 => ?_) (fun y1 => ?_)
  · refine e_al1 55 rfl dX9_putLine_54 ?_
    refine e_getR 58 rfl dX9_putLine_55 f_X9_303 (by assumption) (by assumption) ?_
    refine e_aret dX9_putLine_58 rfl ?_
    exact k μ Fr.rf hD (hbc y1)
  refine e_al1 8 rfl dX9_putLine_7 ?_
  refine e_getR 11 rfl dX9_putLine_8 f_X9_303 (by assumption) (by assumption) ?_
  refine e_iconst (nI 0) 12 rfl dX9_putLine_11 ic_0 ?_
  refine e_putI 15 rfl dX9_putLine_12 f_X9_198 (by assumption) ?_
  refine e_iconst (nI 0) 16 rfl dX9_putLine_15 ic_0 ?_
  refine e_is2 17 rfl dX9_putLine_16 (by decide) rfl ?_
  have hNf := hNc.2.1.nf hwf
  have hok := fsN_ok hwf
  have hw8 := hwf.2.2.1
  have hpl : ∀ w ∈ (fsN nm).map (putL (aL S)), w.length ≤ 60 := fun w hw => by
    obtain ⟨v, hv, e⟩ := List.mem_map.mp hw
    have h1 := hok v hv
    have := putL_len (tb := aL S) (w := v) (fun c hc => (hW.2.2.2.2 (c - 97) (by have := h1.2 c hc; omega)).1)
    rw [← e]; omega
  have loop : ∀ (fu w : Nat), w + fu = nm.2.length → ∀ μ1, Fr (s2 (a + 4)) μ μ1 → Lc μ1 (a + 4) (jn ((fsN nm).map (putL (aL S))) w) → Ev E M_X9_putLine 0 0 17 [some (.ref d), some (.ref a), some (.int (nI w))] [] μ1 K := by
    intro fu
    induction fu with
    | zero =>
      intro w hw μ1 hF1 hL1
      have nk1 : mK μ1 a = 3 := by rw [hF1.2.1]; exact nk
      have fa := (hF1.2.2.2.2.2 a (by unfold s2; omega)).1
      have a11 : mF μ1 a 1 = nI nm.2.length := by rw [fa]; exact hNc.2.1.1
      have nk2 : mK (sF μ1 a 8 (nI 1)) a = 3 := nk1
      have a92 : mP (sF μ1 a 8 (nI 1)) a 9 = some (a + 4) := by show mP μ1 a 9 = _; rw [hF1.2.2.2.1]; exact a9
      refine e_il2 18 rfl dX9_putLine_17 ?_
      refine e_al1 19 rfl dX9_putLine_18 ?_
      first | refine e_getIv 22 rfl dX9_putLine_19 f_X9_180 (by assumption) (by first | assumption | (simp only [mN_sF, mK_sF, mL_sF, mF_sF, mB_sF, mA_sF, mJ_sF, mP_sF, mO_sF, mN_sB, mK_sB, mL_sB, mF_sB, mB_sB, mA_sB, mJ_sB, mP_sB, mO_sB, mN_sA, mK_sA, mL_sA, mF_sA, mB_sA, mA_sA, mJ_sA, mP_sA, mO_sA, mN_sJ, mK_sJ, mL_sJ, mF_sJ, mB_sJ, mA_sJ, mJ_sJ, mP_sJ, mO_sJ, mN_sP, mK_sP, mL_sP, mF_sP, mB_sP, mA_sP, mJ_sP, mP_sP, mO_sP, mN_sO, mK_sO, mL_sO, mF_sO, mB_sO, mA_sO, mJ_sO, mP_sO, mO_sO, up2, if_true, if_false, eq_self, ite_true, ite_false, reduceIte, Nat.add_left_cancel_iff, Nat.add_eq_left, Nat.left_eq_add, Nat.reduceEqDiff]; assumption) | (simp only [mN_sF, mK_sF, mL_sF, mF_sF, mB_sF, mA_sF, mJ_sF, mP_sF, mO_sF, mN_sB, mK_sB, mL_sB, mF_sB, mB_sB, mA_sB, mJ_sB, mP_sB, mO_sB, mN_sA, mK_sA, mL_sA, mF_sA, mB_sA, mA_sA, mJ_sA, mP_sA, mO_sA, mN_sJ, mK_sJ, mL_sJ, mF_sJ, mB_sJ, mA_sJ, mJ_sJ, mP_sJ, mO_sJ, mN_sP, mK_sP, mL_sP, mF_sP, mB_sP, mA_sP, mJ_sP, mP_sP, mO_sP, mN_sO, mK_sO, mL_sO, mF_sO, mB_sO, mA_sO, mJ_sO, mP_sO, mO_sO, up2, if_true, if_false, eq_self, ite_true, ite_false, reduceIte, Nat.add_left_cancel_iff, Nat.add_eq_left, Nat.left_eq_add, Nat.reduceEqDiff]; done)) ?_ | refine e_getI 22 rfl dX9_putLine_19 f_X9_180 (by assumption) ?_
      first | refine e_cmp_geN 49 25 (by decide) rfl dX9_putLine_22 rfl rfl (by omega) (by omega) (fun y2 => ?_) (fun y2 => ?_) | refine e_cmp_ge 49 25 (by decide) rfl dX9_putLine_22 (fun y2 => ?_) (fun y2 => ?_)
      rotate_left
      · omega
      refine e_al1 50 rfl dX9_putLine_49 ?_
      refine e_iconst (nI 1) 51 rfl dX9_putLine_50 ic_1 ?_
      refine e_putZ 54 rfl dX9_putLine_51 f_X9_153 (by assumption) (by first | exact z0 | exact z1 | exact bI01 _ | assumption) ?_
      refine e_al1 55 rfl dX9_putLine_54 ?_
      refine e_getR 58 rfl dX9_putLine_55 f_X9_303 (by assumption) (by assumption) ?_
      refine e_aret dX9_putLine_58 rfl ?_
      have ew : w = nm.2.length := by omega
      subst ew
      have hF2 : Fr (fun q => q = a ∨ q = a + 4 ∨ q = a + 5) μ (sF μ1 a 8 (nI 1)) := (hF1.mono (S' := fun q => q = a ∨ q = a + 4 ∨ q = a + 5) (fun q h => by unfold s2 at h; omega)).sF (Or.inl rfl) _ _
      have hL2 : Lc (sF μ1 a 8 (nI 1)) (a + 4) (pln (aL S) nm) := hL1.fr ((Fr.rf (S := fun q => q = a)).sF rfl 8 (nI 1)) (by omega) (by omega)
      exact k _ hF2 (key _ hF2 (hNc.put hw8 hF2 (fun g hg => by show up2 _ a 8 _ a g = _; rw [up2_k hg, fa]) ⟨true, by simp only [mN_sF, mK_sF, mL_sF, mF_sF, mB_sF, mA_sF, mJ_sF, mP_sF, mO_sF, mN_sB, mK_sB, mL_sB, mF_sB, mB_sB, mA_sB, mJ_sB, mP_sB, mO_sB, mN_sA, mK_sA, mL_sA, mF_sA, mB_sA, mA_sA, mJ_sA, mP_sA, mO_sA, mN_sJ, mK_sJ, mL_sJ, mF_sJ, mB_sJ, mA_sJ, mJ_sJ, mP_sJ, mO_sJ, mN_sP, mK_sP, mL_sP, mF_sP, mB_sP, mA_sP, mJ_sP, mP_sP, mO_sP, mN_sO, mK_sO, mL_sO, mF_sO, mB_sO, mA_sO, mJ_sO, mP_sO, mO_sO, up2, if_true, if_false, eq_self, ite_true, ite_false, reduceIte, Nat.add_left_cancel_iff, Nat.add_eq_left, Nat.left_eq_add, Nat.reduceEqDiff]; rfl, fun _ => hL2⟩)) hL2
    | succ fu ih =>
      intro w hw μ1 hF1 hL1
      have nk1 : mK μ1 a = 3 := by rw [hF1.2.1]; exact nk
      have fa := (hF1.2.2.2.2.2 a (by unfold s2; omega)).1
      have a11 : mF μ1 a 1 = nI nm.2.length := by rw [fa]; exact hNc.2.1.1
      have gk1 : mK μ1 d = 10 := by rw [hF1.2.1]; exact gk
      have p121 : mP μ1 d 12 = some (d + 295) := by rw [hF1.2.2.2.1]; exact p12
      have hNg1 := hNg.fr hF1
      obtain ⟨⟨_, a21, a51, a61, a91, ka1, la1, _⟩, hLn1, hws1⟩ := id hNg1
      have ow := (hws1 w (by omega)).1
      have wk := (hws1 w (by omega)).2.1
      have tk1 : mK μ1 (d + 295) = 7 := by rw [hF1.2.1]; exact tk
      have hfw : (fsN nm)[w]? = some ((fsN nm)[w]'(by rw [fsN_len]; omega)) := List.getElem?_eq_getElem _
      have hwl : Wl μ1 (a + 6 + 3 * w) ((fsN nm)[w]'(by rw [fsN_len]; omega)) := (hNf.2.2 w _ hfw).fr hF1 (by unfold s2; omega) (by unfold s2; omega)
      have hwo := hok _ (List.getElem_mem (show w < (fsN nm).length by rw [fsN_len]; omega))
      refine e_il2 18 rfl dX9_putLine_17 ?_
      refine e_al1 19 rfl dX9_putLine_18 ?_
      first | refine e_getIv 22 rfl dX9_putLine_19 f_X9_180 (by assumption) (by first | assumption | (simp only [mN_sF, mK_sF, mL_sF, mF_sF, mB_sF, mA_sF, mJ_sF, mP_sF, mO_sF, mN_sB, mK_sB, mL_sB, mF_sB, mB_sB, mA_sB, mJ_sB, mP_sB, mO_sB, mN_sA, mK_sA, mL_sA, mF_sA, mB_sA, mA_sA, mJ_sA, mP_sA, mO_sA, mN_sJ, mK_sJ, mL_sJ, mF_sJ, mB_sJ, mA_sJ, mJ_sJ, mP_sJ, mO_sJ, mN_sP, mK_sP, mL_sP, mF_sP, mB_sP, mA_sP, mJ_sP, mP_sP, mO_sP, mN_sO, mK_sO, mL_sO, mF_sO, mB_sO, mA_sO, mJ_sO, mP_sO, mO_sO, up2, if_true, if_false, eq_self, ite_true, ite_false, reduceIte, Nat.add_left_cancel_iff, Nat.add_eq_left, Nat.left_eq_add, Nat.reduceEqDiff]; assumption) | (simp only [mN_sF, mK_sF, mL_sF, mF_sF, mB_sF, mA_sF, mJ_sF, mP_sF, mO_sF, mN_sB, mK_sB, mL_sB, mF_sB, mB_sB, mA_sB, mJ_sB, mP_sB, mO_sB, mN_sA, mK_sA, mL_sA, mF_sA, mB_sA, mA_sA, mJ_sA, mP_sA, mO_sA, mN_sJ, mK_sJ, mL_sJ, mF_sJ, mB_sJ, mA_sJ, mJ_sJ, mP_sJ, mO_sJ, mN_sP, mK_sP, mL_sP, mF_sP, mB_sP, mA_sP, mJ_sP, mP_sP, mO_sP, mN_sO, mK_sO, mL_sO, mF_sO, mB_sO, mA_sO, mJ_sO, mP_sO, mO_sO, up2, if_true, if_false, eq_self, ite_true, ite_false, reduceIte, Nat.add_left_cancel_iff, Nat.add_eq_left, Nat.left_eq_add, Nat.reduceEqDiff]; done)) ?_ | refine e_getI 22 rfl dX9_putLine_19 f_X9_180 (by assumption) ?_
      first | refine e_cmp_geN 49 25 (by decide) rfl dX9_putLine_22 rfl rfl (by omega) (by omega) (fun y2 => ?_) (fun y2 => ?_) | refine e_cmp_ge 49 25 (by decide) rfl dX9_putLine_22 (fun y2 => ?_) (fun y2 => ?_)
      · omega
      refine e_al0 26 rfl dX9_putLine_25 ?_
      refine e_getR 29 rfl dX9_putLine_26 f_X9_79 (by assumption) (by assumption) ?_
      refine e_al1 30 rfl dX9_putLine_29 ?_
      refine e_getR 33 rfl dX9_putLine_30 f_X9_220 (by assumption) (by assumption) ?_
      refine e_il2 34 rfl dX9_putLine_33 ?_
      refine e_aald 35 rfl dX9_putLine_34 (by assumption) (by decide) (by assumption) (by first | rfl | simp only [pk_mul, nI_add]) (by omega) (by omega) (by assumption) ?_
      refine e_il2 36 rfl dX9_putLine_35 ?_
      refine e_al1 37 rfl dX9_putLine_36 ?_
      refine e_getR 40 rfl dX9_putLine_37 f_X9_303 (by assumption) (by assumption) ?_
      refine e_invV0 [_, _, _] 43 rfl dX9_putLine_40 k_X9_306 mo_X6_putOver rm_X9_putLine_X6_putOver ⟨rfl, rfl⟩ rfl rfl (by assumption) (Nat.le_of_ble_eq_true rfl) ?_
      have hjl := jn_len hpl w
      refine c_putOver (hTb.1.fr hF1) (hTb.2.fr hF1 (by unfold s2; omega) (by unfold s2; omega)) (hws1 w (by omega)).2 hwl hwo.2 hLn1 hL1 (by omega) (by unfold s2; omega) (by unfold s2; omega) (by unfold s2; omega) (by unfold s2; omega) (by omega) (fun μ2 hF2 hL2 => ?_)
      refine e_ii2 (nI (_ + 1)) 46 rfl dX9_putLine_43 (ii1 _) rfl ?_
      refine e_goto 17 (by decide) dX9_putLine_46 ?_
      refine ih (w + 1) (by omega) μ2 (hF1.trans hF2) ?_
      have e : ((fsN nm).map (putL (aL S))).getD w [] = putL (aL S) ((fsN nm)[w]'(by rw [fsN_len]; omega)) := by
        rw [List.getD_eq_getElem?_getD, List.getElem?_map, hfw]; rfl
      rw [jn, e]
      exact hL2
  refine loop nm.2.length 0 (by omega) _ ((Fr.rf (S := s2 (a + 4))).sF ⟨by omega, by omega⟩ 1 (nI 0)) ⟨by simp only [mN_sF, mK_sF, mL_sF, mF_sF, mB_sF, mA_sF, mJ_sF, mP_sF, mO_sF, mN_sB, mK_sB, mL_sB, mF_sB, mB_sB, mA_sB, mJ_sB, mP_sB, mO_sB, mN_sA, mK_sA, mL_sA, mF_sA, mB_sA, mA_sA, mJ_sA, mP_sA, mO_sA, mN_sJ, mK_sJ, mL_sJ, mF_sJ, mB_sJ, mA_sJ, mJ_sJ, mP_sJ, mO_sJ, mN_sP, mK_sP, mL_sP, mF_sP, mB_sP, mA_sP, mJ_sP, mP_sP, mO_sP, mN_sO, mK_sO, mL_sO, mF_sO, mB_sO, mA_sO, mJ_sO, mP_sO, mO_sO, up2, if_true, if_false, eq_self, ite_true, ite_false, reduceIte, Nat.add_left_cancel_iff, Nat.add_eq_left, Nat.left_eq_add, Nat.reduceEqDiff]; rfl, Hd.nil, by simp [jn], by simp [jn]⟩
/-- the line of a name -/
noncomputable def lnW (S : Ast) (nm : Nm) (wh : Nat) : List Nat := if wh = 1 then pln (aL S) nm else if wh = 2 then jn (kyW (aS S nm.1) (aB S) nm) (kyP (aS S nm.1) (aB S) nm).length else jn (caW (aS S nm.1) (aB S) nm) (caP (aS S nm.1) (aB S) nm).length
theorem s2scr {d q : Nat} (h : s2 (d + 298) q) : scr d q := by unfold s2 at h; unfold scr; omega
theorem c_lineOf {d i wh : Nat} {S : Ast} {nm : Nm} (hW : WF S) (hD : DI d S μ) (hi : (aN S)[i]? = some nm) (hwh : wh ≤ 2)
    (k : ∀ μ' r, DF d μ μ' → DI d S μ' → Ln μ' r → Lc μ' r (lnW S nm wh) → K (some (.ref r)) μ') : Cl E M_X9_lineOf [.ref d, .int (nI i), .int (nI wh)] μ K := by
  have hil := (List.getElem?_eq_some_iff.mp hi).1
  have n30 := hW.2.2.2.1.1
  have hwf := hW.2.2.2.1.2 nm (List.mem_of_getElem? hi)
  obtain ⟨⟨gk, p0, p1, p2, p4, p5, p6, p8, p10, p12, p13, p14⟩, ⟨k3, l3, k262, l262, kx⟩, g3⟩ := id hD.1
  have o1 := g3 i (by omega)
  have haR := nA_R (d := d) (i := i) (by omega)
  unfold lnW at k
  refine Cl.of0 4 pn_X9 (Nat.le_of_ble_eq_true rfl) ⟨rfl, rfl⟩ rfl ?_
  refine e_il2 1 rfl dX9_lineOf_0 ?_
  refine e_iconst (nI 1) 2 rfl dX9_lineOf_1 ic_1 ?_
  first | refine e_cmp_neN 16 5 (by decide) rfl dX9_lineOf_2 rfl rfl (by omega) (by omega) (fun y1 => ?_) (fun y1 => ?_) | refine e_cmp_ne 16 5 (by decide) rfl dX9_lineOf_2 (fun y1 => ?_) (fun y1 => ?_)
  rotate_left
  · rw [if_pos y1] at k
    refine e_al0 6 rfl dX9_lineOf_5 ?_
    refine e_al0 7 rfl dX9_lineOf_6 ?_
    refine e_getR 10 rfl dX9_lineOf_7 f_X9_50 (by assumption) (by assumption) ?_
    refine e_il1 11 rfl dX9_lineOf_10 ?_
    refine e_aald 12 rfl dX9_lineOf_11 (by assumption) (by decide) (by assumption) (by first | rfl | simp only [pk_mul, nI_add]) (by omega) (by omega) (by assumption) ?_
    refine e_invV0 [_] 15 rfl dX9_lineOf_12 k_X9_232 mo_X9_putLine rm_X9_lineOf_X9_putLine ⟨rfl, rfl⟩ rfl rfl (by assumption) (Nat.le_of_ble_eq_true rfl) ?_
    refine c_putLine hW hD hi (fun μ1 hF1 hD1 hL1 => ?_)
    refine e_aret dX9_lineOf_15 rfl ?_
    exact k μ1 _ (hF1.fx.mono (fun q a => by unfold plQ at a; omega)) hD1 (hD1.2.2.2.2.2.2.2.2.2.1.2.1 i (by omega)).2.1 hL1
  rw [if_neg y1] at k
  refine e_al0 17 rfl dX9_lineOf_16 ?_
  refine e_il1 18 rfl dX9_lineOf_17 ?_
  refine e_invV0 [_] 21 rfl dX9_lineOf_18 k_X9_187 mo_X9_freshName rm_X9_lineOf_X9_freshName ⟨rfl, rfl⟩ rfl rfl (by assumption) (Nat.le_of_ble_eq_true rfl) ?_
  refine c_freshName hW hD hi (fun μ1 hF1 hf1 hP1 hD1 hfr1 => ?_)
  have hX1 : DF d μ μ1 := hF1.mono (fun q h => by unfold fnQ rdQ nA at h; omega)
  have gk1 := hD1.1.1.1
  have p131 := hD1.1.1.2.2.2.2.2.2.2.2.2.2.1
  have lk1 := hD1.2.2.2.2.2.2.2.1.1
  refine e_as3 22 rfl dX9_lineOf_21 (by decide) rfl ?_
  refine e_al0 23 rfl dX9_lineOf_22 ?_
  refine e_getR 26 rfl dX9_lineOf_23 f_X9_86 (by assumption) (by assumption) ?_
  refine e_iconst (nI 0) 27 rfl dX9_lineOf_26 ic_0 ?_
  refine e_putI 30 rfl dX9_lineOf_27 f_X9_198 (by assumption) ?_
  have f12 : Fr (s2 (d + 298)) μ1 (sF μ1 (d + 298) 1 (nI 0)) := (Fr.rf (S := s2 (d + 298))).sF ⟨by omega, by omega⟩ 1 (nI 0)
  have hD2 : DI d S (sF μ1 (d + 298) 1 (nI 0)) := hD1.scrF hW (f12.mono (fun q h => s2scr h))
  have hX2 : DF d μ (sF μ1 (d + 298) 1 (nI 0)) := hX1.trans (f12.fx.mono (fun q h => by unfold s2 at h; omega))
  have hL2 : Lc (sF μ1 (d + 298) 1 (nI 0)) (d + 298) [] := ⟨by simp only [mN_sF, mK_sF, mL_sF, mF_sF, mB_sF, mA_sF, mJ_sF, mP_sF, mO_sF, mN_sB, mK_sB, mL_sB, mF_sB, mB_sB, mA_sB, mJ_sB, mP_sB, mO_sB, mN_sA, mK_sA, mL_sA, mF_sA, mB_sA, mA_sA, mJ_sA, mP_sA, mO_sA, mN_sJ, mK_sJ, mL_sJ, mF_sJ, mB_sJ, mA_sJ, mJ_sJ, mP_sJ, mO_sJ, mN_sP, mK_sP, mL_sP, mF_sP, mB_sP, mA_sP, mJ_sP, mP_sP, mO_sP, mN_sO, mK_sO, mL_sO, mF_sO, mB_sO, mA_sO, mJ_sO, mP_sO, mO_sO, up2, if_true, if_false, eq_self, ite_true, ite_false, reduceIte, Nat.add_left_cancel_iff, Nat.add_eq_left, Nat.left_eq_add, Nat.reduceEqDiff]; rfl, Hd.nil, by simp, by simp⟩
  have hfr2 : mF (sF μ1 (d + 298) 1 (nI 0)) (nA d i) 3 = nI 1 := by show up2 _ (d + 298) 1 _ (nA d i) 3 = _; rw [up2_a (by omega)]; exact hfr1
  generalize sF μ1 (d + 298) 1 (nI 0) = μ2 at hD2 hX2 hL2 hfr2 ⊢
  obtain ⟨ng2, rd2, ky2⟩ := hD2.ky hW hi hfr2
  have hNk2 := (hD2.fresh hi hfr2).1
  have hNc2 := hD2.2.2.2.2.2.2.2.2.2.1.2.2 i nm hi
  have hSM2 := hD2.2.2.2.2.2.2.2.2.1
  obtain ⟨⟨gk2, _, p12', _, _, _, _, _, _, _, p132, p142⟩, ⟨k32, l32, _, _, _, _, k300, l300⟩, _⟩ := id hD2.1
  obtain ⟨a, ha⟩ : ∃ a, a = nA d i := ⟨_, rfl⟩
  rw [← ha] at ng2 rd2 ky2 hNk2 hNc2 haR hfr2 ⊢
  have nk2 := ng2.1.1
  have hok := fsN_ok hwf
  have hw8 := hwf.2.2.1
  refine e_il2 31 rfl dX9_lineOf_30 ?_
  refine e_iconst (nI 2) 32 rfl dX9_lineOf_31 ic_2 ?_
  first | refine e_cmp_neN 97 35 (by decide) rfl dX9_lineOf_32 rfl rfl (by omega) (by omega) (fun y2 => ?_) (fun y2 => ?_) | refine e_cmp_ne 97 35 (by decide) rfl dX9_lineOf_32 (fun y2 => ?_) (fun y2 => ?_)
  rotate_left
  · rw [if_pos y2] at k
    refine e_iconst (nI 0) 36 rfl dX9_lineOf_35 ic_0 ?_
    refine e_is4 38 rfl dX9_lineOf_36 (by decide) rfl ?_
    have hkw : ∀ w ∈ kyW (aS S nm.1) (aB S) nm, w.length ≤ 20 ∧ ∀ c ∈ w, c < 128 := fun w hw => by
      obtain ⟨p, hp, e⟩ := List.mem_map.mp hw
      have hpl := chL_lt hp
      rw [rdK_len] at hpl
      rw [← e, List.getD_eq_getElem?_getD, List.getElem?_eq_getElem (by rw [fsN_len]; exact hpl)]
      have := hok _ (List.getElem_mem (show p < (fsN nm).length by rw [fsN_len]; exact hpl))
      exact ⟨this.1.2, fun c hc => by have := this.2 c hc; omega⟩
    have hkl : (kyW (aS S nm.1) (aB S) nm).length = (kyP (aS S nm.1) (aB S) nm).length := by unfold kyW; simp
    have loop : ∀ (fu j : Nat), j + fu = (kyP (aS S nm.1) (aB S) nm).length → ∀ μ3, Fr (s2 (d + 298)) μ2 μ3 → Lc μ3 (d + 298) (jn (kyW (aS S nm.1) (aB S) nm) j) → Ev E M_X9_lineOf 0 0 38 [some (.ref d), some (.int (nI i)), some (.int (nI wh)), some (.ref a), some (.int (nI j)), none, none] [] μ3 K := by
      intro fu
      induction fu with
      | zero =>
        intro j hj μ3 hF3 hL3
        have nk3 : mK μ3 a = 3 := by rw [hF3.2.1]; exact nk2
        have fa := (hF3.2.2.2.2.2 a (by unfold s2; omega)).1
        have a73 : mF μ3 a 7 = nI (kyP (aS S nm.1) (aB S) nm).length := by rw [fa]; exact ky2.1
        have gk3 : mK μ3 d = 10 := by rw [hF3.2.1]; exact gk2
        have p133 : mP μ3 d 13 = some (d + 298) := by rw [hF3.2.2.2.1]; exact p132
        have hl8 := ky2.2.1
        refine e_il4 40 rfl dX9_lineOf_38 ?_
        refine e_al3 41 rfl dX9_lineOf_40 ?_
        first | refine e_getIv 44 rfl dX9_lineOf_41 f_X9_191 (by assumption) (by first | assumption | (simp only [mN_sF, mK_sF, mL_sF, mF_sF, mB_sF, mA_sF, mJ_sF, mP_sF, mO_sF, mN_sB, mK_sB, mL_sB, mF_sB, mB_sB, mA_sB, mJ_sB, mP_sB, mO_sB, mN_sA, mK_sA, mL_sA, mF_sA, mB_sA, mA_sA, mJ_sA, mP_sA, mO_sA, mN_sJ, mK_sJ, mL_sJ, mF_sJ, mB_sJ, mA_sJ, mJ_sJ, mP_sJ, mO_sJ, mN_sP, mK_sP, mL_sP, mF_sP, mB_sP, mA_sP, mJ_sP, mP_sP, mO_sP, mN_sO, mK_sO, mL_sO, mF_sO, mB_sO, mA_sO, mJ_sO, mP_sO, mO_sO, up2, if_true, if_false, eq_self, ite_true, ite_false, reduceIte, Nat.add_left_cancel_iff, Nat.add_eq_left, Nat.left_eq_add, Nat.reduceEqDiff]; assumption) | (simp only [mN_sF, mK_sF, mL_sF, mF_sF, mB_sF, mA_sF, mJ_sF, mP_sF, mO_sF, mN_sB, mK_sB, mL_sB, mF_sB, mB_sB, mA_sB, mJ_sB, mP_sB, mO_sB, mN_sA, mK_sA, mL_sA, mF_sA, mB_sA, mA_sA, mJ_sA, mP_sA, mO_sA, mN_sJ, mK_sJ, mL_sJ, mF_sJ, mB_sJ, mA_sJ, mJ_sJ, mP_sJ, mO_sJ, mN_sP, mK_sP, mL_sP, mF_sP, mB_sP, mA_sP, mJ_sP, mP_sP, mO_sP, mN_sO, mK_sO, mL_sO, mF_sO, mB_sO, mA_sO, mJ_sO, mP_sO, mO_sO, up2, if_true, if_false, eq_self, ite_true, ite_false, reduceIte, Nat.add_left_cancel_iff, Nat.add_eq_left, Nat.left_eq_add, Nat.reduceEqDiff]; done)) ?_ | refine e_getI 44 rfl dX9_lineOf_41 f_X9_191 (by assumption) ?_
        first | refine e_cmp_geN 92 47 (by decide) rfl dX9_lineOf_44 rfl rfl (by omega) (by omega) (fun y3 => ?_) (fun y3 => ?_) | refine e_cmp_ge 92 47 (by decide) rfl dX9_lineOf_44 (fun y3 => ?_) (fun y3 => ?_)
        rotate_left
        · omega
        refine e_al0 93 rfl dX9_lineOf_92 ?_
        refine e_getR 96 rfl dX9_lineOf_93 f_X9_86 (by assumption) (by assumption) ?_
        refine e_aret dX9_lineOf_96 rfl ?_
        have ej : j = (kyP (aS S nm.1) (aB S) nm).length := by omega
        subst ej
        have hD3 := hD2.scrF hW (hF3.mono (fun q h => s2scr h))
        exact k μ3 _ (hX2.trans (hF3.fx.mono (fun q h => by unfold s2 at h; omega))) hD3 hD3.2.2.2.2.2.2.2.1 hL3
      | succ fu ih =>
        intro j hj μ3 hF3 hL3
        have nk3 : mK μ3 a = 3 := by rw [hF3.2.1]; exact nk2
        have fa := (hF3.2.2.2.2.2 a (by unfold s2; omega)).1
        have a73 : mF μ3 a 7 = nI (kyP (aS S nm.1) (aB S) nm).length := by rw [fa]; exact ky2.1
        have gk3 : mK μ3 d = 10 := by rw [hF3.2.1]; exact gk2
        have p133 : mP μ3 d 13 = some (d + 298) := by rw [hF3.2.2.2.1]; exact p132
        have hl8 := ky2.2.1
        have hjl : j < (kyP (aS S nm.1) (aB S) nm).length := by omega
        obtain ⟨⟨_, a23, a53, a63, a93, ka1, la1, ka2, la2, ka3, la3⟩, hLn3, hws3⟩ := ng2.fr hF3
        have hv : mA μ3 (a + 3) j = nI (kyP (aS S nm.1) (aB S) nm)[j] := by rw [(hF3.2.2.2.2.2 (a + 3) (by unfold s2; omega)).2.2.1]; exact ky2.2.2.1.at hjl
        obtain ⟨hp8, hpw⟩ := ky2.2.2.2.2 j hjl
        have hwl := (hpw (by omega)).fr hF3 (by unfold s2; omega) (by unfold s2; omega)
        obtain ⟨p, hp⟩ : ∃ p, p = (kyP (aS S nm.1) (aB S) nm)[j] := ⟨_, rfl⟩
        rw [← hp] at hv hp8 hwl
        have ow := (hws3 p hp8).1
        have hWd := (hws3 p hp8).2
        have wk := hWd.1
        have w3 := hwl.1
        obtain ⟨_, wp0, wp2, wk1, wl1, wk2, wl2⟩ := id hWd
        have lk3 : mK μ3 (d + 298) = 2 := by rw [hF3.2.1]; exact hD2.2.2.2.2.2.2.2.1.1
        have hw20 := hkw _ (List.getElem_mem (show j < (kyW (aS S nm.1) (aB S) nm).length by omega))
        refine e_il4 40 rfl dX9_lineOf_38 ?_
        refine e_al3 41 rfl dX9_lineOf_40 ?_
        first | refine e_getIv 44 rfl dX9_lineOf_41 f_X9_191 (by assumption) (by first | assumption | (simp only [mN_sF, mK_sF, mL_sF, mF_sF, mB_sF, mA_sF, mJ_sF, mP_sF, mO_sF, mN_sB, mK_sB, mL_sB, mF_sB, mB_sB, mA_sB, mJ_sB, mP_sB, mO_sB, mN_sA, mK_sA, mL_sA, mF_sA, mB_sA, mA_sA, mJ_sA, mP_sA, mO_sA, mN_sJ, mK_sJ, mL_sJ, mF_sJ, mB_sJ, mA_sJ, mJ_sJ, mP_sJ, mO_sJ, mN_sP, mK_sP, mL_sP, mF_sP, mB_sP, mA_sP, mJ_sP, mP_sP, mO_sP, mN_sO, mK_sO, mL_sO, mF_sO, mB_sO, mA_sO, mJ_sO, mP_sO, mO_sO, up2, if_true, if_false, eq_self, ite_true, ite_false, reduceIte, Nat.add_left_cancel_iff, Nat.add_eq_left, Nat.left_eq_add, Nat.reduceEqDiff]; assumption) | (simp only [mN_sF, mK_sF, mL_sF, mF_sF, mB_sF, mA_sF, mJ_sF, mP_sF, mO_sF, mN_sB, mK_sB, mL_sB, mF_sB, mB_sB, mA_sB, mJ_sB, mP_sB, mO_sB, mN_sA, mK_sA, mL_sA, mF_sA, mB_sA, mA_sA, mJ_sA, mP_sA, mO_sA, mN_sJ, mK_sJ, mL_sJ, mF_sJ, mB_sJ, mA_sJ, mJ_sJ, mP_sJ, mO_sJ, mN_sP, mK_sP, mL_sP, mF_sP, mB_sP, mA_sP, mJ_sP, mP_sP, mO_sP, mN_sO, mK_sO, mL_sO, mF_sO, mB_sO, mA_sO, mJ_sO, mP_sO, mO_sO, up2, if_true, if_false, eq_self, ite_true, ite_false, reduceIte, Nat.add_left_cancel_iff, Nat.add_eq_left, Nat.left_eq_add, Nat.reduceEqDiff]; done)) ?_ | refine e_getI 44 rfl dX9_lineOf_41 f_X9_191 (by assumption) ?_
        first | refine e_cmp_geN 92 47 (by decide) rfl dX9_lineOf_44 rfl rfl (by omega) (by omega) (fun y3 => ?_) (fun y3 => ?_) | refine e_cmp_ge 92 47 (by decide) rfl dX9_lineOf_44 (fun y3 => ?_) (fun y3 => ?_)
        · omega
        refine e_al0 48 rfl dX9_lineOf_47 ?_
        refine e_getR 51 rfl dX9_lineOf_48 f_X9_86 (by assumption) (by assumption) ?_
        refine e_al3 52 rfl dX9_lineOf_51 ?_
        refine e_getR 55 rfl dX9_lineOf_52 f_X9_220 (by assumption) (by assumption) ?_
        refine e_al3 56 rfl dX9_lineOf_55 ?_
        refine e_getR 59 rfl dX9_lineOf_56 f_X9_271 (by assumption) (by assumption) ?_
        refine e_il4 61 rfl dX9_lineOf_59 ?_
        first | refine e_ialdv 62 rfl dX9_lineOf_61 (by assumption) (by assumption) (by first | rfl | simp only [pk_mul, nI_add]) (by omega) (by omega) (by first | assumption | (simp only [mN_sF, mK_sF, mL_sF, mF_sF, mB_sF, mA_sF, mJ_sF, mP_sF, mO_sF, mN_sB, mK_sB, mL_sB, mF_sB, mB_sB, mA_sB, mJ_sB, mP_sB, mO_sB, mN_sA, mK_sA, mL_sA, mF_sA, mB_sA, mA_sA, mJ_sA, mP_sA, mO_sA, mN_sJ, mK_sJ, mL_sJ, mF_sJ, mB_sJ, mA_sJ, mJ_sJ, mP_sJ, mO_sJ, mN_sP, mK_sP, mL_sP, mF_sP, mB_sP, mA_sP, mJ_sP, mP_sP, mO_sP, mN_sO, mK_sO, mL_sO, mF_sO, mB_sO, mA_sO, mJ_sO, mP_sO, mO_sO, up2, if_true, if_false, eq_self, ite_true, ite_false, reduceIte, Nat.add_left_cancel_iff, Nat.add_eq_left, Nat.left_eq_add, Nat.reduceEqDiff]; assumption) | (simp only [mN_sF, mK_sF, mL_sF, mF_sF, mB_sF, mA_sF, mJ_sF, mP_sF, mO_sF, mN_sB, mK_sB, mL_sB, mF_sB, mB_sB, mA_sB, mJ_sB, mP_sB, mO_sB, mN_sA, mK_sA, mL_sA, mF_sA, mB_sA, mA_sA, mJ_sA, mP_sA, mO_sA, mN_sJ, mK_sJ, mL_sJ, mF_sJ, mB_sJ, mA_sJ, mJ_sJ, mP_sJ, mO_sJ, mN_sP, mK_sP, mL_sP, mF_sP, mB_sP, mA_sP, mJ_sP, mP_sP, mO_sP, mN_sO, mK_sO, mL_sO, mF_sO, mB_sO, mA_sO, mJ_sO, mP_sO, mO_sO, up2, if_true, if_false, eq_self, ite_true, ite_false, reduceIte, Nat.add_left_cancel_iff, Nat.add_eq_left, Nat.left_eq_add, Nat.reduceEqDiff]; done)) ?_ | refine e_iald 62 rfl dX9_lineOf_61 (by assumption) (by assumption) (by first | rfl | simp only [pk_mul, nI_add]) (by omega) (by omega) ?_
        refine e_aald 63 rfl dX9_lineOf_62 (by assumption) (by decide) (by assumption) (by first | rfl | simp only [pk_mul, nI_add]) (by omega) (by omega) (by assumption) ?_
        refine e_getR 66 rfl dX9_lineOf_63 f_X9_281 (by assumption) (by assumption) ?_
        refine e_al3 67 rfl dX9_lineOf_66 ?_
        refine e_getR 70 rfl dX9_lineOf_67 f_X9_220 (by assumption) (by assumption) ?_
        refine e_al3 71 rfl dX9_lineOf_70 ?_
        refine e_getR 74 rfl dX9_lineOf_71 f_X9_271 (by assumption) (by assumption) ?_
        refine e_il4 76 rfl dX9_lineOf_74 ?_
        first | refine e_ialdv 77 rfl dX9_lineOf_76 (by assumption) (by assumption) (by first | rfl | simp only [pk_mul, nI_add]) (by omega) (by omega) (by first | assumption | (simp only [mN_sF, mK_sF, mL_sF, mF_sF, mB_sF, mA_sF, mJ_sF, mP_sF, mO_sF, mN_sB, mK_sB, mL_sB, mF_sB, mB_sB, mA_sB, mJ_sB, mP_sB, mO_sB, mN_sA, mK_sA, mL_sA, mF_sA, mB_sA, mA_sA, mJ_sA, mP_sA, mO_sA, mN_sJ, mK_sJ, mL_sJ, mF_sJ, mB_sJ, mA_sJ, mJ_sJ, mP_sJ, mO_sJ, mN_sP, mK_sP, mL_sP, mF_sP, mB_sP, mA_sP, mJ_sP, mP_sP, mO_sP, mN_sO, mK_sO, mL_sO, mF_sO, mB_sO, mA_sO, mJ_sO, mP_sO, mO_sO, up2, if_true, if_false, eq_self, ite_true, ite_false, reduceIte, Nat.add_left_cancel_iff, Nat.add_eq_left, Nat.left_eq_add, Nat.reduceEqDiff]; assumption) | (simp only [mN_sF, mK_sF, mL_sF, mF_sF, mB_sF, mA_sF, mJ_sF, mP_sF, mO_sF, mN_sB, mK_sB, mL_sB, mF_sB, mB_sB, mA_sB, mJ_sB, mP_sB, mO_sB, mN_sA, mK_sA, mL_sA, mF_sA, mB_sA, mA_sA, mJ_sA, mP_sA, mO_sA, mN_sJ, mK_sJ, mL_sJ, mF_sJ, mB_sJ, mA_sJ, mJ_sJ, mP_sJ, mO_sJ, mN_sP, mK_sP, mL_sP, mF_sP, mB_sP, mA_sP, mJ_sP, mP_sP, mO_sP, mN_sO, mK_sO, mL_sO, mF_sO, mB_sO, mA_sO, mJ_sO, mP_sO, mO_sO, up2, if_true, if_false, eq_self, ite_true, ite_false, reduceIte, Nat.add_left_cancel_iff, Nat.add_eq_left, Nat.left_eq_add, Nat.reduceEqDiff]; done)) ?_ | refine e_iald 77 rfl dX9_lineOf_76 (by assumption) (by assumption) (by first | rfl | simp only [pk_mul, nI_add]) (by omega) (by omega) ?_
        refine e_aald 78 rfl dX9_lineOf_77 (by assumption) (by decide) (by assumption) (by first | rfl | simp only [pk_mul, nI_add]) (by omega) (by omega) (by assumption) ?_
        first | refine e_getIv 81 rfl dX9_lineOf_78 f_X9_284 (by assumption) (by first | assumption | (simp only [mN_sF, mK_sF, mL_sF, mF_sF, mB_sF, mA_sF, mJ_sF, mP_sF, mO_sF, mN_sB, mK_sB, mL_sB, mF_sB, mB_sB, mA_sB, mJ_sB, mP_sB, mO_sB, mN_sA, mK_sA, mL_sA, mF_sA, mB_sA, mA_sA, mJ_sA, mP_sA, mO_sA, mN_sJ, mK_sJ, mL_sJ, mF_sJ, mB_sJ, mA_sJ, mJ_sJ, mP_sJ, mO_sJ, mN_sP, mK_sP, mL_sP, mF_sP, mB_sP, mA_sP, mJ_sP, mP_sP, mO_sP, mN_sO, mK_sO, mL_sO, mF_sO, mB_sO, mA_sO, mJ_sO, mP_sO, mO_sO, up2, if_true, if_false, eq_self, ite_true, ite_false, reduceIte, Nat.add_left_cancel_iff, Nat.add_eq_left, Nat.left_eq_add, Nat.reduceEqDiff]; assumption) | (simp only [mN_sF, mK_sF, mL_sF, mF_sF, mB_sF, mA_sF, mJ_sF, mP_sF, mO_sF, mN_sB, mK_sB, mL_sB, mF_sB, mB_sB, mA_sB, mJ_sB, mP_sB, mO_sB, mN_sA, mK_sA, mL_sA, mF_sA, mB_sA, mA_sA, mJ_sA, mP_sA, mO_sA, mN_sJ, mK_sJ, mL_sJ, mF_sJ, mB_sJ, mA_sJ, mJ_sJ, mP_sJ, mO_sJ, mN_sP, mK_sP, mL_sP, mF_sP, mB_sP, mA_sP, mJ_sP, mP_sP, mO_sP, mN_sO, mK_sO, mL_sO, mF_sO, mB_sO, mA_sO, mJ_sO, mP_sO, mO_sO, up2, if_true, if_false, eq_self, ite_true, ite_false, reduceIte, Nat.add_left_cancel_iff, Nat.add_eq_left, Nat.left_eq_add, Nat.reduceEqDiff]; done)) ?_ | refine e_getI 81 rfl dX9_lineOf_78 f_X9_284 (by assumption) ?_
        refine e_il4 83 rfl dX9_lineOf_81 ?_
        refine e_invV0 [_, _, _] 86 rfl dX9_lineOf_83 k_X9_287 mo_X1_addWord rm_X9_lineOf_X1_addWord ⟨rfl, rfl⟩ rfl rfl (by assumption) (Nat.le_of_ble_eq_true rfl) ?_
        have hjl2 := jn_len (fun w hw => (hkw w hw).1) j
        refine c_addWord (n := 20) (hD2.2.2.2.2.2.2.2.1.fr hF3) hL3 wk2 wl2 (by decide) hwl.2.1 hw20.2 hw20.1 (by unfold s2; omega) (by omega) (by omega) (fun μ4 hF4 hL4 => ?_)
        refine e_ii4 (nI (_ + 1)) 89 rfl dX9_lineOf_86 (ii1 _) rfl ?_
        refine e_goto 38 (by decide) dX9_lineOf_89 ?_
        refine ih (j + 1) (by omega) μ4 (hF3.trans hF4) ?_
        have e : (kyW (aS S nm.1) (aB S) nm).getD j [] = (kyW (aS S nm.1) (aB S) nm)[j]'(by omega) := by rw [List.getD_eq_getElem?_getD, List.getElem?_eq_getElem (by omega)]; rfl
        rw [jn, e]
        exact hL4
    exact loop (kyP (aS S nm.1) (aB S) nm).length 0 (by omega) μ2 Fr.rf hL2
  rw [if_neg y2] at k
  obtain ⟨hSg, π, hπ, hinj, hdr, hsh⟩ := id hSM2
  have hl6 := hwf.1
  have o3 := (hsh nm.1 hl6).1
  have hShM := (hsh nm.1 hl6).2
  have hsR := shA_in (d := d) (hπ nm.1 (by omega))
  obtain ⟨s, hs⟩ : ∃ s, s = shA d (π nm.1) := ⟨_, rfl⟩
  rw [← hs] at o3 hShM hsR
  have sk : mK μ2 s = 5 := hShM.1.1.1.1
  have al := hNc2.1
  have s9 := hShM.1.1.1.2.2.2.2.2.2.2.1
  have s10 := hShM.2.2.1
  refine e_al0 98 rfl dX9_lineOf_97 ?_
  refine e_getR 101 rfl dX9_lineOf_98 f_X9_18 (by assumption) (by assumption) ?_
  refine e_al3 102 rfl dX9_lineOf_101 ?_
  first | refine e_getIv 105 rfl dX9_lineOf_102 f_X9_147 (by assumption) (by first | assumption | (simp only [mN_sF, mK_sF, mL_sF, mF_sF, mB_sF, mA_sF, mJ_sF, mP_sF, mO_sF, mN_sB, mK_sB, mL_sB, mF_sB, mB_sB, mA_sB, mJ_sB, mP_sB, mO_sB, mN_sA, mK_sA, mL_sA, mF_sA, mB_sA, mA_sA, mJ_sA, mP_sA, mO_sA, mN_sJ, mK_sJ, mL_sJ, mF_sJ, mB_sJ, mA_sJ, mJ_sJ, mP_sJ, mO_sJ, mN_sP, mK_sP, mL_sP, mF_sP, mB_sP, mA_sP, mJ_sP, mP_sP, mO_sP, mN_sO, mK_sO, mL_sO, mF_sO, mB_sO, mA_sO, mJ_sO, mP_sO, mO_sO, up2, if_true, if_false, eq_self, ite_true, ite_false, reduceIte, Nat.add_left_cancel_iff, Nat.add_eq_left, Nat.left_eq_add, Nat.reduceEqDiff]; assumption) | (simp only [mN_sF, mK_sF, mL_sF, mF_sF, mB_sF, mA_sF, mJ_sF, mP_sF, mO_sF, mN_sB, mK_sB, mL_sB, mF_sB, mB_sB, mA_sB, mJ_sB, mP_sB, mO_sB, mN_sA, mK_sA, mL_sA, mF_sA, mB_sA, mA_sA, mJ_sA, mP_sA, mO_sA, mN_sJ, mK_sJ, mL_sJ, mF_sJ, mB_sJ, mA_sJ, mJ_sJ, mP_sJ, mO_sJ, mN_sP, mK_sP, mL_sP, mF_sP, mB_sP, mA_sP, mJ_sP, mP_sP, mO_sP, mN_sO, mK_sO, mL_sO, mF_sO, mB_sO, mA_sO, mJ_sO, mP_sO, mO_sO, up2, if_true, if_false, eq_self, ite_true, ite_false, reduceIte, Nat.add_left_cancel_iff, Nat.add_eq_left, Nat.left_eq_add, Nat.reduceEqDiff]; done)) ?_ | refine e_getI 105 rfl dX9_lineOf_102 f_X9_147 (by assumption) ?_
  refine e_aald 106 rfl dX9_lineOf_105 (by assumption) (by decide) (by assumption) (by first | rfl | simp only [pk_mul, nI_add]) (by omega) (by omega) (by assumption) ?_
  refine e_as4 108 rfl dX9_lineOf_106 (by decide) rfl ?_
  refine e_al3 109 rfl dX9_lineOf_108 ?_
  refine e_al4 111 rfl dX9_lineOf_109 ?_
  refine e_getR 114 rfl dX9_lineOf_111 f_X9_291 (by assumption) (by assumption) ?_
  refine e_al4 116 rfl dX9_lineOf_114 ?_
  first | refine e_getIv 119 rfl dX9_lineOf_116 f_X9_294 (by assumption) (by first | assumption | (simp only [mN_sF, mK_sF, mL_sF, mF_sF, mB_sF, mA_sF, mJ_sF, mP_sF, mO_sF, mN_sB, mK_sB, mL_sB, mF_sB, mB_sB, mA_sB, mJ_sB, mP_sB, mO_sB, mN_sA, mK_sA, mL_sA, mF_sA, mB_sA, mA_sA, mJ_sA, mP_sA, mO_sA, mN_sJ, mK_sJ, mL_sJ, mF_sJ, mB_sJ, mA_sJ, mJ_sJ, mP_sJ, mO_sJ, mN_sP, mK_sP, mL_sP, mF_sP, mB_sP, mA_sP, mJ_sP, mP_sP, mO_sP, mN_sO, mK_sO, mL_sO, mF_sO, mB_sO, mA_sO, mJ_sO, mP_sO, mO_sO, up2, if_true, if_false, eq_self, ite_true, ite_false, reduceIte, Nat.add_left_cancel_iff, Nat.add_eq_left, Nat.left_eq_add, Nat.reduceEqDiff]; assumption) | (simp only [mN_sF, mK_sF, mL_sF, mF_sF, mB_sF, mA_sF, mJ_sF, mP_sF, mO_sF, mN_sB, mK_sB, mL_sB, mF_sB, mB_sB, mA_sB, mJ_sB, mP_sB, mO_sB, mN_sA, mK_sA, mL_sA, mF_sA, mB_sA, mA_sA, mJ_sA, mP_sA, mO_sA, mN_sJ, mK_sJ, mL_sJ, mF_sJ, mB_sJ, mA_sJ, mJ_sJ, mP_sJ, mO_sJ, mN_sP, mK_sP, mL_sP, mF_sP, mB_sP, mA_sP, mJ_sP, mP_sP, mO_sP, mN_sO, mK_sO, mL_sO, mF_sO, mB_sO, mA_sO, mJ_sO, mP_sO, mO_sO, up2, if_true, if_false, eq_self, ite_true, ite_false, reduceIte, Nat.add_left_cancel_iff, Nat.add_eq_left, Nat.left_eq_add, Nat.reduceEqDiff]; done)) ?_ | refine e_getI 119 rfl dX9_lineOf_116 f_X9_294 (by assumption) ?_
  refine e_al0 120 rfl dX9_lineOf_119 ?_
  refine e_getR 123 rfl dX9_lineOf_120 f_X9_90 (by assumption) (by assumption) ?_
  refine e_invV0 [_, _, _] 126 rfl dX9_lineOf_123 k_X9_274 mo_X2_choose rm_X9_lineOf_X2_choose ⟨rfl, rfl⟩ rfl rfl (by assumption) (Nat.le_of_ble_eq_true rfl) ?_
  have hca := caO_ok hShM
  refine c_choose (n := 7) ng2 hNk2 hShM.1.1.2.2.2.2.2.2.2.2.2.2.2.2.2.1 hShM.1.1.2.2.2.2.2.2.2.2.2.2.2.2.2.2.1 (by decide) hca.1 hShM.2.2.2.2.1 hca.2.2 k300 l300 (by omega) (by omega) (chL_len hca.2.1 (by rw [rdK_len]; exact hw8)) (fun μ3 hF3 hH3 => ?_)
  have hcl : (caW (aS S nm.1) (aB S) nm).length = (caP (aS S nm.1) (aB S) nm).length := by unfold caW; simp
  have hc8 : (caP (aS S nm.1) (aB S) nm).length ≤ 8 := chL_len hca.2.1 (by rw [rdK_len]; exact hw8)
  have hkw : ∀ w ∈ caW (aS S nm.1) (aB S) nm, w.length ≤ 21 ∧ ∀ c ∈ w, c < 128 := fun w hw => by
    obtain ⟨p, hp, e⟩ := List.mem_map.mp hw
    have hpl := chL_lt hp
    rw [rdK_len] at hpl
    rw [← e, List.getD_eq_getElem?_getD, List.getElem?_eq_getElem hpl]
    have := wordL (hwf.2.2.2 _ (List.getElem_mem hpl))
    exact ⟨this.2.1, this.1⟩
  have f3scr : Fr (scr d) μ2 μ3 := hF3.mono (fun q h => by unfold scr; omega)
  have hcl2 : chL (rdB (aS S nm.1) (aB S) nm) (caO (aS S nm.1)) (rdK (aS S nm.1) (aB S) nm) = caP (aS S nm.1) (aB S) nm := rfl
  rw [hcl2] at hH3 ⊢
  refine e_is5 128 rfl dX9_lineOf_126 (by decide) rfl ?_
  refine e_iconst (nI 0) 129 rfl dX9_lineOf_128 ic_0 ?_
  refine e_is6 131 rfl dX9_lineOf_129 (by decide) rfl ?_
  have loop : ∀ (fu j : Nat), j + fu = (caP (aS S nm.1) (aB S) nm).length → ∀ μ4, Fr (s2 (d + 298)) μ3 μ4 → Lc μ4 (d + 298) (jn (caW (aS S nm.1) (aB S) nm) j) → Ev E M_X9_lineOf 0 0 131 [some (.ref d), some (.int (nI i)), some (.int (nI wh)), some (.ref a), some (.ref s), some (.int (nI (caP (aS S nm.1) (aB S) nm).length)), some (.int (nI j))] [] μ4 K := by
    intro fu
    induction fu with
    | zero =>
      intro j hj μ4 hF4 hL4
      have hF24 := f3scr.trans (hF4.mono (fun q h => s2scr h))
      have gk3 : mK μ4 d = 10 := by rw [hF24.2.1]; exact gk2
      have p133 : mP μ4 d 13 = some (d + 298) := by rw [hF24.2.2.2.1]; exact p132
      refine e_il6 133 rfl dX9_lineOf_131 ?_
      refine e_il5 135 rfl dX9_lineOf_133 ?_
      first | refine e_cmp_geN 183 138 (by decide) rfl dX9_lineOf_135 rfl rfl (by omega) (by omega) (fun y3 => ?_) (fun y3 => ?_) | refine e_cmp_ge 183 138 (by decide) rfl dX9_lineOf_135 (fun y3 => ?_) (fun y3 => ?_)
      rotate_left
      · omega
      refine e_al0 184 rfl dX9_lineOf_183 ?_
      refine e_getR 187 rfl dX9_lineOf_184 f_X9_86 (by assumption) (by assumption) ?_
      refine e_aret dX9_lineOf_187 rfl ?_
      have ej : j = (caP (aS S nm.1) (aB S) nm).length := by omega
      subst ej
      have hD3 := hD2.scrF hW hF24
      exact k μ4 _ (hX2.trans (hF24.fx.mono (fun q h => by unfold scr at h; omega))) hD3 hD3.2.2.2.2.2.2.2.1 hL4
    | succ fu ih =>
      intro j hj μ4 hF4 hL4
      have hF24 := f3scr.trans (hF4.mono (fun q h => s2scr h))
      have gk3 : mK μ4 d = 10 := by rw [hF24.2.1]; exact gk2
      have p133 : mP μ4 d 13 = some (d + 298) := by rw [hF24.2.2.2.1]; exact p132
      have p143 : mP μ4 d 14 = some (d + 300) := by rw [hF24.2.2.2.1]; exact p142
      have k3004 : mK μ4 (d + 300) = 13 := by rw [hF24.2.1]; exact k300
      have l3004 : mL μ4 (d + 300) = 8 := by rw [hF24.2.2.1]; exact l300
      have nk3 : mK μ4 a = 3 := by rw [hF24.2.1]; exact nk2
      have hjl : j < (caP (aS S nm.1) (aB S) nm).length := by omega
      obtain ⟨⟨_, a23, a53, a63, a93, ka1, la1, ka2, la2, ka3, la3⟩, hLn3, hws3⟩ := ng2.fr hF24
      have hv : mA μ4 (d + 300) j = nI (caP (aS S nm.1) (aB S) nm)[j] := by rw [(hF4.2.2.2.2.2 (d + 300) (by unfold s2; omega)).2.2.1]; exact hH3.at hjl
      have hpl := chL_lt (List.getElem_mem hjl)
      rw [rdK_len] at hpl
      have hcw : (caW (aS S nm.1) (aB S) nm)[j]'(by omega) = nm.2[(caP (aS S nm.1) (aB S) nm)[j]] := by
        unfold caW
        rw [List.getElem_map, List.getD_eq_getElem?_getD, List.getElem?_eq_getElem hpl]; rfl
      have hwI : WI μ4 (a + 6 + 3 * (caP (aS S nm.1) (aB S) nm)[j]) ((caW (aS S nm.1) (aB S) nm)[j]'(by omega)) := by
        rw [hcw]
        exact (hNc2.2.1.2 _ _ (List.getElem?_eq_getElem hpl)).fr hF24 (by unfold scr; omega) (by unfold scr; omega) (by unfold scr; omega)
      have hp8 : (caP (aS S nm.1) (aB S) nm)[j] < 8 := by omega
      clear hcw hpl
      obtain ⟨p, hp⟩ : ∃ p, p = (caP (aS S nm.1) (aB S) nm)[j] := ⟨_, rfl⟩
      rw [← hp] at hv hwI hp8
      have ow := (hws3 p hp8).1
      have hWd := (hws3 p hp8).2
      have wk := hWd.1
      have w1 := hwI.1
      obtain ⟨_, wp0, wp2, wk1, wl1, wk2, wl2⟩ := id hWd
      have lk3 : mK μ4 (d + 298) = 2 := by rw [hF24.2.1]; exact hD2.2.2.2.2.2.2.2.1.1
      have hw20 := hkw _ (List.getElem_mem (show j < (caW (aS S nm.1) (aB S) nm).length by omega))
      refine e_il6 133 rfl dX9_lineOf_131 ?_
      refine e_il5 135 rfl dX9_lineOf_133 ?_
      first | refine e_cmp_geN 183 138 (by decide) rfl dX9_lineOf_135 rfl rfl (by omega) (by omega) (fun y3 => ?_) (fun y3 => ?_) | refine e_cmp_ge 183 138 (by decide) rfl dX9_lineOf_135 (fun y3 => ?_) (fun y3 => ?_)
      · omega
      refine e_al0 139 rfl dX9_lineOf_138 ?_
      refine e_getR 142 rfl dX9_lineOf_139 f_X9_86 (by assumption) (by assumption) ?_
      refine e_al3 143 rfl dX9_lineOf_142 ?_
      refine e_getR 146 rfl dX9_lineOf_143 f_X9_220 (by assumption) (by assumption) ?_
      refine e_al0 147 rfl dX9_lineOf_146 ?_
      refine e_getR 150 rfl dX9_lineOf_147 f_X9_90 (by assumption) (by assumption) ?_
      refine e_il6 152 rfl dX9_lineOf_150 ?_
      first | refine e_ialdv 153 rfl dX9_lineOf_152 (by assumption) (by assumption) (by first | rfl | simp only [pk_mul, nI_add]) (by omega) (by omega) (by first | assumption | (simp only [mN_sF, mK_sF, mL_sF, mF_sF, mB_sF, mA_sF, mJ_sF, mP_sF, mO_sF, mN_sB, mK_sB, mL_sB, mF_sB, mB_sB, mA_sB, mJ_sB, mP_sB, mO_sB, mN_sA, mK_sA, mL_sA, mF_sA, mB_sA, mA_sA, mJ_sA, mP_sA, mO_sA, mN_sJ, mK_sJ, mL_sJ, mF_sJ, mB_sJ, mA_sJ, mJ_sJ, mP_sJ, mO_sJ, mN_sP, mK_sP, mL_sP, mF_sP, mB_sP, mA_sP, mJ_sP, mP_sP, mO_sP, mN_sO, mK_sO, mL_sO, mF_sO, mB_sO, mA_sO, mJ_sO, mP_sO, mO_sO, up2, if_true, if_false, eq_self, ite_true, ite_false, reduceIte, Nat.add_left_cancel_iff, Nat.add_eq_left, Nat.left_eq_add, Nat.reduceEqDiff]; assumption) | (simp only [mN_sF, mK_sF, mL_sF, mF_sF, mB_sF, mA_sF, mJ_sF, mP_sF, mO_sF, mN_sB, mK_sB, mL_sB, mF_sB, mB_sB, mA_sB, mJ_sB, mP_sB, mO_sB, mN_sA, mK_sA, mL_sA, mF_sA, mB_sA, mA_sA, mJ_sA, mP_sA, mO_sA, mN_sJ, mK_sJ, mL_sJ, mF_sJ, mB_sJ, mA_sJ, mJ_sJ, mP_sJ, mO_sJ, mN_sP, mK_sP, mL_sP, mF_sP, mB_sP, mA_sP, mJ_sP, mP_sP, mO_sP, mN_sO, mK_sO, mL_sO, mF_sO, mB_sO, mA_sO, mJ_sO, mP_sO, mO_sO, up2, if_true, if_false, eq_self, ite_true, ite_false, reduceIte, Nat.add_left_cancel_iff, Nat.add_eq_left, Nat.left_eq_add, Nat.reduceEqDiff]; done)) ?_ | refine e_iald 153 rfl dX9_lineOf_152 (by assumption) (by assumption) (by first | rfl | simp only [pk_mul, nI_add]) (by omega) (by omega) ?_
      refine e_aald 154 rfl dX9_lineOf_153 (by assumption) (by decide) (by assumption) (by first | rfl | simp only [pk_mul, nI_add]) (by omega) (by omega) (by assumption) ?_
      refine e_getR 157 rfl dX9_lineOf_154 f_X9_297 (by assumption) (by assumption) ?_
      refine e_al3 158 rfl dX9_lineOf_157 ?_
      refine e_getR 161 rfl dX9_lineOf_158 f_X9_220 (by assumption) (by assumption) ?_
      refine e_al0 162 rfl dX9_lineOf_161 ?_
      refine e_getR 165 rfl dX9_lineOf_162 f_X9_90 (by assumption) (by assumption) ?_
      refine e_il6 167 rfl dX9_lineOf_165 ?_
      first | refine e_ialdv 168 rfl dX9_lineOf_167 (by assumption) (by assumption) (by first | rfl | simp only [pk_mul, nI_add]) (by omega) (by omega) (by first | assumption | (simp only [mN_sF, mK_sF, mL_sF, mF_sF, mB_sF, mA_sF, mJ_sF, mP_sF, mO_sF, mN_sB, mK_sB, mL_sB, mF_sB, mB_sB, mA_sB, mJ_sB, mP_sB, mO_sB, mN_sA, mK_sA, mL_sA, mF_sA, mB_sA, mA_sA, mJ_sA, mP_sA, mO_sA, mN_sJ, mK_sJ, mL_sJ, mF_sJ, mB_sJ, mA_sJ, mJ_sJ, mP_sJ, mO_sJ, mN_sP, mK_sP, mL_sP, mF_sP, mB_sP, mA_sP, mJ_sP, mP_sP, mO_sP, mN_sO, mK_sO, mL_sO, mF_sO, mB_sO, mA_sO, mJ_sO, mP_sO, mO_sO, up2, if_true, if_false, eq_self, ite_true, ite_false, reduceIte, Nat.add_left_cancel_iff, Nat.add_eq_left, Nat.left_eq_add, Nat.reduceEqDiff]; assumption) | (simp only [mN_sF, mK_sF, mL_sF, mF_sF, mB_sF, mA_sF, mJ_sF, mP_sF, mO_sF, mN_sB, mK_sB, mL_sB, mF_sB, mB_sB, mA_sB, mJ_sB, mP_sB, mO_sB, mN_sA, mK_sA, mL_sA, mF_sA, mB_sA, mA_sA, mJ_sA, mP_sA, mO_sA, mN_sJ, mK_sJ, mL_sJ, mF_sJ, mB_sJ, mA_sJ, mJ_sJ, mP_sJ, mO_sJ, mN_sP, mK_sP, mL_sP, mF_sP, mB_sP, mA_sP, mJ_sP, mP_sP, mO_sP, mN_sO, mK_sO, mL_sO, mF_sO, mB_sO, mA_sO, mJ_sO, mP_sO, mO_sO, up2, if_true, if_false, eq_self, ite_true, ite_false, reduceIte, Nat.add_left_cancel_iff, Nat.add_eq_left, Nat.left_eq_add, Nat.reduceEqDiff]; done)) ?_ | refine e_iald 168 rfl dX9_lineOf_167 (by assumption) (by assumption) (by first | rfl | simp only [pk_mul, nI_add]) (by omega) (by omega) ?_
      refine e_aald 169 rfl dX9_lineOf_168 (by assumption) (by decide) (by assumption) (by first | rfl | simp only [pk_mul, nI_add]) (by omega) (by omega) (by assumption) ?_
      first | refine e_getIv 172 rfl dX9_lineOf_169 f_X9_300 (by assumption) (by first | assumption | (simp only [mN_sF, mK_sF, mL_sF, mF_sF, mB_sF, mA_sF, mJ_sF, mP_sF, mO_sF, mN_sB, mK_sB, mL_sB, mF_sB, mB_sB, mA_sB, mJ_sB, mP_sB, mO_sB, mN_sA, mK_sA, mL_sA, mF_sA, mB_sA, mA_sA, mJ_sA, mP_sA, mO_sA, mN_sJ, mK_sJ, mL_sJ, mF_sJ, mB_sJ, mA_sJ, mJ_sJ, mP_sJ, mO_sJ, mN_sP, mK_sP, mL_sP, mF_sP, mB_sP, mA_sP, mJ_sP, mP_sP, mO_sP, mN_sO, mK_sO, mL_sO, mF_sO, mB_sO, mA_sO, mJ_sO, mP_sO, mO_sO, up2, if_true, if_false, eq_self, ite_true, ite_false, reduceIte, Nat.add_left_cancel_iff, Nat.add_eq_left, Nat.left_eq_add, Nat.reduceEqDiff]; assumption) | (simp only [mN_sF, mK_sF, mL_sF, mF_sF, mB_sF, mA_sF, mJ_sF, mP_sF, mO_sF, mN_sB, mK_sB, mL_sB, mF_sB, mB_sB, mA_sB, mJ_sB, mP_sB, mO_sB, mN_sA, mK_sA, mL_sA, mF_sA, mB_sA, mA_sA, mJ_sA, mP_sA, mO_sA, mN_sJ, mK_sJ, mL_sJ, mF_sJ, mB_sJ, mA_sJ, mJ_sJ, mP_sJ, mO_sJ, mN_sP, mK_sP, mL_sP, mF_sP, mB_sP, mA_sP, mJ_sP, mP_sP, mO_sP, mN_sO, mK_sO, mL_sO, mF_sO, mB_sO, mA_sO, mJ_sO, mP_sO, mO_sO, up2, if_true, if_false, eq_self, ite_true, ite_false, reduceIte, Nat.add_left_cancel_iff, Nat.add_eq_left, Nat.left_eq_add, Nat.reduceEqDiff]; done)) ?_ | refine e_getI 172 rfl dX9_lineOf_169 f_X9_300 (by assumption) ?_
      refine e_il6 174 rfl dX9_lineOf_172 ?_
      refine e_invV0 [_, _, _] 177 rfl dX9_lineOf_174 k_X9_287 mo_X1_addWord rm_X9_lineOf_X1_addWord ⟨rfl, rfl⟩ rfl rfl (by assumption) (Nat.le_of_ble_eq_true rfl) ?_
      have hjl2 := jn_len (fun w hw => (hkw w hw).1) j
      refine c_addWord (n := 21) (hD2.2.2.2.2.2.2.2.1.fr hF24) hL4 wk1 wl1 (by decide) hwI.2.2.1 hw20.2 hw20.1 (by unfold s2; omega) (by omega) (by omega) (fun μ5 hF5 hL5 => ?_)
      refine e_ii6 (nI (_ + 1)) 180 rfl dX9_lineOf_177 (ii1 _) rfl ?_
      refine e_goto 131 (by decide) dX9_lineOf_180 ?_
      refine ih (j + 1) (by omega) μ5 (hF4.trans hF5) ?_
      have e : (caW (aS S nm.1) (aB S) nm).getD j [] = (caW (aS S nm.1) (aB S) nm)[j]'(by omega) := by rw [List.getD_eq_getElem?_getD, List.getElem?_eq_getElem (by omega)]; rfl
      rw [jn, e]
      exact hL5
  exact loop (caP (aS S nm.1) (aB S) nm).length 0 (by omega) μ3 Fr.rf (hL2.fr hF3 (by omega) (by omega))
end LINES
