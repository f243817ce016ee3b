/-! NameDesk: small methods -/
section DESK
variable {E : En} {μ : Mm} {K : Option Value → Mm → Prop}
def DF (d : Nat) (μ μ' : Mm) : Prop := Fx (fun q => d ≤ q ∧ q < d + 1255) μ μ'
def okL (x : Int32) : Option Nat := (iN x).filter (fun i => decide (i < 6))
def okK (x : Int32) : Option Nat := (iN x).filter (fun i => decide (i < 5))
def okH (l : List Nat) (x : Int32) : Option Nat := (iN x).filter (fun m => decide (m ≤ l.length))
def nmx (ns : List Nm) (x : Int32) : Option Nm := (iN x).bind (fun i => ns[i]?)
theorem okL_some {x : Int32} {i : Nat} (h : okL x = some i) : i < 6 ∧ x = nI i := by
  unfold okL at h
  rcases iN_cases x with ⟨_, q⟩ | ⟨j, h1, h2, q⟩
  · rw [q] at h; cases h
  · rw [q, Option.filter_some] at h
    split at h
    next z => cases h; exact ⟨of_decide_eq_true z, h2⟩
    next => cases h
theorem okK_some {x : Int32} {i : Nat} (h : okK x = some i) : i < 5 ∧ x = nI i := by
  unfold okK at h
  rcases iN_cases x with ⟨_, q⟩ | ⟨j, h1, h2, q⟩
  · rw [q] at h; cases h
  · rw [q, Option.filter_some] at h
    split at h
    next z => cases h; exact ⟨of_decide_eq_true z, h2⟩
    next => cases h
theorem okH_some {l : List Nat} {x : Int32} {i : Nat} (h : okH l x = some i) : i ≤ l.length ∧ x = nI i := by
  unfold okH at h
  rcases iN_cases x with ⟨_, q⟩ | ⟨j, h1, h2, q⟩
  · rw [q] at h; cases h
  · rw [q, Option.filter_some] at h
    split at h
    next z => cases h; exact ⟨of_decide_eq_true z, h2⟩
    next => cases h
theorem nmx_some {ns : List Nm} {x : Int32} {nm : Nm} (h : nmx ns x = some nm) : ∃ i, x = nI i ∧ ns[i]? = some nm := by
  unfold nmx at h
  rcases iN_cases x with ⟨_, q⟩ | ⟨j, h1, h2, q⟩
  · rw [q] at h; cases h
  · rw [q] at h; exact ⟨j, h2, h⟩
theorem c_isLand {x : Int32} (k : K (some (.int (bI (okL x).isSome))) μ) : Cl E M_X9_isLand [.int x] μ K := by
  unfold okL at k
  rcases iN_cases x with ⟨hx, q⟩ | ⟨j, h1, h2, q⟩
  · rw [q] at k
    refine Cl.of0 0 pn_X9 (Nat.le_of_ble_eq_true rfl) ⟨rfl, rfl⟩ rfl ?_
    refine e_il0 1 rfl dX9_isLand_0 ?_
    refine e_if_lt 14 4 (by decide) rfl dX9_isLand_1 (fun y1 => ?_) (fun y1 => ?_)
    · refine e_iconst (nI 0) 15 rfl dX9_isLand_14 ic_0 ?_
      refine e_zret dX9_isLand_15 rfl (by first | exact z0 | exact z1 | exact bI01 _ | assumption) ?_
      exact k
    · exact absurd hx y1
  · subst h2
    rw [q] at k
    refine Cl.of0 0 pn_X9 (Nat.le_of_ble_eq_true rfl) ⟨rfl, rfl⟩ rfl ?_
    refine e_il0 1 rfl dX9_isLand_0 ?_
    first | refine e_if_ltN 14 4 (by decide) rfl dX9_isLand_1 rfl (by omega) ?_ | refine e_if_lt 14 4 (by decide) rfl dX9_isLand_1 (fun h => ?_) (fun h => ?_)
    refine e_il0 5 rfl dX9_isLand_4 ?_
    refine e_bipush (nI 6) 7 rfl dX9_isLand_5 bc_6 ?_
    first | refine e_cmp_geN 14 10 (by decide) rfl dX9_isLand_7 rfl rfl (by omega) (by omega) (fun y1 => ?_) (fun y1 => ?_) | refine e_cmp_ge 14 10 (by decide) rfl dX9_isLand_7 (fun y1 => ?_) (fun y1 => ?_)
    · refine e_iconst (nI 0) 15 rfl dX9_isLand_14 ic_0 ?_
      refine e_zret dX9_isLand_15 rfl (by first | exact z0 | exact z1 | exact bI01 _ | assumption) ?_
      rw [← bI_f (b := ((some j).filter (fun i => decide (i < 6))).isSome) (by rw [Option.filter_some]; simp; omega)]; exact k
    · refine e_iconst (nI 1) 11 rfl dX9_isLand_10 ic_1 ?_
      refine e_goto 15 (by decide) dX9_isLand_11 ?_
      refine e_zret dX9_isLand_15 rfl (by first | exact z0 | exact z1 | exact bI01 _ | assumption) ?_
      rw [← bI_t (b := ((some j).filter (fun i => decide (i < 6))).isSome) (by rw [Option.filter_some]; simp; omega)]; exact k
theorem c_isName {d : Nat} {x : Int32} {ns : List Nm} (hk : mK μ d = 10) (h7 : mF μ d 7 = nI ns.length) (hn : ns.length ≤ 30) (k : K (some (.int (bI (nmx ns x).isSome))) μ) : Cl E M_X9_isName [.ref d, .int x] μ K := by
  unfold nmx at k
  rcases iN_cases x with ⟨hx, q⟩ | ⟨j, h1, h2, q⟩
  · rw [q] at k
    refine Cl.of0 0 pn_X9 (Nat.le_of_ble_eq_true rfl) ⟨rfl, rfl⟩ rfl ?_
    refine e_il1 1 rfl dX9_isName_0 ?_
    refine e_if_lt 16 4 (by decide) rfl dX9_isName_1 (fun y1 => ?_) (fun y1 => ?_)
    · refine e_iconst (nI 0) 17 rfl dX9_isName_16 ic_0 ?_
      refine e_zret dX9_isName_17 rfl (by first | exact z0 | exact z1 | exact bI01 _ | assumption) ?_
      exact k
    · exact absurd hx y1
  · subst h2
    rw [q] at k
    have k2 : K (some (.int (bI (ns[j]?).isSome))) μ := k
    refine Cl.of0 0 pn_X9 (Nat.le_of_ble_eq_true rfl) ⟨rfl, rfl⟩ rfl ?_
    refine e_il1 1 rfl dX9_isName_0 ?_
    first | refine e_if_ltN 16 4 (by decide) rfl dX9_isName_1 rfl (by omega) ?_ | refine e_if_lt 16 4 (by decide) rfl dX9_isName_1 (fun h => ?_) (fun h => ?_)
    refine e_il1 5 rfl dX9_isName_4 ?_
    refine e_al0 6 rfl dX9_isName_5 ?_
    first | refine e_getIv 9 rfl dX9_isName_6 f_X9_54 (by assumption) (by first | assumption | (simp only [mN_sF, mK_sF, mL_sF, mF_sF, mB_sF, mA_sF, mJ_sF, mP_sF, mO_sF, mN_sB, mK_sB, mL_sB, mF_sB, mB_sB, mA_sB, mJ_sB, mP_sB, mO_sB, mN_sA, mK_sA, mL_sA, mF_sA, mB_sA, mA_sA, mJ_sA, mP_sA, mO_sA, mN_sJ, mK_sJ, mL_sJ, mF_sJ, mB_sJ, mA_sJ, mJ_sJ, mP_sJ, mO_sJ, mN_sP, mK_sP, mL_sP, mF_sP, mB_sP, mA_sP, mJ_sP, mP_sP, mO_sP, mN_sO, mK_sO, mL_sO, mF_sO, mB_sO, mA_sO, mJ_sO, mP_sO, mO_sO, up2, if_true, if_false, eq_self, ite_true, ite_false, reduceIte, Nat.add_left_cancel_iff, Nat.add_eq_left, Nat.left_eq_add, Nat.reduceEqDiff]; assumption) | (simp only [mN_sF, mK_sF, mL_sF, mF_sF, mB_sF, mA_sF, mJ_sF, mP_sF, mO_sF, mN_sB, mK_sB, mL_sB, mF_sB, mB_sB, mA_sB, mJ_sB, mP_sB, mO_sB, mN_sA, mK_sA, mL_sA, mF_sA, mB_sA, mA_sA, mJ_sA, mP_sA, mO_sA, mN_sJ, mK_sJ, mL_sJ, mF_sJ, mB_sJ, mA_sJ, mJ_sJ, mP_sJ, mO_sJ, mN_sP, mK_sP, mL_sP, mF_sP, mB_sP, mA_sP, mJ_sP, mP_sP, mO_sP, mN_sO, mK_sO, mL_sO, mF_sO, mB_sO, mA_sO, mJ_sO, mP_sO, mO_sO, up2, if_true, if_false, eq_self, ite_true, ite_false, reduceIte, Nat.add_left_cancel_iff, Nat.add_eq_left, Nat.left_eq_add, Nat.reduceEqDiff]; done)) ?_ | refine e_getI 9 rfl dX9_isName_6 f_X9_54 (by assumption) ?_
    first | refine e_cmp_geN 16 12 (by decide) rfl dX9_isName_9 rfl rfl (by omega) (by omega) (fun y1 => ?_) (fun y1 => ?_) | refine e_cmp_ge 16 12 (by decide) rfl dX9_isName_9 (fun y1 => ?_) (fun y1 => ?_)
    · refine e_iconst (nI 0) 17 rfl dX9_isName_16 ic_0 ?_
      refine e_zret dX9_isName_17 rfl (by first | exact z0 | exact z1 | exact bI01 _ | assumption) ?_
      rw [← bI_f (b := (ns[j]?).isSome) (by rw [List.getElem?_eq_none (by omega)]; rfl)]; exact k2
    · refine e_iconst (nI 1) 13 rfl dX9_isName_12 ic_1 ?_
      refine e_goto 17 (by decide) dX9_isName_13 ?_
      refine e_zret dX9_isName_17 rfl (by first | exact z0 | exact z1 | exact bI01 _ | assumption) ?_
      rw [← bI_t (b := (ns[j]?).isSome) (by rw [List.getElem?_eq_getElem (by omega)]; rfl)]; exact k2
theorem okH_iff {l : List Nat} (hl : l.length ≤ 400) (x : Int32) : (okH l x).isSome = true ↔ 0 ≤ x ∧ x ≤ nI l.length := by
  unfold okH
  rcases iN_cases x with ⟨hx, q⟩ | ⟨j, h1, h2, q⟩
  · rw [q]
    constructor
    · intro h; cases h
    · intro h; exact absurd h.1 (Int32.not_le.mpr hx)
  · rw [q, Option.filter_some, h2]
    constructor
    · intro h
      split at h
      next z => exact ⟨nI_pos' h1, (nI_leI h1 (by omega)).mpr (of_decide_eq_true z)⟩
      next => cases h
    · intro h
      rw [if_pos (decide_eq_true ((nI_leI h1 (by omega)).mp h.2))]; rfl
theorem c_tholds {d : Nat} {x : Int32} {l : List Nat} (hT : TI μ d l) (k : K (some (.int (bI (okH l x).isSome))) μ) : Cl E M_X7_holds [.ref (d + 1), .int x] μ K := c_holds hT.1.1 hT.2.1 (by have := hT.2.2.2.1; omega) _ (okH_iff hT.2.2.2.1 x) k
theorem TI.tx {d : Nat} {l : List Nat} (h : TI μ d l) : ∃ tx : Nat → Nat, (∀ i, i < 400 → mB μ (d + 2) i = sb_b (tx i) ∧ tx i < 256) ∧ ∀ m, m ≤ l.length → seg tx 0 m = l.take m := by
  obtain ⟨_, h1, h2, h3, h4, h5⟩ := h
  refine ⟨fun i => if hi : i < l.length then l[i] else if h4' : i < 400 then (h5 i h4').choose else 0, fun i hi => ?_, fun m hm => ?_⟩
  · by_cases c : i < l.length
    · simp only [c, dif_pos]
      exact ⟨h2 i _ (List.getElem?_eq_getElem c), h4 _ (List.getElem_mem c)⟩
    · simp only [c, hi, dif_pos]
      exact ⟨(h5 i hi).choose_spec.2, (h5 i hi).choose_spec.1⟩
  · refine List.ext_getElem? (fun i => ?_)
    by_cases c : i < m
    · rw [seg_get _ (by omega), List.getElem?_take_of_lt c, List.getElem?_eq_getElem (by omega)]
      simp only [Nat.zero_add]
      rw [dif_pos (by omega)]
    · rw [List.getElem?_eq_none (by rw [seg_len]; omega), List.getElem?_eq_none (by rw [List.length_take]; omega)]
theorem TI.zero {d : Nat} {l : List Nat} (h : TI μ d l) : TI (sF μ (d + 1) 1 (nI 0)) d [] := by
  obtain ⟨h0, h1, h2, h3, h4, h5⟩ := h
  exact ⟨h0, by simp only [mN_sF, mK_sF, mL_sF, mF_sF, mB_sF, mA_sF, mJ_sF, mP_sF, mO_sF, mN_sB, mK_sB, mL_sB, mF_sB, mB_sB, mA_sB, mJ_sB, mP_sB, mO_sB, mN_sA, mK_sA, mL_sA, mF_sA, mB_sA, mA_sA, mJ_sA, mP_sA, mO_sA, mN_sJ, mK_sJ, mL_sJ, mF_sJ, mB_sJ, mA_sJ, mJ_sJ, mP_sJ, mO_sJ, mN_sP, mK_sP, mL_sP, mF_sP, mB_sP, mA_sP, mJ_sP, mP_sP, mO_sP, mN_sO, mK_sO, mL_sO, mF_sO, mB_sO, mA_sO, mJ_sO, mP_sO, mO_sO, up2, if_true, if_false, eq_self, ite_true, ite_false, reduceIte, Nat.add_left_cancel_iff, Nat.add_eq_left, Nat.left_eq_add, Nat.reduceEqDiff]; rfl, fun i c hc => by simp at hc, by simp, fun c hc => by simp at hc, h5⟩
/-- scratch cells -/
def scr (d : Nat) : Nat → Prop := fun q => (d + 259 ≤ q ∧ q < d + 262) ∨ (d + 298 ≤ q ∧ q < d + 301)
theorem DI.scrF {d : Nat} {S : Ast} {μ' : Mm} (hW : WF S) (h : DI d S μ) (f : Fr (scr d) μ μ') : DI d S μ' := by
  obtain ⟨h1, h2, h3, h4, h5, h6, h7, h8, h9, h10, h11, h12⟩ := h
  have nd : ¬ scr d d := by unfold scr; omega
  have fd := (f.2.2.2.2.2 d nd).1
  refine ⟨h1.fx f.fx (fun g _ => by rw [f.2.2.2.1]) (by unfold scr; omega), h2.fx f.fx (by unfold scr; omega) (by unfold scr; omega), h3.fx f.fx (by unfold scr; omega), h4.fx f.fx (fun q a b => by unfold scr; omega), h5.fr f, h6.fx f.fx (fun q a b => by unfold scr; omega), h7.fx f.fx (fun q a b => by unfold scr; omega), h8.fr f, h9.fx f.fx (by rw [f.2.2.2.1]) (by unfold scr; omega) (fun q a => by unfold scr; omega), h10.fx hW.2.2.2.1 f.fx (by rw [fd]) (fun q a b => by unfold scr; omega), h11.fx f.fx (by rw [fd]) (fun q a b => by unfold scr; omega), h12.fx f.fx (by rw [fd]) (by unfold scr; omega)⟩
theorem DI.tape {d : Nat} {S : Ast} {μ' : Mm} {l : List Nat} (hW : WF S) (h : DI d S μ) (f : Fr (s2 (d + 1)) μ μ') (hT : TI μ' d l) : DI d (l, S.2) μ' := by
  obtain ⟨h1, h2, h3, h4, h5, h6, h7, h8, h9, h10, h11, h12⟩ := h
  have nd : ¬ s2 (d + 1) d := by unfold s2; omega
  have fd := (f.2.2.2.2.2 d nd).1
  refine ⟨h1.fx f.fx (fun g _ => by rw [f.2.2.2.1]) (by unfold s2; omega), hT, h3.fx f.fx (by unfold s2; omega), h4.fx f.fx (fun q a b => by unfold s2; omega), h5.fr f, h6.fx f.fx (fun q a b => by unfold s2; omega), h7.fx f.fx (fun q a b => by unfold s2; omega), h8.fr f, h9.fx f.fx (by rw [f.2.2.2.1]) (by unfold s2; omega) (fun q a => by unfold s2; omega), h10.fx hW.2.2.2.1 f.fx (by rw [fd]) (fun q a b => by unfold s2; omega), h11.fx f.fx (by rw [fd]) (fun q a b => by unfold s2; omega), h12.fx f.fx (by rw [fd]) (by unfold s2; omega)⟩
def q_feed (S : Ast) (a b c e f : Int32) : Int32 × Ast := if (aT S).length + 20 ≤ 400 then (nI ((aT S).length + 20), ((aT S) ++ by4 a ++ by4 b ++ by4 c ++ by4 e ++ by4 f, S.2)) else (-1, S)
theorem d_feed {d : Nat} {S : Ast} {a b c e f : Int32} (hW : WF S) (hD : DI d S μ) (k : ∀ μ', DF d μ μ' → DI d (q_feed S a b c e f).2 μ' → K (some (.int (q_feed S a b c e f).1)) μ') : Cl E M_X9_feed [.ref d, .int a, .int b, .int c, .int e, .int f] μ K := by
  obtain ⟨⟨⟨gk, p0, _⟩, _⟩, ⟨ht, hc⟩, _⟩ := id hD
  have tk := ht.1
  have t1 := hc.1
  have h400 := hc.2.2.1
  unfold q_feed at k
  refine Cl.of0 0 pn_X9 (Nat.le_of_ble_eq_true rfl) ⟨rfl, rfl⟩ rfl ?_
  refine e_al0 1 rfl dX9_feed_0 ?_
  refine e_getR 4 rfl dX9_feed_1 f_X9_12 (by assumption) (by assumption) ?_
  first | refine e_getIv 7 rfl dX9_feed_4 f_X9_94 (by assumption) (by first | assumption | (simp only [mN_sF, mK_sF, mL_sF, mF_sF, mB_sF, mA_sF, mJ_sF, mP_sF, mO_sF, mN_sB, mK_sB, mL_sB, mF_sB, mB_sB, mA_sB, mJ_sB, mP_sB, mO_sB, mN_sA, mK_sA, mL_sA, mF_sA, mB_sA, mA_sA, mJ_sA, mP_sA, mO_sA, mN_sJ, mK_sJ, mL_sJ, mF_sJ, mB_sJ, mA_sJ, mJ_sJ, mP_sJ, mO_sJ, mN_sP, mK_sP, mL_sP, mF_sP, mB_sP, mA_sP, mJ_sP, mP_sP, mO_sP, mN_sO, mK_sO, mL_sO, mF_sO, mB_sO, mA_sO, mJ_sO, mP_sO, mO_sO, up2, if_true, if_false, eq_self, ite_true, ite_false, reduceIte, Nat.add_left_cancel_iff, Nat.add_eq_left, Nat.left_eq_add, Nat.reduceEqDiff]; assumption) | (simp only [mN_sF, mK_sF, mL_sF, mF_sF, mB_sF, mA_sF, mJ_sF, mP_sF, mO_sF, mN_sB, mK_sB, mL_sB, mF_sB, mB_sB, mA_sB, mJ_sB, mP_sB, mO_sB, mN_sA, mK_sA, mL_sA, mF_sA, mB_sA, mA_sA, mJ_sA, mP_sA, mO_sA, mN_sJ, mK_sJ, mL_sJ, mF_sJ, mB_sJ, mA_sJ, mJ_sJ, mP_sJ, mO_sJ, mN_sP, mK_sP, mL_sP, mF_sP, mB_sP, mA_sP, mJ_sP, mP_sP, mO_sP, mN_sO, mK_sO, mL_sO, mF_sO, mB_sO, mA_sO, mJ_sO, mP_sO, mO_sO, up2, if_true, if_false, eq_self, ite_true, ite_false, reduceIte, Nat.add_left_cancel_iff, Nat.add_eq_left, Nat.left_eq_add, Nat.reduceEqDiff]; done)) ?_ | refine e_getI 7 rfl dX9_feed_4 f_X9_94 (by assumption) ?_
  refine e_bipush (nI 20) 9 rfl dX9_feed_7 bc_20 ?_
  first | refine e_iaddN 10 rfl dX9_feed_9 rfl rfl ?_ | refine e_iadd 10 rfl dX9_feed_9 ?_
  refine e_sipush (nI 400) 13 rfl dX9_feed_10 sc_400 ?_
  first | refine e_cmp_leN 18 16 (by decide) rfl dX9_feed_13 rfl rfl (by omega) (by omega) (fun y1 => ?_) (fun y1 => ?_) | refine e_cmp_le 18 16 (by decide) rfl dX9_feed_13 (fun y1 => ?_) (fun y1 => ?_)
  rotate_left
  · refine e_iconst (-1) 17 rfl dX9_feed_16 ic_m1 ?_
    refine e_iret dX9_feed_17 rfl ?_
    rw [if_neg (by omega)] at k
    exact k μ Fx.rf hD
  rw [if_pos y1] at k
  have l4 : ∀ x, (by4 x).length = 4 := fun x => rfl
  have keep : ∀ μ1, Fr (s2 (d + 1)) μ μ1 → mK μ1 d = 10 ∧ mP μ1 d 0 = some (d + 1) ∧ Tp μ1 (d + 1) ∧ mK μ1 (d + 1) = 8 := fun μ1 hF => ⟨by rw [hF.2.1]; exact gk, by rw [hF.2.2.2.1]; exact p0, ht.fr hF, by rw [hF.2.1]; exact tk⟩
  refine e_al0 19 rfl dX9_feed_18 ?_
  refine e_getR 22 rfl dX9_feed_19 f_X9_12 (by assumption) (by assumption) ?_
  refine e_il1 23 rfl dX9_feed_22 ?_
  refine e_invV0 [_] 26 rfl dX9_feed_23 k_X9_97 mo_X7_add rm_X9_feed_X7_add ⟨rfl, rfl⟩ rfl rfl (by assumption) (Nat.le_of_ble_eq_true rfl) ?_
  refine c_tadd ht hc (by omega) (fun μ1 hF1 hc1 => ?_)
  obtain ⟨gk1, p01, ht1, tk1⟩ := keep μ1 hF1
  refine e_al0 27 rfl dX9_feed_26 ?_
  refine e_getR 30 rfl dX9_feed_27 f_X9_12 (by assumption) (by assumption) ?_
  refine e_il2 31 rfl dX9_feed_30 ?_
  refine e_invV0 [_] 34 rfl dX9_feed_31 k_X9_97 mo_X7_add rm_X9_feed_X7_add ⟨rfl, rfl⟩ rfl rfl (by assumption) (Nat.le_of_ble_eq_true rfl) ?_
  refine c_tadd ht1 hc1 (by simp [l4]; omega) (fun μ2 hF2 hc2 => ?_)
  have hF2' := hF1.trans hF2
  obtain ⟨gk2, p02, ht2, tk2⟩ := keep μ2 hF2'
  refine e_al0 35 rfl dX9_feed_34 ?_
  refine e_getR 38 rfl dX9_feed_35 f_X9_12 (by assumption) (by assumption) ?_
  refine e_il3 39 rfl dX9_feed_38 ?_
  refine e_invV0 [_] 42 rfl dX9_feed_39 k_X9_97 mo_X7_add rm_X9_feed_X7_add ⟨rfl, rfl⟩ rfl rfl (by assumption) (Nat.le_of_ble_eq_true rfl) ?_
  refine c_tadd ht2 hc2 (by simp [l4]; omega) (fun μ3 hF3 hc3 => ?_)
  have hF3' := hF2'.trans hF3
  obtain ⟨gk3, p03, ht3, tk3⟩ := keep μ3 hF3'
  refine e_al0 43 rfl dX9_feed_42 ?_
  refine e_getR 46 rfl dX9_feed_43 f_X9_12 (by assumption) (by assumption) ?_
  refine e_il4 48 rfl dX9_feed_46 ?_
  refine e_invV0 [_] 51 rfl dX9_feed_48 k_X9_97 mo_X7_add rm_X9_feed_X7_add ⟨rfl, rfl⟩ rfl rfl (by assumption) (Nat.le_of_ble_eq_true rfl) ?_
  refine c_tadd ht3 hc3 (by simp [l4]; omega) (fun μ4 hF4 hc4 => ?_)
  have hF4' := hF3'.trans hF4
  obtain ⟨gk4, p04, ht4, tk4⟩ := keep μ4 hF4'
  refine e_al0 52 rfl dX9_feed_51 ?_
  refine e_getR 55 rfl dX9_feed_52 f_X9_12 (by assumption) (by assumption) ?_
  refine e_il5 57 rfl dX9_feed_55 ?_
  refine e_invV0 [_] 60 rfl dX9_feed_57 k_X9_97 mo_X7_add rm_X9_feed_X7_add ⟨rfl, rfl⟩ rfl rfl (by assumption) (Nat.le_of_ble_eq_true rfl) ?_
  refine c_tadd ht4 hc4 (by simp [l4]; omega) (fun μ5 hF5 hc5 => ?_)
  have hF5' := hF4'.trans hF5
  obtain ⟨gk5, p05, ht5, tk5⟩ := keep μ5 hF5'
  have t5 := hc5.1
  rw [show ((aT S) ++ by4 a ++ by4 b ++ by4 c ++ by4 e ++ by4 f).length = (aT S).length + 20 by simp [l4]] at t5
  refine e_al0 61 rfl dX9_feed_60 ?_
  refine e_getR 64 rfl dX9_feed_61 f_X9_12 (by assumption) (by assumption) ?_
  first | refine e_getIv 67 rfl dX9_feed_64 f_X9_94 (by assumption) (by first | assumption | (simp only [mN_sF, mK_sF, mL_sF, mF_sF, mB_sF, mA_sF, mJ_sF, mP_sF, mO_sF, mN_sB, mK_sB, mL_sB, mF_sB, mB_sB, mA_sB, mJ_sB, mP_sB, mO_sB, mN_sA, mK_sA, mL_sA, mF_sA, mB_sA, mA_sA, mJ_sA, mP_sA, mO_sA, mN_sJ, mK_sJ, mL_sJ, mF_sJ, mB_sJ, mA_sJ, mJ_sJ, mP_sJ, mO_sJ, mN_sP, mK_sP, mL_sP, mF_sP, mB_sP, mA_sP, mJ_sP, mP_sP, mO_sP, mN_sO, mK_sO, mL_sO, mF_sO, mB_sO, mA_sO, mJ_sO, mP_sO, mO_sO, up2, if_true, if_false, eq_self, ite_true, ite_false, reduceIte, Nat.add_left_cancel_iff, Nat.add_eq_left, Nat.left_eq_add, Nat.reduceEqDiff]; assumption) | (simp only [mN_sF, mK_sF, mL_sF, mF_sF, mB_sF, mA_sF, mJ_sF, mP_sF, mO_sF, mN_sB, mK_sB, mL_sB, mF_sB, mB_sB, mA_sB, mJ_sB, mP_sB, mO_sB, mN_sA, mK_sA, mL_sA, mF_sA, mB_sA, mA_sA, mJ_sA, mP_sA, mO_sA, mN_sJ, mK_sJ, mL_sJ, mF_sJ, mB_sJ, mA_sJ, mJ_sJ, mP_sJ, mO_sJ, mN_sP, mK_sP, mL_sP, mF_sP, mB_sP, mA_sP, mJ_sP, mP_sP, mO_sP, mN_sO, mK_sO, mL_sO, mF_sO, mB_sO, mA_sO, mJ_sO, mP_sO, mO_sO, up2, if_true, if_false, eq_self, ite_true, ite_false, reduceIte, Nat.add_left_cancel_iff, Nat.add_eq_left, Nat.left_eq_add, Nat.reduceEqDiff]; done)) ?_ | refine e_getI 67 rfl dX9_feed_64 f_X9_94 (by assumption) ?_
  refine e_iret dX9_feed_67 rfl ?_
  exact k μ5 (hF5'.fx.mono (fun q h => by unfold s2 at h; omega)) (hD.tape hW hF5' ⟨ht5, hc5⟩)
def q_fault (S : Ast) (x : Int32) : Int32 := if x = 0 then nI (aF S) else if x = nI 1 then aP S else -1
theorem d_fault {d : Nat} {S : Ast} {x : Int32} (hD : DI d S μ) (k : K (some (.int (q_fault S x))) μ) : Cl E M_X9_fault [.ref d, .int x] μ K := by
  obtain ⟨⟨⟨gk, p0, p1, p2, _⟩, _⟩, _, ⟨x1, x2, x3⟩, _⟩ := id hD
  unfold q_fault at k
  refine Cl.of0 0 pn_X9 (Nat.le_of_ble_eq_true rfl) ⟨rfl, rfl⟩ rfl ?_
  refine e_il1 1 rfl dX9_fault_0 ?_
  refine e_if_ne 12 4 (by decide) rfl dX9_fault_1 (fun y1 => ?_) (fun y1 => ?_)
  rotate_left
  · rw [if_pos y1] at k
    refine e_al0 5 rfl dX9_fault_4 ?_
    refine e_getR 8 rfl dX9_fault_5 f_X9_25 (by assumption) (by assumption) ?_
    first | refine e_getIv 11 rfl dX9_fault_8 f_X9_122 (by assumption) (by first | assumption | (simp only [mN_sF, mK_sF, mL_sF, mF_sF, mB_sF, mA_sF, mJ_sF, mP_sF, mO_sF, mN_sB, mK_sB, mL_sB, mF_sB, mB_sB, mA_sB, mJ_sB, mP_sB, mO_sB, mN_sA, mK_sA, mL_sA, mF_sA, mB_sA, mA_sA, mJ_sA, mP_sA, mO_sA, mN_sJ, mK_sJ, mL_sJ, mF_sJ, mB_sJ, mA_sJ, mJ_sJ, mP_sJ, mO_sJ, mN_sP, mK_sP, mL_sP, mF_sP, mB_sP, mA_sP, mJ_sP, mP_sP, mO_sP, mN_sO, mK_sO, mL_sO, mF_sO, mB_sO, mA_sO, mJ_sO, mP_sO, mO_sO, up2, if_true, if_false, eq_self, ite_true, ite_false, reduceIte, Nat.add_left_cancel_iff, Nat.add_eq_left, Nat.left_eq_add, Nat.reduceEqDiff]; assumption) | (simp only [mN_sF, mK_sF, mL_sF, mF_sF, mB_sF, mA_sF, mJ_sF, mP_sF, mO_sF, mN_sB, mK_sB, mL_sB, mF_sB, mB_sB, mA_sB, mJ_sB, mP_sB, mO_sB, mN_sA, mK_sA, mL_sA, mF_sA, mB_sA, mA_sA, mJ_sA, mP_sA, mO_sA, mN_sJ, mK_sJ, mL_sJ, mF_sJ, mB_sJ, mA_sJ, mJ_sJ, mP_sJ, mO_sJ, mN_sP, mK_sP, mL_sP, mF_sP, mB_sP, mA_sP, mJ_sP, mP_sP, mO_sP, mN_sO, mK_sO, mL_sO, mF_sO, mB_sO, mA_sO, mJ_sO, mP_sO, mO_sO, up2, if_true, if_false, eq_self, ite_true, ite_false, reduceIte, Nat.add_left_cancel_iff, Nat.add_eq_left, Nat.left_eq_add, Nat.reduceEqDiff]; done)) ?_ | refine e_getI 11 rfl dX9_fault_8 f_X9_122 (by assumption) ?_
    refine e_iret dX9_fault_11 rfl ?_
    exact k
  rw [if_neg y1] at k
  refine e_il1 13 rfl dX9_fault_12 ?_
  refine e_iconst (nI 1) 14 rfl dX9_fault_13 ic_1 ?_
  refine e_cmp_ne 27 17 (by decide) rfl dX9_fault_14 (fun y2 => ?_) (fun y2 => ?_)
  · rw [if_neg (fun q => y2 q)] at k
    refine e_iconst (-1) 28 rfl dX9_fault_27 ic_m1 ?_
    refine e_iret dX9_fault_28 rfl ?_
    exact k
  · rw [if_pos y2] at k
    refine e_al0 18 rfl dX9_fault_17 ?_
    refine e_getR 21 rfl dX9_fault_18 f_X9_25 (by assumption) (by assumption) ?_
    first | refine e_getIv 24 rfl dX9_fault_21 f_X9_125 (by assumption) (by first | assumption | (simp only [mN_sF, mK_sF, mL_sF, mF_sF, mB_sF, mA_sF, mJ_sF, mP_sF, mO_sF, mN_sB, mK_sB, mL_sB, mF_sB, mB_sB, mA_sB, mJ_sB, mP_sB, mO_sB, mN_sA, mK_sA, mL_sA, mF_sA, mB_sA, mA_sA, mJ_sA, mP_sA, mO_sA, mN_sJ, mK_sJ, mL_sJ, mF_sJ, mB_sJ, mA_sJ, mJ_sJ, mP_sJ, mO_sJ, mN_sP, mK_sP, mL_sP, mF_sP, mB_sP, mA_sP, mJ_sP, mP_sP, mO_sP, mN_sO, mK_sO, mL_sO, mF_sO, mB_sO, mA_sO, mJ_sO, mP_sO, mO_sO, up2, if_true, if_false, eq_self, ite_true, ite_false, reduceIte, Nat.add_left_cancel_iff, Nat.add_eq_left, Nat.left_eq_add, Nat.reduceEqDiff]; assumption) | (simp only [mN_sF, mK_sF, mL_sF, mF_sF, mB_sF, mA_sF, mJ_sF, mP_sF, mO_sF, mN_sB, mK_sB, mL_sB, mF_sB, mB_sB, mA_sB, mJ_sB, mP_sB, mO_sB, mN_sA, mK_sA, mL_sA, mF_sA, mB_sA, mA_sA, mJ_sA, mP_sA, mO_sA, mN_sJ, mK_sJ, mL_sJ, mF_sJ, mB_sJ, mA_sJ, mJ_sJ, mP_sJ, mO_sJ, mN_sP, mK_sP, mL_sP, mF_sP, mB_sP, mA_sP, mJ_sP, mP_sP, mO_sP, mN_sO, mK_sO, mL_sO, mF_sO, mB_sO, mA_sO, mJ_sO, mP_sO, mO_sO, up2, if_true, if_false, eq_self, ite_true, ite_false, reduceIte, Nat.add_left_cancel_iff, Nat.add_eq_left, Nat.left_eq_add, Nat.reduceEqDiff]; done)) ?_ | refine e_getI 24 rfl dX9_fault_21 f_X9_125 (by assumption) ?_
    refine e_goto 28 (by decide) dX9_fault_24 ?_
    refine e_iret dX9_fault_28 rfl ?_
    exact k
end DESK
