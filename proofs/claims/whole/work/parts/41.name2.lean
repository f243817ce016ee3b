/-! NameDesk$Name: what reads -/
section NAME2
variable {E : En} {μ : Mm} {K : Option Value → Mm → Prop}
/-- the folded words of a name -/
def Nf (μ : Mm) (a : Nat) (fs : List (List Nat)) : Prop := mF μ a 1 = nI fs.length ∧ fs.length ≤ 8 ∧ ∀ i w, fs[i]? = some w → Wl μ (a + 6 + 3 * i) w
/-- the reading of a name: whether there is one, and its kinds -/
def Nk (μ : Mm) (a : Nat) (rd : Bool) (ks : List Nat) : Prop := mF μ a 4 = bI rd ∧ mF μ a 1 = nI ks.length ∧ ks.length ≤ 8 ∧ (rd = true → Hd (mA μ (a + 2)) ks ∧ ∀ k ∈ ks, k < 7)
theorem bit_of : ∀ bits, bits < 128 → ∀ k, k < 7 → ((nI bits >>> (nI k &&& 31)) &&& nI 1 = 0 ↔ bits.testBit k = false) := by decide +kernel
theorem c_nextOf {a bits f : Nat} {rd : Bool} {ks : List Nat} (hg : Ng μ a) (hk : Nk μ a rd ks) (hb : bits < 128) (hf : f < 2 ^ 30)
    (kn : (rd = false ∨ ∀ w, f ≤ w → ∀ h : w < ks.length, bits.testBit ks[w] = false) → K (some (.int (-1))) μ) (ks' : rd = true → ∀ w, f ≤ w → ∀ h : w < ks.length, bits.testBit ks[w] = true → (∀ v, f ≤ v → ∀ h' : v < w, bits.testBit (ks[v]'(by omega)) = false) → K (some (.int (nI w))) μ) : Cl E M_X2_nextOf [.ref a, .int (nI bits), .int (nI f)] μ K := by
  obtain ⟨⟨kk, p2, p5, p6, p9, kk1, ll1, kk2, ll2, kk3, ll3⟩, hLn, hWs⟩ := hg
  obtain ⟨h4, h1, h8, hr⟩ := hk
  refine Cl.of0 1 pn_X2 (Nat.le_of_ble_eq_true rfl) ⟨rfl, rfl⟩ rfl ?_
  refine e_al0 1 rfl dX2_nextOf_0 ?_
  first | refine e_getIv 4 rfl dX2_nextOf_1 f_X2_28 (by assumption) (by first | assumption | (simp only [mN_sF, mK_sF, mL_sF, mF_sF, mB_sF, mA_sF, mJ_sF, mP_sF, mO_sF, mN_sB, mK_sB, mL_sB, mF_sB, mB_sB, mA_sB, mJ_sB, mP_sB, mO_sB, mN_sA, mK_sA, mL_sA, mF_sA, mB_sA, mA_sA, mJ_sA, mP_sA, mO_sA, mN_sJ, mK_sJ, mL_sJ, mF_sJ, mB_sJ, mA_sJ, mJ_sJ, mP_sJ, mO_sJ, mN_sP, mK_sP, mL_sP, mF_sP, mB_sP, mA_sP, mJ_sP, mP_sP, mO_sP, mN_sO, mK_sO, mL_sO, mF_sO, mB_sO, mA_sO, mJ_sO, mP_sO, mO_sO, up2, if_true, if_false, eq_self, ite_true, ite_false, reduceIte, Nat.add_left_cancel_iff, Nat.add_eq_left, Nat.left_eq_add, Nat.reduceEqDiff]; assumption) | (simp only [mN_sF, mK_sF, mL_sF, mF_sF, mB_sF, mA_sF, mJ_sF, mP_sF, mO_sF, mN_sB, mK_sB, mL_sB, mF_sB, mB_sB, mA_sB, mJ_sB, mP_sB, mO_sB, mN_sA, mK_sA, mL_sA, mF_sA, mB_sA, mA_sA, mJ_sA, mP_sA, mO_sA, mN_sJ, mK_sJ, mL_sJ, mF_sJ, mB_sJ, mA_sJ, mJ_sJ, mP_sJ, mO_sJ, mN_sP, mK_sP, mL_sP, mF_sP, mB_sP, mA_sP, mJ_sP, mP_sP, mO_sP, mN_sO, mK_sO, mL_sO, mF_sO, mB_sO, mA_sO, mJ_sO, mP_sO, mO_sO, up2, if_true, if_false, eq_self, ite_true, ite_false, reduceIte, Nat.add_left_cancel_iff, Nat.add_eq_left, Nat.left_eq_add, Nat.reduceEqDiff]; done)) ?_ | refine e_getI 4 rfl dX2_nextOf_1 f_X2_28 (by assumption) ?_
  first | refine e_if_eqB 11 7 (by decide) rfl dX2_nextOf_4 rfl (fun g1 => ?_) (fun g1 => ?_) | refine e_if_eqN 11 7 (by decide) rfl dX2_nextOf_4 rfl (by omega) (fun g1 => ?_) (fun g1 => ?_) | refine e_if_eq 11 7 (by decide) rfl dX2_nextOf_4 (fun g1 => ?_) (fun g1 => ?_)
  · refine e_iconst (-1) 12 rfl dX2_nextOf_11 ic_m1 ?_
    refine e_iret dX2_nextOf_12 rfl ?_
    exact kn (Or.inl g1)
  obtain ⟨hH, h7⟩ := hr g1
  refine e_il2 8 rfl dX2_nextOf_7 ?_
  first | refine e_if_geN 13 11 (by decide) rfl dX2_nextOf_8 rfl (by omega) ?_ | refine e_if_ge 13 11 (by decide) rfl dX2_nextOf_8 (fun h => ?_) (fun h => ?_)
  refine e_il2 14 rfl dX2_nextOf_13 ?_
  refine e_is3 15 rfl dX2_nextOf_14 (by decide) rfl ?_
  have loop : ∀ (fu i : Nat), i + fu = ks.length + f → f ≤ i → (∀ v, f ≤ v → ∀ h : v < ks.length, v < i → bits.testBit ks[v] = false) → Ev E M_X2_nextOf 0 0 15 [some (.ref a), some (.int (nI bits)), some (.int (nI f)), some (.int (nI i))] [] μ K := by
    intro fu
    induction fu with
    | zero =>
      intro i hi hfi hno
      refine e_il3 16 rfl dX2_nextOf_15 ?_
      refine e_al0 17 rfl dX2_nextOf_16 ?_
      first | refine e_getIv 20 rfl dX2_nextOf_17 f_X2_15 (by assumption) (by first | assumption | (simp only [mN_sF, mK_sF, mL_sF, mF_sF, mB_sF, mA_sF, mJ_sF, mP_sF, mO_sF, mN_sB, mK_sB, mL_sB, mF_sB, mB_sB, mA_sB, mJ_sB, mP_sB, mO_sB, mN_sA, mK_sA, mL_sA, mF_sA, mB_sA, mA_sA, mJ_sA, mP_sA, mO_sA, mN_sJ, mK_sJ, mL_sJ, mF_sJ, mB_sJ, mA_sJ, mJ_sJ, mP_sJ, mO_sJ, mN_sP, mK_sP, mL_sP, mF_sP, mB_sP, mA_sP, mJ_sP, mP_sP, mO_sP, mN_sO, mK_sO, mL_sO, mF_sO, mB_sO, mA_sO, mJ_sO, mP_sO, mO_sO, up2, if_true, if_false, eq_self, ite_true, ite_false, reduceIte, Nat.add_left_cancel_iff, Nat.add_eq_left, Nat.left_eq_add, Nat.reduceEqDiff]; assumption) | (simp only [mN_sF, mK_sF, mL_sF, mF_sF, mB_sF, mA_sF, mJ_sF, mP_sF, mO_sF, mN_sB, mK_sB, mL_sB, mF_sB, mB_sB, mA_sB, mJ_sB, mP_sB, mO_sB, mN_sA, mK_sA, mL_sA, mF_sA, mB_sA, mA_sA, mJ_sA, mP_sA, mO_sA, mN_sJ, mK_sJ, mL_sJ, mF_sJ, mB_sJ, mA_sJ, mJ_sJ, mP_sJ, mO_sJ, mN_sP, mK_sP, mL_sP, mF_sP, mB_sP, mA_sP, mJ_sP, mP_sP, mO_sP, mN_sO, mK_sO, mL_sO, mF_sO, mB_sO, mA_sO, mJ_sO, mP_sO, mO_sO, up2, if_true, if_false, eq_self, ite_true, ite_false, reduceIte, Nat.add_left_cancel_iff, Nat.add_eq_left, Nat.left_eq_add, Nat.reduceEqDiff]; done)) ?_ | refine e_getI 20 rfl dX2_nextOf_17 f_X2_15 (by assumption) ?_
      first | refine e_cmp_geN 44 23 (by decide) rfl dX2_nextOf_20 rfl rfl (by omega) (by omega) (fun g2 => ?_) (fun g2 => ?_) | refine e_cmp_ge 44 23 (by decide) rfl dX2_nextOf_20 (fun g2 => ?_) (fun g2 => ?_)
      · refine e_iconst (-1) 45 rfl dX2_nextOf_44 ic_m1 ?_
        refine e_iret dX2_nextOf_45 rfl ?_
        exact kn (Or.inr (fun w hw h => hno w hw h (by omega)))
      · omega
    | succ fu ih =>
      intro i hi hfi hno
      refine e_il3 16 rfl dX2_nextOf_15 ?_
      refine e_al0 17 rfl dX2_nextOf_16 ?_
      first | refine e_getIv 20 rfl dX2_nextOf_17 f_X2_15 (by assumption) (by first | assumption | (simp only [mN_sF, mK_sF, mL_sF, mF_sF, mB_sF, mA_sF, mJ_sF, mP_sF, mO_sF, mN_sB, mK_sB, mL_sB, mF_sB, mB_sB, mA_sB, mJ_sB, mP_sB, mO_sB, mN_sA, mK_sA, mL_sA, mF_sA, mB_sA, mA_sA, mJ_sA, mP_sA, mO_sA, mN_sJ, mK_sJ, mL_sJ, mF_sJ, mB_sJ, mA_sJ, mJ_sJ, mP_sJ, mO_sJ, mN_sP, mK_sP, mL_sP, mF_sP, mB_sP, mA_sP, mJ_sP, mP_sP, mO_sP, mN_sO, mK_sO, mL_sO, mF_sO, mB_sO, mA_sO, mJ_sO, mP_sO, mO_sO, up2, if_true, if_false, eq_self, ite_true, ite_false, reduceIte, Nat.add_left_cancel_iff, Nat.add_eq_left, Nat.left_eq_add, Nat.reduceEqDiff]; assumption) | (simp only [mN_sF, mK_sF, mL_sF, mF_sF, mB_sF, mA_sF, mJ_sF, mP_sF, mO_sF, mN_sB, mK_sB, mL_sB, mF_sB, mB_sB, mA_sB, mJ_sB, mP_sB, mO_sB, mN_sA, mK_sA, mL_sA, mF_sA, mB_sA, mA_sA, mJ_sA, mP_sA, mO_sA, mN_sJ, mK_sJ, mL_sJ, mF_sJ, mB_sJ, mA_sJ, mJ_sJ, mP_sJ, mO_sJ, mN_sP, mK_sP, mL_sP, mF_sP, mB_sP, mA_sP, mJ_sP, mP_sP, mO_sP, mN_sO, mK_sO, mL_sO, mF_sO, mB_sO, mA_sO, mJ_sO, mP_sO, mO_sO, up2, if_true, if_false, eq_self, ite_true, ite_false, reduceIte, Nat.add_left_cancel_iff, Nat.add_eq_left, Nat.left_eq_add, Nat.reduceEqDiff]; done)) ?_ | refine e_getI 20 rfl dX2_nextOf_17 f_X2_15 (by assumption) ?_
      first | refine e_cmp_geN 44 23 (by decide) rfl dX2_nextOf_20 rfl rfl (by omega) (by omega) (fun g2 => ?_) (fun g2 => ?_) | refine e_cmp_ge 44 23 (by decide) rfl dX2_nextOf_20 (fun g2 => ?_) (fun g2 => ?_)
      · refine e_iconst (-1) 45 rfl dX2_nextOf_44 ic_m1 ?_
        refine e_iret dX2_nextOf_45 rfl ?_
        exact kn (Or.inr (fun w hw h => hno w hw h (by omega)))
      have hA : mA μ (a + 2) i = nI ks[i] := hH.at g2
      have hbit := bit_of bits hb _ (h7 _ (List.getElem_mem g2))
      refine e_il1 24 rfl dX2_nextOf_23 ?_
      refine e_al0 25 rfl dX2_nextOf_24 ?_
      refine e_getR 28 rfl dX2_nextOf_25 f_X2_31 (by assumption) (by assumption) ?_
      refine e_il3 29 rfl dX2_nextOf_28 ?_
      first | refine e_ialdv 30 rfl dX2_nextOf_29 (by assumption) (by assumption) (by first | rfl | simp only [pk_mul, nI_add]) (by omega) (by omega) (by first | assumption | (simp only [mN_sF, mK_sF, mL_sF, mF_sF, mB_sF, mA_sF, mJ_sF, mP_sF, mO_sF, mN_sB, mK_sB, mL_sB, mF_sB, mB_sB, mA_sB, mJ_sB, mP_sB, mO_sB, mN_sA, mK_sA, mL_sA, mF_sA, mB_sA, mA_sA, mJ_sA, mP_sA, mO_sA, mN_sJ, mK_sJ, mL_sJ, mF_sJ, mB_sJ, mA_sJ, mJ_sJ, mP_sJ, mO_sJ, mN_sP, mK_sP, mL_sP, mF_sP, mB_sP, mA_sP, mJ_sP, mP_sP, mO_sP, mN_sO, mK_sO, mL_sO, mF_sO, mB_sO, mA_sO, mJ_sO, mP_sO, mO_sO, up2, if_true, if_false, eq_self, ite_true, ite_false, reduceIte, Nat.add_left_cancel_iff, Nat.add_eq_left, Nat.left_eq_add, Nat.reduceEqDiff]; assumption) | (simp only [mN_sF, mK_sF, mL_sF, mF_sF, mB_sF, mA_sF, mJ_sF, mP_sF, mO_sF, mN_sB, mK_sB, mL_sB, mF_sB, mB_sB, mA_sB, mJ_sB, mP_sB, mO_sB, mN_sA, mK_sA, mL_sA, mF_sA, mB_sA, mA_sA, mJ_sA, mP_sA, mO_sA, mN_sJ, mK_sJ, mL_sJ, mF_sJ, mB_sJ, mA_sJ, mJ_sJ, mP_sJ, mO_sJ, mN_sP, mK_sP, mL_sP, mF_sP, mB_sP, mA_sP, mJ_sP, mP_sP, mO_sP, mN_sO, mK_sO, mL_sO, mF_sO, mB_sO, mA_sO, mJ_sO, mP_sO, mO_sO, up2, if_true, if_false, eq_self, ite_true, ite_false, reduceIte, Nat.add_left_cancel_iff, Nat.add_eq_left, Nat.left_eq_add, Nat.reduceEqDiff]; done)) ?_ | refine e_iald 30 rfl dX2_nextOf_29 (by assumption) (by assumption) (by first | rfl | simp only [pk_mul, nI_add]) (by omega) (by omega) ?_
      refine e_ishr 31 rfl dX2_nextOf_30 ?_
      refine e_iconst (nI 1) 32 rfl dX2_nextOf_31 ic_1 ?_
      refine e_iand 33 rfl dX2_nextOf_32 ?_
      first | refine e_if_eqB 38 36 (by decide) rfl dX2_nextOf_33 rfl (fun g3 => ?_) (fun g3 => ?_) | refine e_if_eqN 38 36 (by decide) rfl dX2_nextOf_33 rfl (by omega) (fun g3 => ?_) (fun g3 => ?_) | refine e_if_eq 38 36 (by decide) rfl dX2_nextOf_33 (fun g3 => ?_) (fun g3 => ?_)
      · refine e_ii3 (nI (_ + 1)) 41 rfl dX2_nextOf_38 (ii1 _) rfl ?_
        refine e_goto 15 (by decide) dX2_nextOf_41 ?_
        refine ih (i + 1) (by omega) (by omega) (fun v hv h hvi => ?_)
        by_cases e : v = i
        · subst e; exact hbit.mp g3
        · exact hno v hv h (by omega)
      · refine e_il3 37 rfl dX2_nextOf_36 ?_
        refine e_iret dX2_nextOf_37 rfl ?_
        refine ks' g1 i hfi g2 (by cases hq : bits.testBit ks[i]; exact absurd (hbit.mpr hq) g3; rfl) (fun v hv h' => hno v hv (by omega) h')
  exact loop ks.length f (by omega) (Nat.le_refl f) (fun v h1 h h2 => by omega)
/-- the places of the words of a kind, from place j on -/
def plcF (k : Nat) : List Nat → Nat → List Nat
  | [], _ => []
  | x :: r, j => if x = k then j :: plcF k r (j + 1) else plcF k r (j + 1)
def chL (rd : Bool) (lt ks : List Nat) : List Nat := if rd then lt.flatMap (fun k => plcF k ks 0) else []
theorem plcF_drop {k : Nat} {ks : List Nat} {i : Nat} (h : i < ks.length) : plcF k (ks.drop i) i = if ks[i] = k then i :: plcF k (ks.drop (i + 1)) (i + 1) else plcF k (ks.drop (i + 1)) (i + 1) := by
  rw [List.drop_eq_getElem_cons h]; rfl
theorem c_choose {a t u n : Nat} {rd : Bool} {lt ks : List Nat} (hg : Ng μ a) (hk : Nk μ a rd ks) (hkt : mK μ t = 13) (hlt : mL μ t = n) (hn : n < 2 ^ 30) (hln : lt.length ≤ n) (hH : Hd (mA μ t) lt) (hl7 : ∀ k ∈ lt, k < 7) (hku : mK μ u = 13) (hlu : mL μ u = 8) (hut : u ≠ t) (hua : u ≠ a + 2) (h8 : (chL rd lt ks).length ≤ 8)
    (k : ∀ μ', Fr (fun q => q = u) μ μ' → Hd (mA μ' u) (chL rd lt ks) → K (some (.int (nI (chL rd lt ks).length))) μ') : Cl E M_X2_choose [.ref a, .ref t, .int (nI lt.length), .ref u] μ K := by
  cases rd with
  | false =>
    obtain ⟨⟨kk, -⟩, -⟩ := hg
    obtain ⟨h4, h1, h8', hr⟩ := hk
    refine Cl.of0 3 pn_X2 (Nat.le_of_ble_eq_true rfl) ⟨rfl, rfl⟩ rfl ?_
    refine e_iconst (nI 0) 1 rfl dX2_choose_0 ic_0 ?_
    refine e_is4 3 rfl dX2_choose_1 (by decide) rfl ?_
    refine e_iconst (nI 0) 4 rfl dX2_choose_3 ic_0 ?_
    refine e_is5 6 rfl dX2_choose_4 (by decide) rfl ?_
    refine e_il5 8 rfl dX2_choose_6 ?_
    refine e_il2 9 rfl dX2_choose_8 ?_
    first | refine e_cmp_geN 73 12 (by decide) rfl dX2_choose_9 rfl rfl (by omega) (by omega) (fun g1 => ?_) (fun g1 => ?_) | refine e_cmp_ge 73 12 (by decide) rfl dX2_choose_9 (fun g1 => ?_) (fun g1 => ?_)
    · refine e_il4 75 rfl dX2_choose_73 ?_
      refine e_iret dX2_choose_75 rfl ?_
      exact k μ Fr.rf Hd.nil
    refine e_al0 13 rfl dX2_choose_12 ?_
    first | refine e_getIv 16 rfl dX2_choose_13 f_X2_28 (by assumption) (by first | assumption | (simp only [mN_sF, mK_sF, mL_sF, mF_sF, mB_sF, mA_sF, mJ_sF, mP_sF, mO_sF, mN_sB, mK_sB, mL_sB, mF_sB, mB_sB, mA_sB, mJ_sB, mP_sB, mO_sB, mN_sA, mK_sA, mL_sA, mF_sA, mB_sA, mA_sA, mJ_sA, mP_sA, mO_sA, mN_sJ, mK_sJ, mL_sJ, mF_sJ, mB_sJ, mA_sJ, mJ_sJ, mP_sJ, mO_sJ, mN_sP, mK_sP, mL_sP, mF_sP, mB_sP, mA_sP, mJ_sP, mP_sP, mO_sP, mN_sO, mK_sO, mL_sO, mF_sO, mB_sO, mA_sO, mJ_sO, mP_sO, mO_sO, up2, if_true, if_false, eq_self, ite_true, ite_false, reduceIte, Nat.add_left_cancel_iff, Nat.add_eq_left, Nat.left_eq_add, Nat.reduceEqDiff]; assumption) | (simp only [mN_sF, mK_sF, mL_sF, mF_sF, mB_sF, mA_sF, mJ_sF, mP_sF, mO_sF, mN_sB, mK_sB, mL_sB, mF_sB, mB_sB, mA_sB, mJ_sB, mP_sB, mO_sB, mN_sA, mK_sA, mL_sA, mF_sA, mB_sA, mA_sA, mJ_sA, mP_sA, mO_sA, mN_sJ, mK_sJ, mL_sJ, mF_sJ, mB_sJ, mA_sJ, mJ_sJ, mP_sJ, mO_sJ, mN_sP, mK_sP, mL_sP, mF_sP, mB_sP, mA_sP, mJ_sP, mP_sP, mO_sP, mN_sO, mK_sO, mL_sO, mF_sO, mB_sO, mA_sO, mJ_sO, mP_sO, mO_sO, up2, if_true, if_false, eq_self, ite_true, ite_false, reduceIte, Nat.add_left_cancel_iff, Nat.add_eq_left, Nat.left_eq_add, Nat.reduceEqDiff]; done)) ?_ | refine e_getI 16 rfl dX2_choose_13 f_X2_28 (by assumption) ?_
    first | refine e_if_eqB 73 19 (by decide) rfl dX2_choose_16 rfl (fun g2 => ?_) (fun g2 => ?_) | refine e_if_eqN 73 19 (by decide) rfl dX2_choose_16 rfl (by omega) (fun g2 => ?_) (fun g2 => ?_) | refine e_if_eq 73 19 (by decide) rfl dX2_choose_16 (fun g2 => ?_) (fun g2 => ?_)
    · refine e_il4 75 rfl dX2_choose_73 ?_
      refine e_iret dX2_choose_75 rfl ?_
      exact k μ Fr.rf Hd.nil
    · cases g2
  | true =>
    have hch : chL true lt ks = lt.flatMap (fun k => plcF k ks 0) := rfl
    obtain ⟨h4, h1, h8', hr⟩ := id hk
    obtain ⟨hHk, h7⟩ := hr rfl
    have fin : ∀ μ' cnt (x5 x6 : Option Value), Fr (fun q => q = u) μ μ' → cnt = chL true lt ks → Hd (mA μ' u) cnt → Ev E M_X2_choose 0 0 73 [some (.ref a), some (.ref t), some (.int (nI lt.length)), some (.ref u), some (.int (nI cnt.length)), x5, x6] [] μ' K := by
      intro μ' cnt x5 x6 hF he hHc
      subst he
      refine e_il4 75 rfl dX2_choose_73 ?_
      refine e_iret dX2_choose_75 rfl ?_
      exact k μ' hF hHc
    have inner : ∀ (i : Nat) (hi : i < lt.length), (∀ μ', Fr (fun q => q = u) μ μ' → Hd (mA μ' u) ((lt.take (i + 1)).flatMap (fun k => plcF k ks 0)) → Ev E M_X2_choose 0 0 67 [some (.ref a), some (.ref t), some (.int (nI lt.length)), some (.ref u), some (.int (nI ((lt.take (i + 1)).flatMap (fun k => plcF k ks 0)).length)), some (.int (nI i)), some (.int (nI ks.length))] [] μ' K) →
        ∀ (fu w : Nat), w + fu = ks.length → ∀ (cnt : List Nat) μ', Fr (fun q => q = u) μ μ' → Hd (mA μ' u) cnt → cnt ++ plcF lt[i] (ks.drop w) w = (lt.take (i + 1)).flatMap (fun k => plcF k ks 0) → Ev E M_X2_choose 0 0 22 [some (.ref a), some (.ref t), some (.int (nI lt.length)), some (.ref u), some (.int (nI cnt.length)), some (.int (nI i)), some (.int (nI w))] [] μ' K := by
      intro i hi next fu
      induction fu with
      | zero =>
        intro w hw cnt μ' hF hHc hcnt
        have kk' := (hg.fr hF).1.1
        have hsz : mF μ' a 1 = nI ks.length := by
          by_cases e : a = u
          · subst e; rw [hg.1.1] at hku; cases hku
          · rw [(hF.2.2.2.2.2 a e).1]; exact h1
        have ew : w = ks.length := by omega
        subst ew
        refine e_il6 24 rfl dX2_choose_22 ?_
        refine e_al0 25 rfl dX2_choose_24 ?_
        first | refine e_getIv 28 rfl dX2_choose_25 f_X2_15 (by assumption) (by first | assumption | (simp only [mN_sF, mK_sF, mL_sF, mF_sF, mB_sF, mA_sF, mJ_sF, mP_sF, mO_sF, mN_sB, mK_sB, mL_sB, mF_sB, mB_sB, mA_sB, mJ_sB, mP_sB, mO_sB, mN_sA, mK_sA, mL_sA, mF_sA, mB_sA, mA_sA, mJ_sA, mP_sA, mO_sA, mN_sJ, mK_sJ, mL_sJ, mF_sJ, mB_sJ, mA_sJ, mJ_sJ, mP_sJ, mO_sJ, mN_sP, mK_sP, mL_sP, mF_sP, mB_sP, mA_sP, mJ_sP, mP_sP, mO_sP, mN_sO, mK_sO, mL_sO, mF_sO, mB_sO, mA_sO, mJ_sO, mP_sO, mO_sO, up2, if_true, if_false, eq_self, ite_true, ite_false, reduceIte, Nat.add_left_cancel_iff, Nat.add_eq_left, Nat.left_eq_add, Nat.reduceEqDiff]; assumption) | (simp only [mN_sF, mK_sF, mL_sF, mF_sF, mB_sF, mA_sF, mJ_sF, mP_sF, mO_sF, mN_sB, mK_sB, mL_sB, mF_sB, mB_sB, mA_sB, mJ_sB, mP_sB, mO_sB, mN_sA, mK_sA, mL_sA, mF_sA, mB_sA, mA_sA, mJ_sA, mP_sA, mO_sA, mN_sJ, mK_sJ, mL_sJ, mF_sJ, mB_sJ, mA_sJ, mJ_sJ, mP_sJ, mO_sJ, mN_sP, mK_sP, mL_sP, mF_sP, mB_sP, mA_sP, mJ_sP, mP_sP, mO_sP, mN_sO, mK_sO, mL_sO, mF_sO, mB_sO, mA_sO, mJ_sO, mP_sO, mO_sO, up2, if_true, if_false, eq_self, ite_true, ite_false, reduceIte, Nat.add_left_cancel_iff, Nat.add_eq_left, Nat.left_eq_add, Nat.reduceEqDiff]; done)) ?_ | refine e_getI 28 rfl dX2_choose_25 f_X2_15 (by assumption) ?_
        first | refine e_cmp_geN 67 31 (by decide) rfl dX2_choose_28 rfl rfl (by omega) (by omega) (fun g1 => ?_) (fun g1 => ?_) | refine e_cmp_ge 67 31 (by decide) rfl dX2_choose_28 (fun g1 => ?_) (fun g1 => ?_)
        · rw [List.drop_eq_nil_of_le (Nat.le_refl _), plcF, List.append_nil] at hcnt
          subst hcnt
          exact next μ' hF hHc
        · omega
      | succ fu ih =>
        intro w hw cnt μ' hF hHc hcnt
        obtain ⟨⟨kk', p2, p5, p6, p9, kk1, ll1, kk2, ll2, kk3, ll3⟩, hLn, hWs⟩ := hg.fr hF
        have hau : a ≠ u := fun e => by rw [e] at hg; rw [hg.1.1] at hku; cases hku
        have hsz : mF μ' a 1 = nI ks.length := by rw [(hF.2.2.2.2.2 a hau).1]; exact h1
        have hkt' : mK μ' t = 13 := by rw [hF.2.1]; exact hkt
        have hlt' : mL μ' t = n := by rw [hF.2.2.1]; exact hlt
        have hku' : mK μ' u = 13 := by rw [hF.2.1]; exact hku
        have hlu' : mL μ' u = 8 := by rw [hF.2.2.1]; exact hlu
        have hwk : w < ks.length := by omega
        have hA1 : mA μ' (a + 2) w = nI ks[w] := by rw [(hF.2.2.2.2.2 (a + 2) (fun e => hua e.symm)).2.2.1]; exact hHk.at hwk
        have hA2 : mA μ' t i = nI lt[i] := by rw [(hF.2.2.2.2.2 t (fun e => hut e.symm)).2.2.1]; exact hH.at hi
        have b1 := h7 _ (List.getElem_mem hwk)
        have b2 := hl7 _ (List.getElem_mem hi)
        rw [plcF_drop hwk] at hcnt
        have hpre : ((lt.take (i + 1)).flatMap (fun k => plcF k ks 0)).length ≤ 8 := by
          refine Nat.le_trans ?_ h8
          rw [hch]
          conv => rhs; rw [← List.take_append_drop (i + 1) lt, List.flatMap_append, List.length_append]
          omega
        have hcl := congrArg List.length hcnt
        rw [List.length_append] at hcl
        refine e_il6 24 rfl dX2_choose_22 ?_
        refine e_al0 25 rfl dX2_choose_24 ?_
        first | refine e_getIv 28 rfl dX2_choose_25 f_X2_15 (by assumption) (by first | assumption | (simp only [mN_sF, mK_sF, mL_sF, mF_sF, mB_sF, mA_sF, mJ_sF, mP_sF, mO_sF, mN_sB, mK_sB, mL_sB, mF_sB, mB_sB, mA_sB, mJ_sB, mP_sB, mO_sB, mN_sA, mK_sA, mL_sA, mF_sA, mB_sA, mA_sA, mJ_sA, mP_sA, mO_sA, mN_sJ, mK_sJ, mL_sJ, mF_sJ, mB_sJ, mA_sJ, mJ_sJ, mP_sJ, mO_sJ, mN_sP, mK_sP, mL_sP, mF_sP, mB_sP, mA_sP, mJ_sP, mP_sP, mO_sP, mN_sO, mK_sO, mL_sO, mF_sO, mB_sO, mA_sO, mJ_sO, mP_sO, mO_sO, up2, if_true, if_false, eq_self, ite_true, ite_false, reduceIte, Nat.add_left_cancel_iff, Nat.add_eq_left, Nat.left_eq_add, Nat.reduceEqDiff]; assumption) | (simp only [mN_sF, mK_sF, mL_sF, mF_sF, mB_sF, mA_sF, mJ_sF, mP_sF, mO_sF, mN_sB, mK_sB, mL_sB, mF_sB, mB_sB, mA_sB, mJ_sB, mP_sB, mO_sB, mN_sA, mK_sA, mL_sA, mF_sA, mB_sA, mA_sA, mJ_sA, mP_sA, mO_sA, mN_sJ, mK_sJ, mL_sJ, mF_sJ, mB_sJ, mA_sJ, mJ_sJ, mP_sJ, mO_sJ, mN_sP, mK_sP, mL_sP, mF_sP, mB_sP, mA_sP, mJ_sP, mP_sP, mO_sP, mN_sO, mK_sO, mL_sO, mF_sO, mB_sO, mA_sO, mJ_sO, mP_sO, mO_sO, up2, if_true, if_false, eq_self, ite_true, ite_false, reduceIte, Nat.add_left_cancel_iff, Nat.add_eq_left, Nat.left_eq_add, Nat.reduceEqDiff]; done)) ?_ | refine e_getI 28 rfl dX2_choose_25 f_X2_15 (by assumption) ?_
        first | refine e_cmp_geN 67 31 (by decide) rfl dX2_choose_28 rfl rfl (by omega) (by omega) (fun g1 => ?_) (fun g1 => ?_) | refine e_cmp_ge 67 31 (by decide) rfl dX2_choose_28 (fun g1 => ?_) (fun g1 => ?_)
        · omega
        refine e_al0 32 rfl dX2_choose_31 ?_
        refine e_getR 35 rfl dX2_choose_32 f_X2_31 (by assumption) (by assumption) ?_
        refine e_il6 37 rfl dX2_choose_35 ?_
        first | refine e_ialdv 38 rfl dX2_choose_37 (by assumption) (by assumption) (by first | rfl | simp only [pk_mul, nI_add]) (by omega) (by omega) (by first | assumption | (simp only [mN_sF, mK_sF, mL_sF, mF_sF, mB_sF, mA_sF, mJ_sF, mP_sF, mO_sF, mN_sB, mK_sB, mL_sB, mF_sB, mB_sB, mA_sB, mJ_sB, mP_sB, mO_sB, mN_sA, mK_sA, mL_sA, mF_sA, mB_sA, mA_sA, mJ_sA, mP_sA, mO_sA, mN_sJ, mK_sJ, mL_sJ, mF_sJ, mB_sJ, mA_sJ, mJ_sJ, mP_sJ, mO_sJ, mN_sP, mK_sP, mL_sP, mF_sP, mB_sP, mA_sP, mJ_sP, mP_sP, mO_sP, mN_sO, mK_sO, mL_sO, mF_sO, mB_sO, mA_sO, mJ_sO, mP_sO, mO_sO, up2, if_true, if_false, eq_self, ite_true, ite_false, reduceIte, Nat.add_left_cancel_iff, Nat.add_eq_left, Nat.left_eq_add, Nat.reduceEqDiff]; assumption) | (simp only [mN_sF, mK_sF, mL_sF, mF_sF, mB_sF, mA_sF, mJ_sF, mP_sF, mO_sF, mN_sB, mK_sB, mL_sB, mF_sB, mB_sB, mA_sB, mJ_sB, mP_sB, mO_sB, mN_sA, mK_sA, mL_sA, mF_sA, mB_sA, mA_sA, mJ_sA, mP_sA, mO_sA, mN_sJ, mK_sJ, mL_sJ, mF_sJ, mB_sJ, mA_sJ, mJ_sJ, mP_sJ, mO_sJ, mN_sP, mK_sP, mL_sP, mF_sP, mB_sP, mA_sP, mJ_sP, mP_sP, mO_sP, mN_sO, mK_sO, mL_sO, mF_sO, mB_sO, mA_sO, mJ_sO, mP_sO, mO_sO, up2, if_true, if_false, eq_self, ite_true, ite_false, reduceIte, Nat.add_left_cancel_iff, Nat.add_eq_left, Nat.left_eq_add, Nat.reduceEqDiff]; done)) ?_ | refine e_iald 38 rfl dX2_choose_37 (by assumption) (by assumption) (by first | rfl | simp only [pk_mul, nI_add]) (by omega) (by omega) ?_
        refine e_al1 39 rfl dX2_choose_38 ?_
        refine e_il5 41 rfl dX2_choose_39 ?_
        first | refine e_ialdv 42 rfl dX2_choose_41 (by assumption) (by assumption) (by first | rfl | simp only [pk_mul, nI_add]) (by omega) (by omega) (by first | assumption | (simp only [mN_sF, mK_sF, mL_sF, mF_sF, mB_sF, mA_sF, mJ_sF, mP_sF, mO_sF, mN_sB, mK_sB, mL_sB, mF_sB, mB_sB, mA_sB, mJ_sB, mP_sB, mO_sB, mN_sA, mK_sA, mL_sA, mF_sA, mB_sA, mA_sA, mJ_sA, mP_sA, mO_sA, mN_sJ, mK_sJ, mL_sJ, mF_sJ, mB_sJ, mA_sJ, mJ_sJ, mP_sJ, mO_sJ, mN_sP, mK_sP, mL_sP, mF_sP, mB_sP, mA_sP, mJ_sP, mP_sP, mO_sP, mN_sO, mK_sO, mL_sO, mF_sO, mB_sO, mA_sO, mJ_sO, mP_sO, mO_sO, up2, if_true, if_false, eq_self, ite_true, ite_false, reduceIte, Nat.add_left_cancel_iff, Nat.add_eq_left, Nat.left_eq_add, Nat.reduceEqDiff]; assumption) | (simp only [mN_sF, mK_sF, mL_sF, mF_sF, mB_sF, mA_sF, mJ_sF, mP_sF, mO_sF, mN_sB, mK_sB, mL_sB, mF_sB, mB_sB, mA_sB, mJ_sB, mP_sB, mO_sB, mN_sA, mK_sA, mL_sA, mF_sA, mB_sA, mA_sA, mJ_sA, mP_sA, mO_sA, mN_sJ, mK_sJ, mL_sJ, mF_sJ, mB_sJ, mA_sJ, mJ_sJ, mP_sJ, mO_sJ, mN_sP, mK_sP, mL_sP, mF_sP, mB_sP, mA_sP, mJ_sP, mP_sP, mO_sP, mN_sO, mK_sO, mL_sO, mF_sO, mB_sO, mA_sO, mJ_sO, mP_sO, mO_sO, up2, if_true, if_false, eq_self, ite_true, ite_false, reduceIte, Nat.add_left_cancel_iff, Nat.add_eq_left, Nat.left_eq_add, Nat.reduceEqDiff]; done)) ?_ | refine e_iald 42 rfl dX2_choose_41 (by assumption) (by assumption) (by first | rfl | simp only [pk_mul, nI_add]) (by omega) (by omega) ?_
        first | refine e_cmp_neN 61 45 (by decide) rfl dX2_choose_42 rfl rfl (by omega) (by omega) (fun g2 => ?_) (fun g2 => ?_) | refine e_cmp_ne 61 45 (by decide) rfl dX2_choose_42 (fun g2 => ?_) (fun g2 => ?_)
        · refine e_ii6 (nI (_ + 1)) 64 rfl dX2_choose_61 (ii1 _) rfl ?_
          refine e_goto 22 (by decide) dX2_choose_64 ?_
          rw [if_neg g2] at hcnt
          exact ih (w + 1) (by omega) cnt μ' hF hHc hcnt
        rw [if_pos g2] at hcnt hcl
        rw [List.length_cons] at hcl
        refine e_il4 47 rfl dX2_choose_45 ?_
        refine e_al3 48 rfl dX2_choose_47 ?_
        refine e_alen 49 rfl dX2_choose_48 (by first | exact Or.inl (by assumption) | exact Or.inr (Or.inl (by assumption)) | exact Or.inr (Or.inr (by assumption))) (by assumption) ?_
        first | refine e_cmp_geN 61 52 (by decide) rfl dX2_choose_49 rfl rfl (by omega) (by omega) (fun g3 => ?_) (fun g3 => ?_) | refine e_cmp_ge 61 52 (by decide) rfl dX2_choose_49 (fun g3 => ?_) (fun g3 => ?_)
        · omega
        refine e_al3 53 rfl dX2_choose_52 ?_
        refine e_il4 55 rfl dX2_choose_53 ?_
        refine e_il6 57 rfl dX2_choose_55 ?_
        refine e_iast 58 rfl dX2_choose_57 (by assumption) (by assumption) (by first | rfl | simp only [pk_mul, nI_add]) (by omega) (by omega) ?_
        refine e_ii4 (nI (_ + 1)) 61 rfl dX2_choose_58 (ii1 _) rfl ?_
        refine e_ii6 (nI (_ + 1)) 64 rfl dX2_choose_61 (ii1 _) rfl ?_
        refine e_goto 22 (by decide) dX2_choose_64 ?_
        have e9 : (cnt ++ [w]).length = cnt.length + 1 := by simp
        rw [← e9]
        refine ih (w + 1) (by omega) (cnt ++ [w]) _ (hF.sA rfl _ _) (hHc.push (fun j hj => ?_) ?_) (by rw [← hcnt]; simp)
        · show up2 _ u _ _ u j = _
          rw [up2_k (by omega)]
        · show up2 _ u _ _ u _ = _
          rw [up2_s]
    have outer : ∀ (fu i : Nat), i + fu = lt.length → ∀ (x6 : Option Value) μ', Fr (fun q => q = u) μ μ' → Hd (mA μ' u) ((lt.take i).flatMap (fun k => plcF k ks 0)) → Ev E M_X2_choose 0 0 6 [some (.ref a), some (.ref t), some (.int (nI lt.length)), some (.ref u), some (.int (nI ((lt.take i).flatMap (fun k => plcF k ks 0)).length)), some (.int (nI i)), x6] [] μ' K := by
      intro fu
      induction fu with
      | zero =>
        intro i hi x6 μ' hF hHc
        refine e_il5 8 rfl dX2_choose_6 ?_
        refine e_il2 9 rfl dX2_choose_8 ?_
        first | refine e_cmp_geN 73 12 (by decide) rfl dX2_choose_9 rfl rfl (by omega) (by omega) (fun g1 => ?_) (fun g1 => ?_) | refine e_cmp_ge 73 12 (by decide) rfl dX2_choose_9 (fun g1 => ?_) (fun g1 => ?_)
        · exact fin μ' _ _ _ hF (by rw [hch, List.take_of_length_le (by omega)]) hHc
        · omega
      | succ fu ih =>
        intro i hi x6 μ' hF hHc
        have kk' := (hg.fr hF).1.1
        have hau : a ≠ u := fun e => by rw [e] at hg; rw [hg.1.1] at hku; cases hku
        have hrd : mF μ' a 4 = bI true := by rw [(hF.2.2.2.2.2 a hau).1]; exact h4
        have hi' : i < lt.length := by omega
        refine e_il5 8 rfl dX2_choose_6 ?_
        refine e_il2 9 rfl dX2_choose_8 ?_
        first | refine e_cmp_geN 73 12 (by decide) rfl dX2_choose_9 rfl rfl (by omega) (by omega) (fun g1 => ?_) (fun g1 => ?_) | refine e_cmp_ge 73 12 (by decide) rfl dX2_choose_9 (fun g1 => ?_) (fun g1 => ?_)
        · omega
        refine e_al0 13 rfl dX2_choose_12 ?_
        first | refine e_getIv 16 rfl dX2_choose_13 f_X2_28 (by assumption) (by first | assumption | (simp only [mN_sF, mK_sF, mL_sF, mF_sF, mB_sF, mA_sF, mJ_sF, mP_sF, mO_sF, mN_sB, mK_sB, mL_sB, mF_sB, mB_sB, mA_sB, mJ_sB, mP_sB, mO_sB, mN_sA, mK_sA, mL_sA, mF_sA, mB_sA, mA_sA, mJ_sA, mP_sA, mO_sA, mN_sJ, mK_sJ, mL_sJ, mF_sJ, mB_sJ, mA_sJ, mJ_sJ, mP_sJ, mO_sJ, mN_sP, mK_sP, mL_sP, mF_sP, mB_sP, mA_sP, mJ_sP, mP_sP, mO_sP, mN_sO, mK_sO, mL_sO, mF_sO, mB_sO, mA_sO, mJ_sO, mP_sO, mO_sO, up2, if_true, if_false, eq_self, ite_true, ite_false, reduceIte, Nat.add_left_cancel_iff, Nat.add_eq_left, Nat.left_eq_add, Nat.reduceEqDiff]; assumption) | (simp only [mN_sF, mK_sF, mL_sF, mF_sF, mB_sF, mA_sF, mJ_sF, mP_sF, mO_sF, mN_sB, mK_sB, mL_sB, mF_sB, mB_sB, mA_sB, mJ_sB, mP_sB, mO_sB, mN_sA, mK_sA, mL_sA, mF_sA, mB_sA, mA_sA, mJ_sA, mP_sA, mO_sA, mN_sJ, mK_sJ, mL_sJ, mF_sJ, mB_sJ, mA_sJ, mJ_sJ, mP_sJ, mO_sJ, mN_sP, mK_sP, mL_sP, mF_sP, mB_sP, mA_sP, mJ_sP, mP_sP, mO_sP, mN_sO, mK_sO, mL_sO, mF_sO, mB_sO, mA_sO, mJ_sO, mP_sO, mO_sO, up2, if_true, if_false, eq_self, ite_true, ite_false, reduceIte, Nat.add_left_cancel_iff, Nat.add_eq_left, Nat.left_eq_add, Nat.reduceEqDiff]; done)) ?_ | refine e_getI 16 rfl dX2_choose_13 f_X2_28 (by assumption) ?_
        first | refine e_if_eqB 73 19 (by decide) rfl dX2_choose_16 rfl (fun g2 => ?_) (fun g2 => ?_) | refine e_if_eqN 73 19 (by decide) rfl dX2_choose_16 rfl (by omega) (fun g2 => ?_) (fun g2 => ?_) | refine e_if_eq 73 19 (by decide) rfl dX2_choose_16 (fun g2 => ?_) (fun g2 => ?_)
        · cases g2
        refine e_iconst (nI 0) 20 rfl dX2_choose_19 ic_0 ?_
        refine e_is6 22 rfl dX2_choose_20 (by decide) rfl ?_
        refine inner i hi' (fun μ2 hF2 hH2 => ?_) ks.length 0 (by omega) _ μ' hF hHc ?_
        · refine e_ii5 (nI (_ + 1)) 70 rfl dX2_choose_67 (ii1 _) rfl ?_
          refine e_goto 6 (by decide) dX2_choose_70 ?_
          exact ih (i + 1) (by omega) _ μ2 hF2 hH2
        · rw [List.take_succ_eq_append_getElem hi', List.flatMap_append, List.flatMap_singleton]; rfl
    refine Cl.of0 3 pn_X2 (Nat.le_of_ble_eq_true rfl) ⟨rfl, rfl⟩ rfl ?_
    refine e_iconst (nI 0) 1 rfl dX2_choose_0 ic_0 ?_
    refine e_is4 3 rfl dX2_choose_1 (by decide) rfl ?_
    refine e_iconst (nI 0) 4 rfl dX2_choose_3 ic_0 ?_
    refine e_is5 6 rfl dX2_choose_4 (by decide) rfl ?_
    exact outer lt.length 0 (by omega) none μ Fr.rf Hd.nil
/-- alikeFolded -/
theorem c_alikeFolded {a o : Nat} {fa fo : List (List Nat)} (hg : Ng μ a) (ho : Ng μ o) (ha : Nf μ a fa) (hb : Nf μ o fo) (k : K (some (.int (bI (decide (fa = fo))))) μ) : Cl E M_X2_alikeFolded [.ref a, .ref o] μ K := by
  obtain ⟨⟨kk, p2, p5, p6, p9, kk1, ll1, kk2, ll2, kk3, ll3⟩, hLn, hWs⟩ := hg
  obtain ⟨⟨ok, o2, o5, o6, o9, ok1, ol1, ok2, ol2, ok3, ol3⟩, oLn, oWs⟩ := ho
  obtain ⟨a1, a8, aw⟩ := ha
  obtain ⟨b1, b8, bw⟩ := hb
  have no : ¬ fa = fo → K (some (.int (nI 0))) μ := fun h => by rw [← bI_f (b := decide (fa = fo)) (by simp [h])]; exact k
  refine Cl.of0 1 pn_X2 (Nat.le_of_ble_eq_true rfl) ⟨rfl, rfl⟩ rfl ?_
  refine e_al0 1 rfl dX2_alikeFolded_0 ?_
  first | refine e_getIv 4 rfl dX2_alikeFolded_1 f_X2_15 (by assumption) (by first | assumption | (simp only [mN_sF, mK_sF, mL_sF, mF_sF, mB_sF, mA_sF, mJ_sF, mP_sF, mO_sF, mN_sB, mK_sB, mL_sB, mF_sB, mB_sB, mA_sB, mJ_sB, mP_sB, mO_sB, mN_sA, mK_sA, mL_sA, mF_sA, mB_sA, mA_sA, mJ_sA, mP_sA, mO_sA, mN_sJ, mK_sJ, mL_sJ, mF_sJ, mB_sJ, mA_sJ, mJ_sJ, mP_sJ, mO_sJ, mN_sP, mK_sP, mL_sP, mF_sP, mB_sP, mA_sP, mJ_sP, mP_sP, mO_sP, mN_sO, mK_sO, mL_sO, mF_sO, mB_sO, mA_sO, mJ_sO, mP_sO, mO_sO, up2, if_true, if_false, eq_self, ite_true, ite_false, reduceIte, Nat.add_left_cancel_iff, Nat.add_eq_left, Nat.left_eq_add, Nat.reduceEqDiff]; assumption) | (simp only [mN_sF, mK_sF, mL_sF, mF_sF, mB_sF, mA_sF, mJ_sF, mP_sF, mO_sF, mN_sB, mK_sB, mL_sB, mF_sB, mB_sB, mA_sB, mJ_sB, mP_sB, mO_sB, mN_sA, mK_sA, mL_sA, mF_sA, mB_sA, mA_sA, mJ_sA, mP_sA, mO_sA, mN_sJ, mK_sJ, mL_sJ, mF_sJ, mB_sJ, mA_sJ, mJ_sJ, mP_sJ, mO_sJ, mN_sP, mK_sP, mL_sP, mF_sP, mB_sP, mA_sP, mJ_sP, mP_sP, mO_sP, mN_sO, mK_sO, mL_sO, mF_sO, mB_sO, mA_sO, mJ_sO, mP_sO, mO_sO, up2, if_true, if_false, eq_self, ite_true, ite_false, reduceIte, Nat.add_left_cancel_iff, Nat.add_eq_left, Nat.left_eq_add, Nat.reduceEqDiff]; done)) ?_ | refine e_getI 4 rfl dX2_alikeFolded_1 f_X2_15 (by assumption) ?_
  refine e_al1 5 rfl dX2_alikeFolded_4 ?_
  first | refine e_getIv 8 rfl dX2_alikeFolded_5 f_X2_15 (by assumption) (by first | assumption | (simp only [mN_sF, mK_sF, mL_sF, mF_sF, mB_sF, mA_sF, mJ_sF, mP_sF, mO_sF, mN_sB, mK_sB, mL_sB, mF_sB, mB_sB, mA_sB, mJ_sB, mP_sB, mO_sB, mN_sA, mK_sA, mL_sA, mF_sA, mB_sA, mA_sA, mJ_sA, mP_sA, mO_sA, mN_sJ, mK_sJ, mL_sJ, mF_sJ, mB_sJ, mA_sJ, mJ_sJ, mP_sJ, mO_sJ, mN_sP, mK_sP, mL_sP, mF_sP, mB_sP, mA_sP, mJ_sP, mP_sP, mO_sP, mN_sO, mK_sO, mL_sO, mF_sO, mB_sO, mA_sO, mJ_sO, mP_sO, mO_sO, up2, if_true, if_false, eq_self, ite_true, ite_false, reduceIte, Nat.add_left_cancel_iff, Nat.add_eq_left, Nat.left_eq_add, Nat.reduceEqDiff]; assumption) | (simp only [mN_sF, mK_sF, mL_sF, mF_sF, mB_sF, mA_sF, mJ_sF, mP_sF, mO_sF, mN_sB, mK_sB, mL_sB, mF_sB, mB_sB, mA_sB, mJ_sB, mP_sB, mO_sB, mN_sA, mK_sA, mL_sA, mF_sA, mB_sA, mA_sA, mJ_sA, mP_sA, mO_sA, mN_sJ, mK_sJ, mL_sJ, mF_sJ, mB_sJ, mA_sJ, mJ_sJ, mP_sJ, mO_sJ, mN_sP, mK_sP, mL_sP, mF_sP, mB_sP, mA_sP, mJ_sP, mP_sP, mO_sP, mN_sO, mK_sO, mL_sO, mF_sO, mB_sO, mA_sO, mJ_sO, mP_sO, mO_sO, up2, if_true, if_false, eq_self, ite_true, ite_false, reduceIte, Nat.add_left_cancel_iff, Nat.add_eq_left, Nat.left_eq_add, Nat.reduceEqDiff]; done)) ?_ | refine e_getI 8 rfl dX2_alikeFolded_5 f_X2_15 (by assumption) ?_
  first | refine e_cmp_eqN 13 11 (by decide) rfl dX2_alikeFolded_8 rfl rfl (by omega) (by omega) (fun g1 => ?_) (fun g1 => ?_) | refine e_cmp_eq 13 11 (by decide) rfl dX2_alikeFolded_8 (fun g1 => ?_) (fun g1 => ?_)
  rotate_left
  · refine e_iconst (nI 0) 12 rfl dX2_alikeFolded_11 ic_0 ?_
    refine e_zret dX2_alikeFolded_12 rfl (by first | exact z0 | exact z1 | exact bI01 _ | assumption) ?_
    exact no (fun q => g1 (by rw [q]))
  refine e_iconst (nI 0) 14 rfl dX2_alikeFolded_13 ic_0 ?_
  refine e_is2 15 rfl dX2_alikeFolded_14 (by decide) rfl ?_
  have loop : ∀ (fu i : Nat), i + fu = fa.length → fa.take i = fo.take i → Ev E M_X2_alikeFolded 0 0 15 [some (.ref a), some (.ref o), some (.int (nI i))] [] μ K := by
    intro fu
    induction fu with
    | zero =>
      intro i hi he
      refine e_il2 16 rfl dX2_alikeFolded_15 ?_
      refine e_al0 17 rfl dX2_alikeFolded_16 ?_
      first | refine e_getIv 20 rfl dX2_alikeFolded_17 f_X2_15 (by assumption) (by first | assumption | (simp only [mN_sF, mK_sF, mL_sF, mF_sF, mB_sF, mA_sF, mJ_sF, mP_sF, mO_sF, mN_sB, mK_sB, mL_sB, mF_sB, mB_sB, mA_sB, mJ_sB, mP_sB, mO_sB, mN_sA, mK_sA, mL_sA, mF_sA, mB_sA, mA_sA, mJ_sA, mP_sA, mO_sA, mN_sJ, mK_sJ, mL_sJ, mF_sJ, mB_sJ, mA_sJ, mJ_sJ, mP_sJ, mO_sJ, mN_sP, mK_sP, mL_sP, mF_sP, mB_sP, mA_sP, mJ_sP, mP_sP, mO_sP, mN_sO, mK_sO, mL_sO, mF_sO, mB_sO, mA_sO, mJ_sO, mP_sO, mO_sO, up2, if_true, if_false, eq_self, ite_true, ite_false, reduceIte, Nat.add_left_cancel_iff, Nat.add_eq_left, Nat.left_eq_add, Nat.reduceEqDiff]; assumption) | (simp only [mN_sF, mK_sF, mL_sF, mF_sF, mB_sF, mA_sF, mJ_sF, mP_sF, mO_sF, mN_sB, mK_sB, mL_sB, mF_sB, mB_sB, mA_sB, mJ_sB, mP_sB, mO_sB, mN_sA, mK_sA, mL_sA, mF_sA, mB_sA, mA_sA, mJ_sA, mP_sA, mO_sA, mN_sJ, mK_sJ, mL_sJ, mF_sJ, mB_sJ, mA_sJ, mJ_sJ, mP_sJ, mO_sJ, mN_sP, mK_sP, mL_sP, mF_sP, mB_sP, mA_sP, mJ_sP, mP_sP, mO_sP, mN_sO, mK_sO, mL_sO, mF_sO, mB_sO, mA_sO, mJ_sO, mP_sO, mO_sO, up2, if_true, if_false, eq_self, ite_true, ite_false, reduceIte, Nat.add_left_cancel_iff, Nat.add_eq_left, Nat.left_eq_add, Nat.reduceEqDiff]; done)) ?_ | refine e_getI 20 rfl dX2_alikeFolded_17 f_X2_15 (by assumption) ?_
      first | refine e_cmp_geN 49 23 (by decide) rfl dX2_alikeFolded_20 rfl rfl (by omega) (by omega) (fun g2 => ?_) (fun g2 => ?_) | refine e_cmp_ge 49 23 (by decide) rfl dX2_alikeFolded_20 (fun g2 => ?_) (fun g2 => ?_)
      · refine e_iconst (nI 1) 50 rfl dX2_alikeFolded_49 ic_1 ?_
        refine e_zret dX2_alikeFolded_50 rfl (by first | exact z0 | exact z1 | exact bI01 _ | assumption) ?_
        rw [List.take_of_length_le (by omega), List.take_of_length_le (by omega)] at he
        rw [← bI_t (b := decide (fa = fo)) (by simp [he])]
        exact k
      · omega
    | succ fu ih =>
      intro i hi he
      have h1 : i < fa.length := by omega
      have h2 : i < fo.length := by omega
      obtain ⟨q1, q2⟩ := hWs i (by omega)
      obtain ⟨r1, r2⟩ := oWs i (by omega)
      have qk := q2.1
      refine e_il2 16 rfl dX2_alikeFolded_15 ?_
      refine e_al0 17 rfl dX2_alikeFolded_16 ?_
      first | refine e_getIv 20 rfl dX2_alikeFolded_17 f_X2_15 (by assumption) (by first | assumption | (simp only [mN_sF, mK_sF, mL_sF, mF_sF, mB_sF, mA_sF, mJ_sF, mP_sF, mO_sF, mN_sB, mK_sB, mL_sB, mF_sB, mB_sB, mA_sB, mJ_sB, mP_sB, mO_sB, mN_sA, mK_sA, mL_sA, mF_sA, mB_sA, mA_sA, mJ_sA, mP_sA, mO_sA, mN_sJ, mK_sJ, mL_sJ, mF_sJ, mB_sJ, mA_sJ, mJ_sJ, mP_sJ, mO_sJ, mN_sP, mK_sP, mL_sP, mF_sP, mB_sP, mA_sP, mJ_sP, mP_sP, mO_sP, mN_sO, mK_sO, mL_sO, mF_sO, mB_sO, mA_sO, mJ_sO, mP_sO, mO_sO, up2, if_true, if_false, eq_self, ite_true, ite_false, reduceIte, Nat.add_left_cancel_iff, Nat.add_eq_left, Nat.left_eq_add, Nat.reduceEqDiff]; assumption) | (simp only [mN_sF, mK_sF, mL_sF, mF_sF, mB_sF, mA_sF, mJ_sF, mP_sF, mO_sF, mN_sB, mK_sB, mL_sB, mF_sB, mB_sB, mA_sB, mJ_sB, mP_sB, mO_sB, mN_sA, mK_sA, mL_sA, mF_sA, mB_sA, mA_sA, mJ_sA, mP_sA, mO_sA, mN_sJ, mK_sJ, mL_sJ, mF_sJ, mB_sJ, mA_sJ, mJ_sJ, mP_sJ, mO_sJ, mN_sP, mK_sP, mL_sP, mF_sP, mB_sP, mA_sP, mJ_sP, mP_sP, mO_sP, mN_sO, mK_sO, mL_sO, mF_sO, mB_sO, mA_sO, mJ_sO, mP_sO, mO_sO, up2, if_true, if_false, eq_self, ite_true, ite_false, reduceIte, Nat.add_left_cancel_iff, Nat.add_eq_left, Nat.left_eq_add, Nat.reduceEqDiff]; done)) ?_ | refine e_getI 20 rfl dX2_alikeFolded_17 f_X2_15 (by assumption) ?_
      first | refine e_cmp_geN 49 23 (by decide) rfl dX2_alikeFolded_20 rfl rfl (by omega) (by omega) (fun g2 => ?_) (fun g2 => ?_) | refine e_cmp_ge 49 23 (by decide) rfl dX2_alikeFolded_20 (fun g2 => ?_) (fun g2 => ?_)
      · omega
      refine e_al0 24 rfl dX2_alikeFolded_23 ?_
      refine e_getR 27 rfl dX2_alikeFolded_24 f_X2_20 (by assumption) (by assumption) ?_
      refine e_il2 28 rfl dX2_alikeFolded_27 ?_
      refine e_aald 29 rfl dX2_alikeFolded_28 (by assumption) (by decide) (by assumption) (by first | rfl | simp only [pk_mul, nI_add]) (by omega) (by omega) (by assumption) ?_
      refine e_al1 30 rfl dX2_alikeFolded_29 ?_
      refine e_getR 33 rfl dX2_alikeFolded_30 f_X2_20 (by assumption) (by assumption) ?_
      refine e_il2 34 rfl dX2_alikeFolded_33 ?_
      refine e_aald 35 rfl dX2_alikeFolded_34 (by assumption) (by decide) (by assumption) (by first | rfl | simp only [pk_mul, nI_add]) (by omega) (by omega) (by assumption) ?_
      refine e_invV0 [_] 38 rfl dX2_alikeFolded_35 k_X2_60 mo_X8_alike rm_X2_alikeFolded_X8_alike ⟨rfl, rfl⟩ rfl rfl (by assumption) (Nat.le_of_ble_eq_true rfl) ?_
      refine c_alike q2 r2 (aw i _ (List.getElem?_eq_getElem h1)) (bw i _ (List.getElem?_eq_getElem h2)) ?_
      first | refine e_if_neB 43 41 (by decide) rfl dX2_alikeFolded_38 rfl (fun g3 => ?_) (fun g3 => ?_) | refine e_if_neN 43 41 (by decide) rfl dX2_alikeFolded_38 rfl (by omega) (fun g3 => ?_) (fun g3 => ?_) | refine e_if_ne 43 41 (by decide) rfl dX2_alikeFolded_38 (fun g3 => ?_) (fun g3 => ?_)
      · refine e_ii2 (nI (_ + 1)) 46 rfl dX2_alikeFolded_43 (ii1 _) rfl ?_
        refine e_goto 15 (by decide) dX2_alikeFolded_46 ?_
        refine ih (i + 1) (by omega) ?_
        rw [List.take_succ_eq_append_getElem h1, List.take_succ_eq_append_getElem h2, he, of_decide_eq_true g3]
      · refine e_iconst (nI 0) 42 rfl dX2_alikeFolded_41 ic_0 ?_
        refine e_zret dX2_alikeFolded_42 rfl (by first | exact z0 | exact z1 | exact bI01 _ | assumption) ?_
        exact no (fun q => by subst q; simp at g3)
  exact loop fa.length 0 (by omega) rfl
/-- the order of keys -/
def ltK : List (List Nat) → List (List Nat) → Bool
  | x :: xs, y :: ys => if cmpL x y = 0 then ltK xs ys else decide (cmpL x y < 0)
  | xs, ys => decide (xs.length < ys.length)
theorem ltK_drop {la lo : List (List Nat)} {i : Nat} (h1 : i < la.length) (h2 : i < lo.length) : ltK (la.drop i) (lo.drop i) = if cmpL la[i] lo[i] = 0 then ltK (la.drop (i + 1)) (lo.drop (i + 1)) else decide (cmpL la[i] lo[i] < 0) := by
  rw [List.drop_eq_getElem_cons h1, List.drop_eq_getElem_cons h2]
  rfl
theorem ltK_end {la lo : List (List Nat)} (h : la = [] ∨ lo = []) : ltK la lo = decide (la.length < lo.length) := by
  rcases h with rfl | rfl
  · cases lo <;> rfl
  · cases la <;> rfl
theorem cmpL_bd : ∀ (la lo : List Nat), la.length ≤ 20 → lo.length ≤ 20 → (∀ c ∈ la, c < 128) → (∀ c ∈ lo, c < 128) → -200 ≤ cmpL la lo ∧ cmpL la lo ≤ 200
  | x :: xs, y :: ys, h1, h2, h3, h4 => by
    simp only [List.length_cons] at h1 h2
    have r := cmpL_bd xs ys (by omega) (by omega) (fun c hc => h3 c (List.mem_cons_of_mem _ hc)) (fun c hc => h4 c (List.mem_cons_of_mem _ hc))
    have q1 := h3 x List.mem_cons_self
    have q2 := h4 y List.mem_cons_self
    rw [cmpL]
    split
    · exact r
    · omega
  | [], ys, h1, h2, h3, h4 => by rw [cmpL_end (Or.inl rfl)]; simp; omega
  | x :: xs, [], h1, h2, h3, h4 => by rw [cmpL_end (Or.inr rfl)]; simp only [List.length_nil] ; omega
theorem ofInt_sg {z : Int} (h1 : -200 ≤ z) (h2 : z ≤ 200) : (Int32.ofInt z = 0 ↔ z = 0) ∧ (0 ≤ Int32.ofInt z ↔ 0 ≤ z) := by
  have e : (Int32.ofInt z).toInt = z := by
    rw [Int32.toInt_ofInt]
    exact Int.bmod_eq_of_le (by simp only [Int32.size]; omega) (by simp only [Int32.size]; omega)
  constructor
  · constructor
    · intro h; rw [← e, h]; rfl
    · intro h; rw [h]; rfl
  · rw [Int32.le_iff_toInt_le, e]; rfl
/-- the key of a name: the places of its words, and their letters -/
def Ky (μ : Mm) (a : Nat) (pl : List Nat) (kw : List (List Nat)) : Prop := mF μ a 7 = nI pl.length ∧ pl.length ≤ 8 ∧ Hd (mA μ (a + 3)) pl ∧ kw.length = pl.length ∧ ∀ i (h : i < pl.length), pl[i] < 8 ∧ ∀ h' : i < kw.length, Wl μ (a + 6 + 3 * pl[i]) kw[i]
def befL (r1 : Bool) (k1 : List (List Nat)) (r2 : Bool) (k2 : List (List Nat)) : Bool := if r1 && r2 then ltK k1 k2 else r1
theorem c_isBefore {a o : Nat} {r1 r2 : Bool} {pa po : List Nat} {ka ko : List (List Nat)} (hg : Ng μ a) (ho : Ng μ o) (ha : mF μ a 4 = bI r1) (hb : mF μ o 4 = bI r2) (hka : r1 = true → Ky μ a pa ka) (hko : r2 = true → Ky μ o po ko) (k : K (some (.int (bI (befL r1 ka r2 ko)))) μ) : Cl E M_X2_isBefore [.ref a, .ref o] μ K := by
  obtain ⟨⟨kk, p2, p5, p6, p9, kk1, ll1, kk2, ll2, kk3, ll3⟩, hLn, hWs⟩ := hg
  obtain ⟨⟨ok, o2, o5, o6, o9, ok1, ol1, ok2, ol2, ok3, ol3⟩, oLn, oWs⟩ := ho
  refine Cl.of0 2 pn_X2 (Nat.le_of_ble_eq_true rfl) ⟨rfl, rfl⟩ rfl ?_
  refine e_al0 1 rfl dX2_isBefore_0 ?_
  first | refine e_getIv 4 rfl dX2_isBefore_1 f_X2_28 (by assumption) (by first | assumption | (simp only [mN_sF, mK_sF, mL_sF, mF_sF, mB_sF, mA_sF, mJ_sF, mP_sF, mO_sF, mN_sB, mK_sB, mL_sB, mF_sB, mB_sB, mA_sB, mJ_sB, mP_sB, mO_sB, mN_sA, mK_sA, mL_sA, mF_sA, mB_sA, mA_sA, mJ_sA, mP_sA, mO_sA, mN_sJ, mK_sJ, mL_sJ, mF_sJ, mB_sJ, mA_sJ, mJ_sJ, mP_sJ, mO_sJ, mN_sP, mK_sP, mL_sP, mF_sP, mB_sP, mA_sP, mJ_sP, mP_sP, mO_sP, mN_sO, mK_sO, mL_sO, mF_sO, mB_sO, mA_sO, mJ_sO, mP_sO, mO_sO, up2, if_true, if_false, eq_self, ite_true, ite_false, reduceIte, Nat.add_left_cancel_iff, Nat.add_eq_left, Nat.left_eq_add, Nat.reduceEqDiff]; assumption) | (simp only [mN_sF, mK_sF, mL_sF, mF_sF, mB_sF, mA_sF, mJ_sF, mP_sF, mO_sF, mN_sB, mK_sB, mL_sB, mF_sB, mB_sB, mA_sB, mJ_sB, mP_sB, mO_sB, mN_sA, mK_sA, mL_sA, mF_sA, mB_sA, mA_sA, mJ_sA, mP_sA, mO_sA, mN_sJ, mK_sJ, mL_sJ, mF_sJ, mB_sJ, mA_sJ, mJ_sJ, mP_sJ, mO_sJ, mN_sP, mK_sP, mL_sP, mF_sP, mB_sP, mA_sP, mJ_sP, mP_sP, mO_sP, mN_sO, mK_sO, mL_sO, mF_sO, mB_sO, mA_sO, mJ_sO, mP_sO, mO_sO, up2, if_true, if_false, eq_self, ite_true, ite_false, reduceIte, Nat.add_left_cancel_iff, Nat.add_eq_left, Nat.left_eq_add, Nat.reduceEqDiff]; done)) ?_ | refine e_getI 4 rfl dX2_isBefore_1 f_X2_28 (by assumption) ?_
  first | refine e_if_eqB 14 7 (by decide) rfl dX2_isBefore_4 rfl (fun g1 => ?_) (fun g1 => ?_) | refine e_if_eqN 14 7 (by decide) rfl dX2_isBefore_4 rfl (by omega) (fun g1 => ?_) (fun g1 => ?_) | refine e_if_eq 14 7 (by decide) rfl dX2_isBefore_4 (fun g1 => ?_) (fun g1 => ?_)
  · refine e_al0 15 rfl dX2_isBefore_14 ?_
    first | refine e_getIv 18 rfl dX2_isBefore_15 f_X2_28 (by assumption) (by first | assumption | (simp only [mN_sF, mK_sF, mL_sF, mF_sF, mB_sF, mA_sF, mJ_sF, mP_sF, mO_sF, mN_sB, mK_sB, mL_sB, mF_sB, mB_sB, mA_sB, mJ_sB, mP_sB, mO_sB, mN_sA, mK_sA, mL_sA, mF_sA, mB_sA, mA_sA, mJ_sA, mP_sA, mO_sA, mN_sJ, mK_sJ, mL_sJ, mF_sJ, mB_sJ, mA_sJ, mJ_sJ, mP_sJ, mO_sJ, mN_sP, mK_sP, mL_sP, mF_sP, mB_sP, mA_sP, mJ_sP, mP_sP, mO_sP, mN_sO, mK_sO, mL_sO, mF_sO, mB_sO, mA_sO, mJ_sO, mP_sO, mO_sO, up2, if_true, if_false, eq_self, ite_true, ite_false, reduceIte, Nat.add_left_cancel_iff, Nat.add_eq_left, Nat.left_eq_add, Nat.reduceEqDiff]; assumption) | (simp only [mN_sF, mK_sF, mL_sF, mF_sF, mB_sF, mA_sF, mJ_sF, mP_sF, mO_sF, mN_sB, mK_sB, mL_sB, mF_sB, mB_sB, mA_sB, mJ_sB, mP_sB, mO_sB, mN_sA, mK_sA, mL_sA, mF_sA, mB_sA, mA_sA, mJ_sA, mP_sA, mO_sA, mN_sJ, mK_sJ, mL_sJ, mF_sJ, mB_sJ, mA_sJ, mJ_sJ, mP_sJ, mO_sJ, mN_sP, mK_sP, mL_sP, mF_sP, mB_sP, mA_sP, mJ_sP, mP_sP, mO_sP, mN_sO, mK_sO, mL_sO, mF_sO, mB_sO, mA_sO, mJ_sO, mP_sO, mO_sO, up2, if_true, if_false, eq_self, ite_true, ite_false, reduceIte, Nat.add_left_cancel_iff, Nat.add_eq_left, Nat.left_eq_add, Nat.reduceEqDiff]; done)) ?_ | refine e_getI 18 rfl dX2_isBefore_15 f_X2_28 (by assumption) ?_
    refine e_zret dX2_isBefore_18 rfl (by first | exact z0 | exact z1 | exact bI01 _ | assumption) ?_
    have e : befL r1 ka r2 ko = r1 := by simp [befL, g1]
    rw [← e]; exact k
  refine e_al1 8 rfl dX2_isBefore_7 ?_
  first | refine e_getIv 11 rfl dX2_isBefore_8 f_X2_28 (by assumption) (by first | assumption | (simp only [mN_sF, mK_sF, mL_sF, mF_sF, mB_sF, mA_sF, mJ_sF, mP_sF, mO_sF, mN_sB, mK_sB, mL_sB, mF_sB, mB_sB, mA_sB, mJ_sB, mP_sB, mO_sB, mN_sA, mK_sA, mL_sA, mF_sA, mB_sA, mA_sA, mJ_sA, mP_sA, mO_sA, mN_sJ, mK_sJ, mL_sJ, mF_sJ, mB_sJ, mA_sJ, mJ_sJ, mP_sJ, mO_sJ, mN_sP, mK_sP, mL_sP, mF_sP, mB_sP, mA_sP, mJ_sP, mP_sP, mO_sP, mN_sO, mK_sO, mL_sO, mF_sO, mB_sO, mA_sO, mJ_sO, mP_sO, mO_sO, up2, if_true, if_false, eq_self, ite_true, ite_false, reduceIte, Nat.add_left_cancel_iff, Nat.add_eq_left, Nat.left_eq_add, Nat.reduceEqDiff]; assumption) | (simp only [mN_sF, mK_sF, mL_sF, mF_sF, mB_sF, mA_sF, mJ_sF, mP_sF, mO_sF, mN_sB, mK_sB, mL_sB, mF_sB, mB_sB, mA_sB, mJ_sB, mP_sB, mO_sB, mN_sA, mK_sA, mL_sA, mF_sA, mB_sA, mA_sA, mJ_sA, mP_sA, mO_sA, mN_sJ, mK_sJ, mL_sJ, mF_sJ, mB_sJ, mA_sJ, mJ_sJ, mP_sJ, mO_sJ, mN_sP, mK_sP, mL_sP, mF_sP, mB_sP, mA_sP, mJ_sP, mP_sP, mO_sP, mN_sO, mK_sO, mL_sO, mF_sO, mB_sO, mA_sO, mJ_sO, mP_sO, mO_sO, up2, if_true, if_false, eq_self, ite_true, ite_false, reduceIte, Nat.add_left_cancel_iff, Nat.add_eq_left, Nat.left_eq_add, Nat.reduceEqDiff]; done)) ?_ | refine e_getI 11 rfl dX2_isBefore_8 f_X2_28 (by assumption) ?_
  first | refine e_if_neB 19 14 (by decide) rfl dX2_isBefore_11 rfl (fun g2 => ?_) (fun g2 => ?_) | refine e_if_neN 19 14 (by decide) rfl dX2_isBefore_11 rfl (by omega) (fun g2 => ?_) (fun g2 => ?_) | refine e_if_ne 19 14 (by decide) rfl dX2_isBefore_11 (fun g2 => ?_) (fun g2 => ?_)
  rotate_left
  · refine e_al0 15 rfl dX2_isBefore_14 ?_
    first | refine e_getIv 18 rfl dX2_isBefore_15 f_X2_28 (by assumption) (by first | assumption | (simp only [mN_sF, mK_sF, mL_sF, mF_sF, mB_sF, mA_sF, mJ_sF, mP_sF, mO_sF, mN_sB, mK_sB, mL_sB, mF_sB, mB_sB, mA_sB, mJ_sB, mP_sB, mO_sB, mN_sA, mK_sA, mL_sA, mF_sA, mB_sA, mA_sA, mJ_sA, mP_sA, mO_sA, mN_sJ, mK_sJ, mL_sJ, mF_sJ, mB_sJ, mA_sJ, mJ_sJ, mP_sJ, mO_sJ, mN_sP, mK_sP, mL_sP, mF_sP, mB_sP, mA_sP, mJ_sP, mP_sP, mO_sP, mN_sO, mK_sO, mL_sO, mF_sO, mB_sO, mA_sO, mJ_sO, mP_sO, mO_sO, up2, if_true, if_false, eq_self, ite_true, ite_false, reduceIte, Nat.add_left_cancel_iff, Nat.add_eq_left, Nat.left_eq_add, Nat.reduceEqDiff]; assumption) | (simp only [mN_sF, mK_sF, mL_sF, mF_sF, mB_sF, mA_sF, mJ_sF, mP_sF, mO_sF, mN_sB, mK_sB, mL_sB, mF_sB, mB_sB, mA_sB, mJ_sB, mP_sB, mO_sB, mN_sA, mK_sA, mL_sA, mF_sA, mB_sA, mA_sA, mJ_sA, mP_sA, mO_sA, mN_sJ, mK_sJ, mL_sJ, mF_sJ, mB_sJ, mA_sJ, mJ_sJ, mP_sJ, mO_sJ, mN_sP, mK_sP, mL_sP, mF_sP, mB_sP, mA_sP, mJ_sP, mP_sP, mO_sP, mN_sO, mK_sO, mL_sO, mF_sO, mB_sO, mA_sO, mJ_sO, mP_sO, mO_sO, up2, if_true, if_false, eq_self, ite_true, ite_false, reduceIte, Nat.add_left_cancel_iff, Nat.add_eq_left, Nat.left_eq_add, Nat.reduceEqDiff]; done)) ?_ | refine e_getI 18 rfl dX2_isBefore_15 f_X2_28 (by assumption) ?_
    refine e_zret dX2_isBefore_18 rfl (by first | exact z0 | exact z1 | exact bI01 _ | assumption) ?_
    have e : befL r1 ka r2 ko = r1 := by simp [befL, g2]
    rw [← e]; exact k
  subst g1; subst g2
  obtain ⟨a7, a8, aH, aL, aW⟩ := hka rfl
  obtain ⟨b7, b8, bH, bL, bW⟩ := hko rfl
  have ebef : befL true ka true ko = ltK ka ko := rfl
  rw [ebef] at k
  have fin : ∀ i : Nat, i ≤ pa.length → i ≤ po.length → (pa.length ≤ i ∨ po.length ≤ i) → ltK (ka.drop i) (ko.drop i) = ltK ka ko → ∀ y3 : Option Value, Ev E M_X2_isBefore 0 0 83 [some (.ref a), some (.ref o), some (.int (nI i)), y3] [] μ K := by
    intro i q1 q2 q3 q4 y3
    have e : ltK ka ko = decide (pa.length < po.length) := by
      rw [← q4, ltK_end (by rcases q3 with q | q; exact Or.inl (List.drop_eq_nil_of_le (by omega)); exact Or.inr (List.drop_eq_nil_of_le (by omega)))]
      simp only [List.length_drop]
      congr 1
      apply propext
      omega
    rw [e] at k
    refine e_al0 84 rfl dX2_isBefore_83 ?_
    first | refine e_getIv 87 rfl dX2_isBefore_84 f_X2_38 (by assumption) (by first | assumption | (simp only [mN_sF, mK_sF, mL_sF, mF_sF, mB_sF, mA_sF, mJ_sF, mP_sF, mO_sF, mN_sB, mK_sB, mL_sB, mF_sB, mB_sB, mA_sB, mJ_sB, mP_sB, mO_sB, mN_sA, mK_sA, mL_sA, mF_sA, mB_sA, mA_sA, mJ_sA, mP_sA, mO_sA, mN_sJ, mK_sJ, mL_sJ, mF_sJ, mB_sJ, mA_sJ, mJ_sJ, mP_sJ, mO_sJ, mN_sP, mK_sP, mL_sP, mF_sP, mB_sP, mA_sP, mJ_sP, mP_sP, mO_sP, mN_sO, mK_sO, mL_sO, mF_sO, mB_sO, mA_sO, mJ_sO, mP_sO, mO_sO, up2, if_true, if_false, eq_self, ite_true, ite_false, reduceIte, Nat.add_left_cancel_iff, Nat.add_eq_left, Nat.left_eq_add, Nat.reduceEqDiff]; assumption) | (simp only [mN_sF, mK_sF, mL_sF, mF_sF, mB_sF, mA_sF, mJ_sF, mP_sF, mO_sF, mN_sB, mK_sB, mL_sB, mF_sB, mB_sB, mA_sB, mJ_sB, mP_sB, mO_sB, mN_sA, mK_sA, mL_sA, mF_sA, mB_sA, mA_sA, mJ_sA, mP_sA, mO_sA, mN_sJ, mK_sJ, mL_sJ, mF_sJ, mB_sJ, mA_sJ, mJ_sJ, mP_sJ, mO_sJ, mN_sP, mK_sP, mL_sP, mF_sP, mB_sP, mA_sP, mJ_sP, mP_sP, mO_sP, mN_sO, mK_sO, mL_sO, mF_sO, mB_sO, mA_sO, mJ_sO, mP_sO, mO_sO, up2, if_true, if_false, eq_self, ite_true, ite_false, reduceIte, Nat.add_left_cancel_iff, Nat.add_eq_left, Nat.left_eq_add, Nat.reduceEqDiff]; done)) ?_ | refine e_getI 87 rfl dX2_isBefore_84 f_X2_38 (by assumption) ?_
    refine e_al1 88 rfl dX2_isBefore_87 ?_
    first | refine e_getIv 91 rfl dX2_isBefore_88 f_X2_38 (by assumption) (by first | assumption | (simp only [mN_sF, mK_sF, mL_sF, mF_sF, mB_sF, mA_sF, mJ_sF, mP_sF, mO_sF, mN_sB, mK_sB, mL_sB, mF_sB, mB_sB, mA_sB, mJ_sB, mP_sB, mO_sB, mN_sA, mK_sA, mL_sA, mF_sA, mB_sA, mA_sA, mJ_sA, mP_sA, mO_sA, mN_sJ, mK_sJ, mL_sJ, mF_sJ, mB_sJ, mA_sJ, mJ_sJ, mP_sJ, mO_sJ, mN_sP, mK_sP, mL_sP, mF_sP, mB_sP, mA_sP, mJ_sP, mP_sP, mO_sP, mN_sO, mK_sO, mL_sO, mF_sO, mB_sO, mA_sO, mJ_sO, mP_sO, mO_sO, up2, if_true, if_false, eq_self, ite_true, ite_false, reduceIte, Nat.add_left_cancel_iff, Nat.add_eq_left, Nat.left_eq_add, Nat.reduceEqDiff]; assumption) | (simp only [mN_sF, mK_sF, mL_sF, mF_sF, mB_sF, mA_sF, mJ_sF, mP_sF, mO_sF, mN_sB, mK_sB, mL_sB, mF_sB, mB_sB, mA_sB, mJ_sB, mP_sB, mO_sB, mN_sA, mK_sA, mL_sA, mF_sA, mB_sA, mA_sA, mJ_sA, mP_sA, mO_sA, mN_sJ, mK_sJ, mL_sJ, mF_sJ, mB_sJ, mA_sJ, mJ_sJ, mP_sJ, mO_sJ, mN_sP, mK_sP, mL_sP, mF_sP, mB_sP, mA_sP, mJ_sP, mP_sP, mO_sP, mN_sO, mK_sO, mL_sO, mF_sO, mB_sO, mA_sO, mJ_sO, mP_sO, mO_sO, up2, if_true, if_false, eq_self, ite_true, ite_false, reduceIte, Nat.add_left_cancel_iff, Nat.add_eq_left, Nat.left_eq_add, Nat.reduceEqDiff]; done)) ?_ | refine e_getI 91 rfl dX2_isBefore_88 f_X2_38 (by assumption) ?_
    first | refine e_cmp_geN 98 94 (by decide) rfl dX2_isBefore_91 rfl rfl (by omega) (by omega) (fun g3 => ?_) (fun g3 => ?_) | refine e_cmp_ge 98 94 (by decide) rfl dX2_isBefore_91 (fun g3 => ?_) (fun g3 => ?_)
    · refine e_iconst (nI 0) 99 rfl dX2_isBefore_98 ic_0 ?_
      refine e_zret dX2_isBefore_99 rfl (by first | exact z0 | exact z1 | exact bI01 _ | assumption) ?_
      rw [← bI_f (b := decide (pa.length < po.length)) (by simp; omega)]; exact k
    · refine e_iconst (nI 1) 95 rfl dX2_isBefore_94 ic_1 ?_
      refine e_goto 99 (by decide) dX2_isBefore_95 ?_
      refine e_zret dX2_isBefore_99 rfl (by first | exact z0 | exact z1 | exact bI01 _ | assumption) ?_
      rw [← bI_t (b := decide (pa.length < po.length)) (by simp; omega)]; exact k
  have loop : ∀ (fu i : Nat), i + fu = pa.length → i ≤ po.length → ltK (ka.drop i) (ko.drop i) = ltK ka ko → ∀ y3 : Option Value, Ev E M_X2_isBefore 0 0 21 [some (.ref a), some (.ref o), some (.int (nI i)), y3] [] μ K := by
    intro fu
    induction fu with
    | zero =>
      intro i hi hi2 he y3
      refine e_il2 22 rfl dX2_isBefore_21 ?_
      refine e_al0 23 rfl dX2_isBefore_22 ?_
      first | refine e_getIv 26 rfl dX2_isBefore_23 f_X2_38 (by assumption) (by first | assumption | (simp only [mN_sF, mK_sF, mL_sF, mF_sF, mB_sF, mA_sF, mJ_sF, mP_sF, mO_sF, mN_sB, mK_sB, mL_sB, mF_sB, mB_sB, mA_sB, mJ_sB, mP_sB, mO_sB, mN_sA, mK_sA, mL_sA, mF_sA, mB_sA, mA_sA, mJ_sA, mP_sA, mO_sA, mN_sJ, mK_sJ, mL_sJ, mF_sJ, mB_sJ, mA_sJ, mJ_sJ, mP_sJ, mO_sJ, mN_sP, mK_sP, mL_sP, mF_sP, mB_sP, mA_sP, mJ_sP, mP_sP, mO_sP, mN_sO, mK_sO, mL_sO, mF_sO, mB_sO, mA_sO, mJ_sO, mP_sO, mO_sO, up2, if_true, if_false, eq_self, ite_true, ite_false, reduceIte, Nat.add_left_cancel_iff, Nat.add_eq_left, Nat.left_eq_add, Nat.reduceEqDiff]; assumption) | (simp only [mN_sF, mK_sF, mL_sF, mF_sF, mB_sF, mA_sF, mJ_sF, mP_sF, mO_sF, mN_sB, mK_sB, mL_sB, mF_sB, mB_sB, mA_sB, mJ_sB, mP_sB, mO_sB, mN_sA, mK_sA, mL_sA, mF_sA, mB_sA, mA_sA, mJ_sA, mP_sA, mO_sA, mN_sJ, mK_sJ, mL_sJ, mF_sJ, mB_sJ, mA_sJ, mJ_sJ, mP_sJ, mO_sJ, mN_sP, mK_sP, mL_sP, mF_sP, mB_sP, mA_sP, mJ_sP, mP_sP, mO_sP, mN_sO, mK_sO, mL_sO, mF_sO, mB_sO, mA_sO, mJ_sO, mP_sO, mO_sO, up2, if_true, if_false, eq_self, ite_true, ite_false, reduceIte, Nat.add_left_cancel_iff, Nat.add_eq_left, Nat.left_eq_add, Nat.reduceEqDiff]; done)) ?_ | refine e_getI 26 rfl dX2_isBefore_23 f_X2_38 (by assumption) ?_
      first | refine e_cmp_geN 83 29 (by decide) rfl dX2_isBefore_26 rfl rfl (by omega) (by omega) (fun g3 => ?_) (fun g3 => ?_) | refine e_cmp_ge 83 29 (by decide) rfl dX2_isBefore_26 (fun g3 => ?_) (fun g3 => ?_)
      · exact fin i (by omega) hi2 (Or.inl g3) he y3
      · omega
    | succ fu ih =>
      intro i hi hi2 he y3
      refine e_il2 22 rfl dX2_isBefore_21 ?_
      refine e_al0 23 rfl dX2_isBefore_22 ?_
      first | refine e_getIv 26 rfl dX2_isBefore_23 f_X2_38 (by assumption) (by first | assumption | (simp only [mN_sF, mK_sF, mL_sF, mF_sF, mB_sF, mA_sF, mJ_sF, mP_sF, mO_sF, mN_sB, mK_sB, mL_sB, mF_sB, mB_sB, mA_sB, mJ_sB, mP_sB, mO_sB, mN_sA, mK_sA, mL_sA, mF_sA, mB_sA, mA_sA, mJ_sA, mP_sA, mO_sA, mN_sJ, mK_sJ, mL_sJ, mF_sJ, mB_sJ, mA_sJ, mJ_sJ, mP_sJ, mO_sJ, mN_sP, mK_sP, mL_sP, mF_sP, mB_sP, mA_sP, mJ_sP, mP_sP, mO_sP, mN_sO, mK_sO, mL_sO, mF_sO, mB_sO, mA_sO, mJ_sO, mP_sO, mO_sO, up2, if_true, if_false, eq_self, ite_true, ite_false, reduceIte, Nat.add_left_cancel_iff, Nat.add_eq_left, Nat.left_eq_add, Nat.reduceEqDiff]; assumption) | (simp only [mN_sF, mK_sF, mL_sF, mF_sF, mB_sF, mA_sF, mJ_sF, mP_sF, mO_sF, mN_sB, mK_sB, mL_sB, mF_sB, mB_sB, mA_sB, mJ_sB, mP_sB, mO_sB, mN_sA, mK_sA, mL_sA, mF_sA, mB_sA, mA_sA, mJ_sA, mP_sA, mO_sA, mN_sJ, mK_sJ, mL_sJ, mF_sJ, mB_sJ, mA_sJ, mJ_sJ, mP_sJ, mO_sJ, mN_sP, mK_sP, mL_sP, mF_sP, mB_sP, mA_sP, mJ_sP, mP_sP, mO_sP, mN_sO, mK_sO, mL_sO, mF_sO, mB_sO, mA_sO, mJ_sO, mP_sO, mO_sO, up2, if_true, if_false, eq_self, ite_true, ite_false, reduceIte, Nat.add_left_cancel_iff, Nat.add_eq_left, Nat.left_eq_add, Nat.reduceEqDiff]; done)) ?_ | refine e_getI 26 rfl dX2_isBefore_23 f_X2_38 (by assumption) ?_
      first | refine e_cmp_geN 83 29 (by decide) rfl dX2_isBefore_26 rfl rfl (by omega) (by omega) (fun g3 => ?_) (fun g3 => ?_) | refine e_cmp_ge 83 29 (by decide) rfl dX2_isBefore_26 (fun g3 => ?_) (fun g3 => ?_)
      · omega
      refine e_il2 30 rfl dX2_isBefore_29 ?_
      refine e_al1 31 rfl dX2_isBefore_30 ?_
      first | refine e_getIv 34 rfl dX2_isBefore_31 f_X2_38 (by assumption) (by first | assumption | (simp only [mN_sF, mK_sF, mL_sF, mF_sF, mB_sF, mA_sF, mJ_sF, mP_sF, mO_sF, mN_sB, mK_sB, mL_sB, mF_sB, mB_sB, mA_sB, mJ_sB, mP_sB, mO_sB, mN_sA, mK_sA, mL_sA, mF_sA, mB_sA, mA_sA, mJ_sA, mP_sA, mO_sA, mN_sJ, mK_sJ, mL_sJ, mF_sJ, mB_sJ, mA_sJ, mJ_sJ, mP_sJ, mO_sJ, mN_sP, mK_sP, mL_sP, mF_sP, mB_sP, mA_sP, mJ_sP, mP_sP, mO_sP, mN_sO, mK_sO, mL_sO, mF_sO, mB_sO, mA_sO, mJ_sO, mP_sO, mO_sO, up2, if_true, if_false, eq_self, ite_true, ite_false, reduceIte, Nat.add_left_cancel_iff, Nat.add_eq_left, Nat.left_eq_add, Nat.reduceEqDiff]; assumption) | (simp only [mN_sF, mK_sF, mL_sF, mF_sF, mB_sF, mA_sF, mJ_sF, mP_sF, mO_sF, mN_sB, mK_sB, mL_sB, mF_sB, mB_sB, mA_sB, mJ_sB, mP_sB, mO_sB, mN_sA, mK_sA, mL_sA, mF_sA, mB_sA, mA_sA, mJ_sA, mP_sA, mO_sA, mN_sJ, mK_sJ, mL_sJ, mF_sJ, mB_sJ, mA_sJ, mJ_sJ, mP_sJ, mO_sJ, mN_sP, mK_sP, mL_sP, mF_sP, mB_sP, mA_sP, mJ_sP, mP_sP, mO_sP, mN_sO, mK_sO, mL_sO, mF_sO, mB_sO, mA_sO, mJ_sO, mP_sO, mO_sO, up2, if_true, if_false, eq_self, ite_true, ite_false, reduceIte, Nat.add_left_cancel_iff, Nat.add_eq_left, Nat.left_eq_add, Nat.reduceEqDiff]; done)) ?_ | refine e_getI 34 rfl dX2_isBefore_31 f_X2_38 (by assumption) ?_
      first | refine e_cmp_geN 83 37 (by decide) rfl dX2_isBefore_34 rfl rfl (by omega) (by omega) (fun g4 => ?_) (fun g4 => ?_) | refine e_cmp_ge 83 37 (by decide) rfl dX2_isBefore_34 (fun g4 => ?_) (fun g4 => ?_)
      · exact fin i (by omega) hi2 (Or.inr g4) he y3
      have hia : i < ka.length := by omega
      have hio : i < ko.length := by omega
      obtain ⟨s1, s2⟩ := aW i g3
      obtain ⟨t1, t2⟩ := bW i g4
      have hA1 : mA μ (a + 3) i = nI pa[i] := aH.at g3
      have hA2 : mA μ (o + 3) i = nI po[i] := bH.at g4
      obtain ⟨u1, u2⟩ := hWs pa[i] s1
      obtain ⟨v1, v2⟩ := oWs po[i] t1
      have uk := u2.1
      rw [ltK_drop hia hio] at he
      have hbd := cmpL_bd ka[i] ko[i] (s2 hia).2.2.1 (t2 hio).2.2.1 (s2 hia).2.2.2 (t2 hio).2.2.2
      have hsg := ofInt_sg hbd.1 hbd.2
      refine e_al0 38 rfl dX2_isBefore_37 ?_
      refine e_getR 41 rfl dX2_isBefore_38 f_X2_20 (by assumption) (by assumption) ?_
      refine e_al0 42 rfl dX2_isBefore_41 ?_
      refine e_getR 45 rfl dX2_isBefore_42 f_X2_35 (by assumption) (by assumption) ?_
      refine e_il2 46 rfl dX2_isBefore_45 ?_
      first | refine e_ialdv 47 rfl dX2_isBefore_46 (by assumption) (by assumption) (by first | rfl | simp only [pk_mul, nI_add]) (by omega) (by omega) (by first | assumption | (simp only [mN_sF, mK_sF, mL_sF, mF_sF, mB_sF, mA_sF, mJ_sF, mP_sF, mO_sF, mN_sB, mK_sB, mL_sB, mF_sB, mB_sB, mA_sB, mJ_sB, mP_sB, mO_sB, mN_sA, mK_sA, mL_sA, mF_sA, mB_sA, mA_sA, mJ_sA, mP_sA, mO_sA, mN_sJ, mK_sJ, mL_sJ, mF_sJ, mB_sJ, mA_sJ, mJ_sJ, mP_sJ, mO_sJ, mN_sP, mK_sP, mL_sP, mF_sP, mB_sP, mA_sP, mJ_sP, mP_sP, mO_sP, mN_sO, mK_sO, mL_sO, mF_sO, mB_sO, mA_sO, mJ_sO, mP_sO, mO_sO, up2, if_true, if_false, eq_self, ite_true, ite_false, reduceIte, Nat.add_left_cancel_iff, Nat.add_eq_left, Nat.left_eq_add, Nat.reduceEqDiff]; assumption) | (simp only [mN_sF, mK_sF, mL_sF, mF_sF, mB_sF, mA_sF, mJ_sF, mP_sF, mO_sF, mN_sB, mK_sB, mL_sB, mF_sB, mB_sB, mA_sB, mJ_sB, mP_sB, mO_sB, mN_sA, mK_sA, mL_sA, mF_sA, mB_sA, mA_sA, mJ_sA, mP_sA, mO_sA, mN_sJ, mK_sJ, mL_sJ, mF_sJ, mB_sJ, mA_sJ, mJ_sJ, mP_sJ, mO_sJ, mN_sP, mK_sP, mL_sP, mF_sP, mB_sP, mA_sP, mJ_sP, mP_sP, mO_sP, mN_sO, mK_sO, mL_sO, mF_sO, mB_sO, mA_sO, mJ_sO, mP_sO, mO_sO, up2, if_true, if_false, eq_self, ite_true, ite_false, reduceIte, Nat.add_left_cancel_iff, Nat.add_eq_left, Nat.left_eq_add, Nat.reduceEqDiff]; done)) ?_ | refine e_iald 47 rfl dX2_isBefore_46 (by assumption) (by assumption) (by first | rfl | simp only [pk_mul, nI_add]) (by omega) (by omega) ?_
      refine e_aald 48 rfl dX2_isBefore_47 (by assumption) (by decide) (by assumption) (by first | rfl | simp only [pk_mul, nI_add]) (by omega) (by omega) (by assumption) ?_
      refine e_al1 49 rfl dX2_isBefore_48 ?_
      refine e_getR 52 rfl dX2_isBefore_49 f_X2_20 (by assumption) (by assumption) ?_
      refine e_al1 53 rfl dX2_isBefore_52 ?_
      refine e_getR 56 rfl dX2_isBefore_53 f_X2_35 (by assumption) (by assumption) ?_
      refine e_il2 57 rfl dX2_isBefore_56 ?_
      first | refine e_ialdv 58 rfl dX2_isBefore_57 (by assumption) (by assumption) (by first | rfl | simp only [pk_mul, nI_add]) (by omega) (by omega) (by first | assumption | (simp only [mN_sF, mK_sF, mL_sF, mF_sF, mB_sF, mA_sF, mJ_sF, mP_sF, mO_sF, mN_sB, mK_sB, mL_sB, mF_sB, mB_sB, mA_sB, mJ_sB, mP_sB, mO_sB, mN_sA, mK_sA, mL_sA, mF_sA, mB_sA, mA_sA, mJ_sA, mP_sA, mO_sA, mN_sJ, mK_sJ, mL_sJ, mF_sJ, mB_sJ, mA_sJ, mJ_sJ, mP_sJ, mO_sJ, mN_sP, mK_sP, mL_sP, mF_sP, mB_sP, mA_sP, mJ_sP, mP_sP, mO_sP, mN_sO, mK_sO, mL_sO, mF_sO, mB_sO, mA_sO, mJ_sO, mP_sO, mO_sO, up2, if_true, if_false, eq_self, ite_true, ite_false, reduceIte, Nat.add_left_cancel_iff, Nat.add_eq_left, Nat.left_eq_add, Nat.reduceEqDiff]; assumption) | (simp only [mN_sF, mK_sF, mL_sF, mF_sF, mB_sF, mA_sF, mJ_sF, mP_sF, mO_sF, mN_sB, mK_sB, mL_sB, mF_sB, mB_sB, mA_sB, mJ_sB, mP_sB, mO_sB, mN_sA, mK_sA, mL_sA, mF_sA, mB_sA, mA_sA, mJ_sA, mP_sA, mO_sA, mN_sJ, mK_sJ, mL_sJ, mF_sJ, mB_sJ, mA_sJ, mJ_sJ, mP_sJ, mO_sJ, mN_sP, mK_sP, mL_sP, mF_sP, mB_sP, mA_sP, mJ_sP, mP_sP, mO_sP, mN_sO, mK_sO, mL_sO, mF_sO, mB_sO, mA_sO, mJ_sO, mP_sO, mO_sO, up2, if_true, if_false, eq_self, ite_true, ite_false, reduceIte, Nat.add_left_cancel_iff, Nat.add_eq_left, Nat.left_eq_add, Nat.reduceEqDiff]; done)) ?_ | refine e_iald 58 rfl dX2_isBefore_57 (by assumption) (by assumption) (by first | rfl | simp only [pk_mul, nI_add]) (by omega) (by omega) ?_
      refine e_aald 59 rfl dX2_isBefore_58 (by assumption) (by decide) (by assumption) (by first | rfl | simp only [pk_mul, nI_add]) (by omega) (by omega) (by assumption) ?_
      refine e_invV0 [_] 62 rfl dX2_isBefore_59 k_X2_56 mo_X8_compareLetters rm_X2_isBefore_X8_compareLetters ⟨rfl, rfl⟩ rfl rfl (by assumption) (Nat.le_of_ble_eq_true rfl) ?_
      refine c_compareLetters u2 v2 (s2 hia) (t2 hio) ?_
      refine e_is3 63 rfl dX2_isBefore_62 (by decide) rfl ?_
      refine e_il3 64 rfl dX2_isBefore_63 ?_
      refine e_if_eq 77 67 (by decide) rfl dX2_isBefore_64 (fun g5 => ?_) (fun g5 => ?_)
      · refine e_ii2 (nI (_ + 1)) 80 rfl dX2_isBefore_77 (ii1 _) rfl ?_
        refine e_goto 21 (by decide) dX2_isBefore_80 ?_
        rw [if_pos (hsg.1.mp g5)] at he
        exact ih (i + 1) (by omega) (by omega) he _
      · rw [if_neg (fun q => g5 (hsg.1.mpr q))] at he
        rw [← he] at k
        refine e_il3 68 rfl dX2_isBefore_67 ?_
        refine e_if_ge 75 71 (by decide) rfl dX2_isBefore_68 (fun g6 => ?_) (fun g6 => ?_)
        · refine e_iconst (nI 0) 76 rfl dX2_isBefore_75 ic_0 ?_
          refine e_zret dX2_isBefore_76 rfl (by first | exact z0 | exact z1 | exact bI01 _ | assumption) ?_
          rw [← bI_f (b := decide (cmpL ka[i] ko[i] < 0)) (by simp; exact hsg.2.mp g6)]; exact k
        · refine e_iconst (nI 1) 72 rfl dX2_isBefore_71 ic_1 ?_
          refine e_goto 76 (by decide) dX2_isBefore_72 ?_
          refine e_zret dX2_isBefore_76 rfl (by first | exact z0 | exact z1 | exact bI01 _ | assumption) ?_
          rw [← bI_t (b := decide (cmpL ka[i] ko[i] < 0)) (by simp; exact Int.not_le.mp (fun q => g6 (hsg.2.mpr q)))]; exact k
  refine e_iconst (nI 0) 20 rfl dX2_isBefore_19 ic_0 ?_
  refine e_is2 21 rfl dX2_isBefore_20 (by decide) rfl ?_
  exact loop pa.length 0 (by omega) (by omega) rfl none
end NAME2
