/-! NameDesk$Word: the methods that read -/
section WORD2
variable {E : En} {μ : Mm} {K : Option Value → Mm → Prop}
/-- the word's letters -/
def Wl (μ : Mm) (a : Nat) (l : List Nat) : Prop := mF μ a 3 = nI l.length ∧ Hd (mB μ (a + 2)) l ∧ l.length ≤ 20 ∧ ∀ c ∈ l, c < 128
theorem Wl.fr {S : Nat → Prop} {μ' : Mm} {a : Nat} {l : List Nat} (h : Wl μ a l) (f : Fr S μ μ') (h1 : ¬ S a) (h2 : ¬ S (a + 2)) : Wl μ' a l := by
  unfold Wl
  rw [(f.2.2.2.2.2 a h1).1, (f.2.2.2.2.2 (a + 2) h2).2.1]
  exact h
theorem take_succ_eq {l r : List Nat} {i : Nat} (h1 : i < l.length) (h2 : i < r.length) (h : l.take i = r.take i) : l.take (i + 1) = r.take (i + 1) ↔ l[i] = r[i] := by
  rw [List.take_succ_eq_append_getElem h1, List.take_succ_eq_append_getElem h2, h]
  exact ⟨fun q => by simpa using List.append_cancel_left q, fun q => by rw [q]⟩
theorem c_isBeginning {a o m : Nat} {la lo : List Nat} (hw : Wd μ a) (ho : Wd μ o) (ha : Wl μ a la) (hb : Wl μ o lo) (hm : m < 2 ^ 31) (b : Bool) (hbb : b = true ↔ la.length = m ∧ la = lo.take m) (k : K (some (.int (bI b))) μ) : Cl E M_X8_isBeginning [.ref a, .ref o, .int (nI m)] μ K := by
  obtain ⟨hk, h0, h2, hk1, hl1, hk2, hl2⟩ := hw
  obtain ⟨ok, o0, o2, ok1, ol1, ok2, ol2⟩ := ho
  obtain ⟨a3, af, al, ac⟩ := ha
  obtain ⟨b3, bf, bl, bc⟩ := hb
  have no : ¬ (la.length = m ∧ la = lo.take m) → K (some (.int (nI 0))) μ := fun h => by rw [← bI_f (b := b) (by cases b; rfl; exact absurd (hbb.mp rfl) h)]; exact k
  refine Cl.of0 1 pn_X8 (Nat.le_of_ble_eq_true rfl) ⟨rfl, rfl⟩ rfl ?_
  refine e_al0 1 rfl dX8_isBeginning_0 ?_
  first | refine e_getIv 4 rfl dX8_isBeginning_1 f_X8_22 (by assumption) (by first | assumption | (simp only [mN_sF, mK_sF, mL_sF, mF_sF, mB_sF, mA_sF, mJ_sF, mP_sF, mO_sF, mN_sB, mK_sB, mL_sB, mF_sB, mB_sB, mA_sB, mJ_sB, mP_sB, mO_sB, mN_sA, mK_sA, mL_sA, mF_sA, mB_sA, mA_sA, mJ_sA, mP_sA, mO_sA, mN_sJ, mK_sJ, mL_sJ, mF_sJ, mB_sJ, mA_sJ, mJ_sJ, mP_sJ, mO_sJ, mN_sP, mK_sP, mL_sP, mF_sP, mB_sP, mA_sP, mJ_sP, mP_sP, mO_sP, mN_sO, mK_sO, mL_sO, mF_sO, mB_sO, mA_sO, mJ_sO, mP_sO, mO_sO, up2, if_true, if_false, eq_self, ite_true, ite_false, reduceIte, Nat.add_left_cancel_iff, Nat.add_eq_left, Nat.left_eq_add, Nat.reduceEqDiff]; assumption) | (simp only [mN_sF, mK_sF, mL_sF, mF_sF, mB_sF, mA_sF, mJ_sF, mP_sF, mO_sF, mN_sB, mK_sB, mL_sB, mF_sB, mB_sB, mA_sB, mJ_sB, mP_sB, mO_sB, mN_sA, mK_sA, mL_sA, mF_sA, mB_sA, mA_sA, mJ_sA, mP_sA, mO_sA, mN_sJ, mK_sJ, mL_sJ, mF_sJ, mB_sJ, mA_sJ, mJ_sJ, mP_sJ, mO_sJ, mN_sP, mK_sP, mL_sP, mF_sP, mB_sP, mA_sP, mJ_sP, mP_sP, mO_sP, mN_sO, mK_sO, mL_sO, mF_sO, mB_sO, mA_sO, mJ_sO, mP_sO, mO_sO, up2, if_true, if_false, eq_self, ite_true, ite_false, reduceIte, Nat.add_left_cancel_iff, Nat.add_eq_left, Nat.left_eq_add, Nat.reduceEqDiff]; done)) ?_ | refine e_getI 4 rfl dX8_isBeginning_1 f_X8_22 (by assumption) ?_
  refine e_il2 5 rfl dX8_isBeginning_4 ?_
  first | refine e_cmp_neN 16 8 (by decide) rfl dX8_isBeginning_5 rfl rfl (by omega) (by omega) (fun h1 => ?_) (fun h1 => ?_) | refine e_cmp_ne 16 8 (by decide) rfl dX8_isBeginning_5 (fun h1 => ?_) (fun h1 => ?_)
  · refine e_iconst (nI 0) 17 rfl dX8_isBeginning_16 ic_0 ?_
    refine e_zret dX8_isBeginning_17 rfl (by first | exact z0 | exact z1 | exact bI01 _ | assumption) ?_
    exact no (fun q => h1 q.1)
  refine e_al1 9 rfl dX8_isBeginning_8 ?_
  first | refine e_getIv 12 rfl dX8_isBeginning_9 f_X8_22 (by assumption) (by first | assumption | (simp only [mN_sF, mK_sF, mL_sF, mF_sF, mB_sF, mA_sF, mJ_sF, mP_sF, mO_sF, mN_sB, mK_sB, mL_sB, mF_sB, mB_sB, mA_sB, mJ_sB, mP_sB, mO_sB, mN_sA, mK_sA, mL_sA, mF_sA, mB_sA, mA_sA, mJ_sA, mP_sA, mO_sA, mN_sJ, mK_sJ, mL_sJ, mF_sJ, mB_sJ, mA_sJ, mJ_sJ, mP_sJ, mO_sJ, mN_sP, mK_sP, mL_sP, mF_sP, mB_sP, mA_sP, mJ_sP, mP_sP, mO_sP, mN_sO, mK_sO, mL_sO, mF_sO, mB_sO, mA_sO, mJ_sO, mP_sO, mO_sO, up2, if_true, if_false, eq_self, ite_true, ite_false, reduceIte, Nat.add_left_cancel_iff, Nat.add_eq_left, Nat.left_eq_add, Nat.reduceEqDiff]; assumption) | (simp only [mN_sF, mK_sF, mL_sF, mF_sF, mB_sF, mA_sF, mJ_sF, mP_sF, mO_sF, mN_sB, mK_sB, mL_sB, mF_sB, mB_sB, mA_sB, mJ_sB, mP_sB, mO_sB, mN_sA, mK_sA, mL_sA, mF_sA, mB_sA, mA_sA, mJ_sA, mP_sA, mO_sA, mN_sJ, mK_sJ, mL_sJ, mF_sJ, mB_sJ, mA_sJ, mJ_sJ, mP_sJ, mO_sJ, mN_sP, mK_sP, mL_sP, mF_sP, mB_sP, mA_sP, mJ_sP, mP_sP, mO_sP, mN_sO, mK_sO, mL_sO, mF_sO, mB_sO, mA_sO, mJ_sO, mP_sO, mO_sO, up2, if_true, if_false, eq_self, ite_true, ite_false, reduceIte, Nat.add_left_cancel_iff, Nat.add_eq_left, Nat.left_eq_add, Nat.reduceEqDiff]; done)) ?_ | refine e_getI 12 rfl dX8_isBeginning_9 f_X8_22 (by assumption) ?_
  refine e_il2 13 rfl dX8_isBeginning_12 ?_
  first | refine e_cmp_geN 18 16 (by decide) rfl dX8_isBeginning_13 rfl rfl (by omega) (by omega) (fun h3 => ?_) (fun h3 => ?_) | refine e_cmp_ge 18 16 (by decide) rfl dX8_isBeginning_13 (fun h3 => ?_) (fun h3 => ?_)
  rotate_left
  · refine e_iconst (nI 0) 17 rfl dX8_isBeginning_16 ic_0 ?_
    refine e_zret dX8_isBeginning_17 rfl (by first | exact z0 | exact z1 | exact bI01 _ | assumption) ?_
    refine no (fun q => ?_)
    have := congrArg List.length q.2
    simp at this
    omega
  refine e_iconst (nI 0) 19 rfl dX8_isBeginning_18 ic_0 ?_
  refine e_is3 20 rfl dX8_isBeginning_19 (by decide) rfl ?_
  have loop : ∀ (k i : Nat), i + k = la.length → la.take i = lo.take i → Ev E M_X8_isBeginning 0 0 20 [some (.ref a), some (.ref o), some (.int (nI m)), some (.int (nI i))] [] μ K := by
    intro k
    induction k with
    | zero =>
      intro i hi he
      refine e_il3 21 rfl dX8_isBeginning_20 ?_
      refine e_al0 22 rfl dX8_isBeginning_21 ?_
      first | refine e_getIv 25 rfl dX8_isBeginning_22 f_X8_22 (by assumption) (by first | assumption | (simp only [mN_sF, mK_sF, mL_sF, mF_sF, mB_sF, mA_sF, mJ_sF, mP_sF, mO_sF, mN_sB, mK_sB, mL_sB, mF_sB, mB_sB, mA_sB, mJ_sB, mP_sB, mO_sB, mN_sA, mK_sA, mL_sA, mF_sA, mB_sA, mA_sA, mJ_sA, mP_sA, mO_sA, mN_sJ, mK_sJ, mL_sJ, mF_sJ, mB_sJ, mA_sJ, mJ_sJ, mP_sJ, mO_sJ, mN_sP, mK_sP, mL_sP, mF_sP, mB_sP, mA_sP, mJ_sP, mP_sP, mO_sP, mN_sO, mK_sO, mL_sO, mF_sO, mB_sO, mA_sO, mJ_sO, mP_sO, mO_sO, up2, if_true, if_false, eq_self, ite_true, ite_false, reduceIte, Nat.add_left_cancel_iff, Nat.add_eq_left, Nat.left_eq_add, Nat.reduceEqDiff]; assumption) | (simp only [mN_sF, mK_sF, mL_sF, mF_sF, mB_sF, mA_sF, mJ_sF, mP_sF, mO_sF, mN_sB, mK_sB, mL_sB, mF_sB, mB_sB, mA_sB, mJ_sB, mP_sB, mO_sB, mN_sA, mK_sA, mL_sA, mF_sA, mB_sA, mA_sA, mJ_sA, mP_sA, mO_sA, mN_sJ, mK_sJ, mL_sJ, mF_sJ, mB_sJ, mA_sJ, mJ_sJ, mP_sJ, mO_sJ, mN_sP, mK_sP, mL_sP, mF_sP, mB_sP, mA_sP, mJ_sP, mP_sP, mO_sP, mN_sO, mK_sO, mL_sO, mF_sO, mB_sO, mA_sO, mJ_sO, mP_sO, mO_sO, up2, if_true, if_false, eq_self, ite_true, ite_false, reduceIte, Nat.add_left_cancel_iff, Nat.add_eq_left, Nat.left_eq_add, Nat.reduceEqDiff]; done)) ?_ | refine e_getI 25 rfl dX8_isBeginning_22 f_X8_22 (by assumption) ?_
      first | refine e_cmp_geN 51 28 (by decide) rfl dX8_isBeginning_25 rfl rfl (by omega) (by omega) (fun h4 => ?_) (fun h4 => ?_) | refine e_cmp_ge 51 28 (by decide) rfl dX8_isBeginning_25 (fun h4 => ?_) (fun h4 => ?_)
      · refine e_iconst (nI 1) 52 rfl dX8_isBeginning_51 ic_1 ?_
        refine e_zret dX8_isBeginning_52 rfl (by first | exact z0 | exact z1 | exact bI01 _ | assumption) ?_
        rw [← bI_t (b := b) (hbb.mpr ⟨h1, by rw [← h1, ← (show i = la.length by omega), ← he, (show i = la.length by omega), List.take_length]⟩)]
        exact k
      · omega
    | succ k ih =>
      intro i hi he
      refine e_il3 21 rfl dX8_isBeginning_20 ?_
      refine e_al0 22 rfl dX8_isBeginning_21 ?_
      first | refine e_getIv 25 rfl dX8_isBeginning_22 f_X8_22 (by assumption) (by first | assumption | (simp only [mN_sF, mK_sF, mL_sF, mF_sF, mB_sF, mA_sF, mJ_sF, mP_sF, mO_sF, mN_sB, mK_sB, mL_sB, mF_sB, mB_sB, mA_sB, mJ_sB, mP_sB, mO_sB, mN_sA, mK_sA, mL_sA, mF_sA, mB_sA, mA_sA, mJ_sA, mP_sA, mO_sA, mN_sJ, mK_sJ, mL_sJ, mF_sJ, mB_sJ, mA_sJ, mJ_sJ, mP_sJ, mO_sJ, mN_sP, mK_sP, mL_sP, mF_sP, mB_sP, mA_sP, mJ_sP, mP_sP, mO_sP, mN_sO, mK_sO, mL_sO, mF_sO, mB_sO, mA_sO, mJ_sO, mP_sO, mO_sO, up2, if_true, if_false, eq_self, ite_true, ite_false, reduceIte, Nat.add_left_cancel_iff, Nat.add_eq_left, Nat.left_eq_add, Nat.reduceEqDiff]; assumption) | (simp only [mN_sF, mK_sF, mL_sF, mF_sF, mB_sF, mA_sF, mJ_sF, mP_sF, mO_sF, mN_sB, mK_sB, mL_sB, mF_sB, mB_sB, mA_sB, mJ_sB, mP_sB, mO_sB, mN_sA, mK_sA, mL_sA, mF_sA, mB_sA, mA_sA, mJ_sA, mP_sA, mO_sA, mN_sJ, mK_sJ, mL_sJ, mF_sJ, mB_sJ, mA_sJ, mJ_sJ, mP_sJ, mO_sJ, mN_sP, mK_sP, mL_sP, mF_sP, mB_sP, mA_sP, mJ_sP, mP_sP, mO_sP, mN_sO, mK_sO, mL_sO, mF_sO, mB_sO, mA_sO, mJ_sO, mP_sO, mO_sO, up2, if_true, if_false, eq_self, ite_true, ite_false, reduceIte, Nat.add_left_cancel_iff, Nat.add_eq_left, Nat.left_eq_add, Nat.reduceEqDiff]; done)) ?_ | refine e_getI 25 rfl dX8_isBeginning_22 f_X8_22 (by assumption) ?_
      first | refine e_cmp_geN 51 28 (by decide) rfl dX8_isBeginning_25 rfl rfl (by omega) (by omega) (fun h4 => ?_) (fun h4 => ?_) | refine e_cmp_ge 51 28 (by decide) rfl dX8_isBeginning_25 (fun h4 => ?_) (fun h4 => ?_)
      · omega
      refine e_al0 29 rfl dX8_isBeginning_28 ?_
      refine e_getR 32 rfl dX8_isBeginning_29 f_X8_19 (by assumption) (by assumption) ?_
      refine e_il3 33 rfl dX8_isBeginning_32 ?_
      first | refine e_baldv 34 rfl dX8_isBeginning_33 (by assumption) (by assumption) (by first | rfl | simp only [pk_mul, nI_add]) (by omega) (by omega) (by first | assumption | (simp only [mN_sF, mK_sF, mL_sF, mF_sF, mB_sF, mA_sF, mJ_sF, mP_sF, mO_sF, mN_sB, mK_sB, mL_sB, mF_sB, mB_sB, mA_sB, mJ_sB, mP_sB, mO_sB, mN_sA, mK_sA, mL_sA, mF_sA, mB_sA, mA_sA, mJ_sA, mP_sA, mO_sA, mN_sJ, mK_sJ, mL_sJ, mF_sJ, mB_sJ, mA_sJ, mJ_sJ, mP_sJ, mO_sJ, mN_sP, mK_sP, mL_sP, mF_sP, mB_sP, mA_sP, mJ_sP, mP_sP, mO_sP, mN_sO, mK_sO, mL_sO, mF_sO, mB_sO, mA_sO, mJ_sO, mP_sO, mO_sO, up2, if_true, if_false, eq_self, ite_true, ite_false, reduceIte, Nat.add_left_cancel_iff, Nat.add_eq_left, Nat.left_eq_add, Nat.reduceEqDiff]; assumption) | (simp only [mN_sF, mK_sF, mL_sF, mF_sF, mB_sF, mA_sF, mJ_sF, mP_sF, mO_sF, mN_sB, mK_sB, mL_sB, mF_sB, mB_sB, mA_sB, mJ_sB, mP_sB, mO_sB, mN_sA, mK_sA, mL_sA, mF_sA, mB_sA, mA_sA, mJ_sA, mP_sA, mO_sA, mN_sJ, mK_sJ, mL_sJ, mF_sJ, mB_sJ, mA_sJ, mJ_sJ, mP_sJ, mO_sJ, mN_sP, mK_sP, mL_sP, mF_sP, mB_sP, mA_sP, mJ_sP, mP_sP, mO_sP, mN_sO, mK_sO, mL_sO, mF_sO, mB_sO, mA_sO, mJ_sO, mP_sO, mO_sO, up2, if_true, if_false, eq_self, ite_true, ite_false, reduceIte, Nat.add_left_cancel_iff, Nat.add_eq_left, Nat.left_eq_add, Nat.reduceEqDiff]; done)) ?_ | refine e_zaldv 34 rfl dX8_isBeginning_33 (by assumption) (by assumption) (by first | rfl | simp only [pk_mul, nI_add]) (by omega) (by omega) (by first | assumption | (simp only [mN_sF, mK_sF, mL_sF, mF_sF, mB_sF, mA_sF, mJ_sF, mP_sF, mO_sF, mN_sB, mK_sB, mL_sB, mF_sB, mB_sB, mA_sB, mJ_sB, mP_sB, mO_sB, mN_sA, mK_sA, mL_sA, mF_sA, mB_sA, mA_sA, mJ_sA, mP_sA, mO_sA, mN_sJ, mK_sJ, mL_sJ, mF_sJ, mB_sJ, mA_sJ, mJ_sJ, mP_sJ, mO_sJ, mN_sP, mK_sP, mL_sP, mF_sP, mB_sP, mA_sP, mJ_sP, mP_sP, mO_sP, mN_sO, mK_sO, mL_sO, mF_sO, mB_sO, mA_sO, mJ_sO, mP_sO, mO_sO, up2, if_true, if_false, eq_self, ite_true, ite_false, reduceIte, Nat.add_left_cancel_iff, Nat.add_eq_left, Nat.left_eq_add, Nat.reduceEqDiff]; assumption) | (simp only [mN_sF, mK_sF, mL_sF, mF_sF, mB_sF, mA_sF, mJ_sF, mP_sF, mO_sF, mN_sB, mK_sB, mL_sB, mF_sB, mB_sB, mA_sB, mJ_sB, mP_sB, mO_sB, mN_sA, mK_sA, mL_sA, mF_sA, mB_sA, mA_sA, mJ_sA, mP_sA, mO_sA, mN_sJ, mK_sJ, mL_sJ, mF_sJ, mB_sJ, mA_sJ, mJ_sJ, mP_sJ, mO_sJ, mN_sP, mK_sP, mL_sP, mF_sP, mB_sP, mA_sP, mJ_sP, mP_sP, mO_sP, mN_sO, mK_sO, mL_sO, mF_sO, mB_sO, mA_sO, mJ_sO, mP_sO, mO_sO, up2, if_true, if_false, eq_self, ite_true, ite_false, reduceIte, Nat.add_left_cancel_iff, Nat.add_eq_left, Nat.left_eq_add, Nat.reduceEqDiff]; done)) ?_ | refine e_bald 34 rfl dX8_isBeginning_33 (by assumption) (by assumption) (by first | rfl | simp only [pk_mul, nI_add]) (by omega) (by omega) ?_ | refine e_zald 34 rfl dX8_isBeginning_33 (by assumption) (by assumption) (by first | rfl | simp only [pk_mul, nI_add]) (by omega) (by omega) ?_
      refine e_al1 35 rfl dX8_isBeginning_34 ?_
      refine e_getR 38 rfl dX8_isBeginning_35 f_X8_19 (by assumption) (by assumption) ?_
      refine e_il3 39 rfl dX8_isBeginning_38 ?_
      first | refine e_baldv 40 rfl dX8_isBeginning_39 (by assumption) (by assumption) (by first | rfl | simp only [pk_mul, nI_add]) (by omega) (by omega) (by first | assumption | (simp only [mN_sF, mK_sF, mL_sF, mF_sF, mB_sF, mA_sF, mJ_sF, mP_sF, mO_sF, mN_sB, mK_sB, mL_sB, mF_sB, mB_sB, mA_sB, mJ_sB, mP_sB, mO_sB, mN_sA, mK_sA, mL_sA, mF_sA, mB_sA, mA_sA, mJ_sA, mP_sA, mO_sA, mN_sJ, mK_sJ, mL_sJ, mF_sJ, mB_sJ, mA_sJ, mJ_sJ, mP_sJ, mO_sJ, mN_sP, mK_sP, mL_sP, mF_sP, mB_sP, mA_sP, mJ_sP, mP_sP, mO_sP, mN_sO, mK_sO, mL_sO, mF_sO, mB_sO, mA_sO, mJ_sO, mP_sO, mO_sO, up2, if_true, if_false, eq_self, ite_true, ite_false, reduceIte, Nat.add_left_cancel_iff, Nat.add_eq_left, Nat.left_eq_add, Nat.reduceEqDiff]; assumption) | (simp only [mN_sF, mK_sF, mL_sF, mF_sF, mB_sF, mA_sF, mJ_sF, mP_sF, mO_sF, mN_sB, mK_sB, mL_sB, mF_sB, mB_sB, mA_sB, mJ_sB, mP_sB, mO_sB, mN_sA, mK_sA, mL_sA, mF_sA, mB_sA, mA_sA, mJ_sA, mP_sA, mO_sA, mN_sJ, mK_sJ, mL_sJ, mF_sJ, mB_sJ, mA_sJ, mJ_sJ, mP_sJ, mO_sJ, mN_sP, mK_sP, mL_sP, mF_sP, mB_sP, mA_sP, mJ_sP, mP_sP, mO_sP, mN_sO, mK_sO, mL_sO, mF_sO, mB_sO, mA_sO, mJ_sO, mP_sO, mO_sO, up2, if_true, if_false, eq_self, ite_true, ite_false, reduceIte, Nat.add_left_cancel_iff, Nat.add_eq_left, Nat.left_eq_add, Nat.reduceEqDiff]; done)) ?_ | refine e_zaldv 40 rfl dX8_isBeginning_39 (by assumption) (by assumption) (by first | rfl | simp only [pk_mul, nI_add]) (by omega) (by omega) (by first | assumption | (simp only [mN_sF, mK_sF, mL_sF, mF_sF, mB_sF, mA_sF, mJ_sF, mP_sF, mO_sF, mN_sB, mK_sB, mL_sB, mF_sB, mB_sB, mA_sB, mJ_sB, mP_sB, mO_sB, mN_sA, mK_sA, mL_sA, mF_sA, mB_sA, mA_sA, mJ_sA, mP_sA, mO_sA, mN_sJ, mK_sJ, mL_sJ, mF_sJ, mB_sJ, mA_sJ, mJ_sJ, mP_sJ, mO_sJ, mN_sP, mK_sP, mL_sP, mF_sP, mB_sP, mA_sP, mJ_sP, mP_sP, mO_sP, mN_sO, mK_sO, mL_sO, mF_sO, mB_sO, mA_sO, mJ_sO, mP_sO, mO_sO, up2, if_true, if_false, eq_self, ite_true, ite_false, reduceIte, Nat.add_left_cancel_iff, Nat.add_eq_left, Nat.left_eq_add, Nat.reduceEqDiff]; assumption) | (simp only [mN_sF, mK_sF, mL_sF, mF_sF, mB_sF, mA_sF, mJ_sF, mP_sF, mO_sF, mN_sB, mK_sB, mL_sB, mF_sB, mB_sB, mA_sB, mJ_sB, mP_sB, mO_sB, mN_sA, mK_sA, mL_sA, mF_sA, mB_sA, mA_sA, mJ_sA, mP_sA, mO_sA, mN_sJ, mK_sJ, mL_sJ, mF_sJ, mB_sJ, mA_sJ, mJ_sJ, mP_sJ, mO_sJ, mN_sP, mK_sP, mL_sP, mF_sP, mB_sP, mA_sP, mJ_sP, mP_sP, mO_sP, mN_sO, mK_sO, mL_sO, mF_sO, mB_sO, mA_sO, mJ_sO, mP_sO, mO_sO, up2, if_true, if_false, eq_self, ite_true, ite_false, reduceIte, Nat.add_left_cancel_iff, Nat.add_eq_left, Nat.left_eq_add, Nat.reduceEqDiff]; done)) ?_ | refine e_bald 40 rfl dX8_isBeginning_39 (by assumption) (by assumption) (by first | rfl | simp only [pk_mul, nI_add]) (by omega) (by omega) ?_ | refine e_zald 40 rfl dX8_isBeginning_39 (by assumption) (by assumption) (by first | rfl | simp only [pk_mul, nI_add]) (by omega) (by omega) ?_
      first | refine e_cmp_eqN 45 43 (by decide) rfl dX8_isBeginning_40 rfl rfl (by omega) (by omega) (fun h5 => ?_) (fun h5 => ?_) | refine e_cmp_eq 45 43 (by decide) rfl dX8_isBeginning_40 (fun h5 => ?_) (fun h5 => ?_)
      · refine e_ii3 (nI (_ + 1)) 48 rfl dX8_isBeginning_45 (ii1 _) rfl ?_
        refine e_goto 20 (by decide) dX8_isBeginning_48 ?_
        exact ih (i + 1) (by omega) ((take_succ_eq h4 (by omega) he).mpr ((af.eq bf (fun c hc => by have := ac c hc; omega) (fun c hc => by have := bc c hc; omega) h4 (by omega)).mp h5))
      · refine e_iconst (nI 0) 44 rfl dX8_isBeginning_43 ic_0 ?_
        refine e_zret dX8_isBeginning_44 rfl (by first | exact z0 | exact z1 | exact bI01 _ | assumption) ?_
        refine no (fun q => h5 ((af.eq bf (fun c hc => by have := ac c hc; omega) (fun c hc => by have := bc c hc; omega) h4 (by omega)).mpr ((take_succ_eq h4 (by omega) he).mp ?_)))
        have e2 := q.2
        rw [show la.take (i + 1) = (lo.take m).take (i + 1) by rw [← e2], List.take_take, Nat.min_eq_left (by omega)]
  exact loop la.length 0 (by omega) rfl
theorem alike_iff {la lo : List Nat} : (la.length = lo.length ∧ la = lo.take lo.length) ↔ la = lo := by
  rw [List.take_length]
  exact ⟨fun h => h.2, fun h => ⟨by rw [h], h⟩⟩
theorem c_alike {a o : Nat} {la lo : List Nat} (hw : Wd μ a) (ho : Wd μ o) (ha : Wl μ a la) (hb : Wl μ o lo) (k : K (some (.int (bI (decide (la = lo))))) μ) : Cl E M_X8_alike [.ref a, .ref o] μ K := by
  have hk := hw.1
  have hko := ho.1
  have h3 := hb.1
  have h4 := hb.2.2.1
  refine Cl.of0 0 pn_X8 (Nat.le_of_ble_eq_true rfl) ⟨rfl, rfl⟩ rfl ?_
  refine e_al0 1 rfl dX8_alike_0 ?_
  refine e_al1 2 rfl dX8_alike_1 ?_
  refine e_al1 3 rfl dX8_alike_2 ?_
  first | refine e_getIv 6 rfl dX8_alike_3 f_X8_22 (by assumption) (by first | assumption | (simp only [mN_sF, mK_sF, mL_sF, mF_sF, mB_sF, mA_sF, mJ_sF, mP_sF, mO_sF, mN_sB, mK_sB, mL_sB, mF_sB, mB_sB, mA_sB, mJ_sB, mP_sB, mO_sB, mN_sA, mK_sA, mL_sA, mF_sA, mB_sA, mA_sA, mJ_sA, mP_sA, mO_sA, mN_sJ, mK_sJ, mL_sJ, mF_sJ, mB_sJ, mA_sJ, mJ_sJ, mP_sJ, mO_sJ, mN_sP, mK_sP, mL_sP, mF_sP, mB_sP, mA_sP, mJ_sP, mP_sP, mO_sP, mN_sO, mK_sO, mL_sO, mF_sO, mB_sO, mA_sO, mJ_sO, mP_sO, mO_sO, up2, if_true, if_false, eq_self, ite_true, ite_false, reduceIte, Nat.add_left_cancel_iff, Nat.add_eq_left, Nat.left_eq_add, Nat.reduceEqDiff]; assumption) | (simp only [mN_sF, mK_sF, mL_sF, mF_sF, mB_sF, mA_sF, mJ_sF, mP_sF, mO_sF, mN_sB, mK_sB, mL_sB, mF_sB, mB_sB, mA_sB, mJ_sB, mP_sB, mO_sB, mN_sA, mK_sA, mL_sA, mF_sA, mB_sA, mA_sA, mJ_sA, mP_sA, mO_sA, mN_sJ, mK_sJ, mL_sJ, mF_sJ, mB_sJ, mA_sJ, mJ_sJ, mP_sJ, mO_sJ, mN_sP, mK_sP, mL_sP, mF_sP, mB_sP, mA_sP, mJ_sP, mP_sP, mO_sP, mN_sO, mK_sO, mL_sO, mF_sO, mB_sO, mA_sO, mJ_sO, mP_sO, mO_sO, up2, if_true, if_false, eq_self, ite_true, ite_false, reduceIte, Nat.add_left_cancel_iff, Nat.add_eq_left, Nat.left_eq_add, Nat.reduceEqDiff]; done)) ?_ | refine e_getI 6 rfl dX8_alike_3 f_X8_22 (by assumption) ?_
  refine e_invV0 [_, _] 9 rfl dX8_alike_6 k_X8_36 mo_X8_isBeginning rm_X8_alike_X8_isBeginning ⟨rfl, rfl⟩ rfl rfl (by assumption) (Nat.le_of_ble_eq_true rfl) ?_
  refine c_isBeginning hw ho ha hb (by omega) (decide (la = lo)) (by rw [decide_eq_true_iff]; exact alike_iff.symm) ?_
  refine e_zret dX8_alike_9 rfl (by first | exact z0 | exact z1 | exact bI01 _ | assumption) ?_
  exact k
def fitL (la lo : List Nat) : Bool := decide (la = lo) || (decide (la.length = 1) && decide (la = lo.take 1)) || (decide (lo.length = 1) && decide (lo = la.take 1))
theorem c_fits {a o : Nat} {la lo : List Nat} (hw : Wd μ a) (ho : Wd μ o) (ha : Wl μ a la) (hb : Wl μ o lo) (k : K (some (.int (bI (fitL la lo)))) μ) : Cl E M_X8_fits [.ref a, .ref o] μ K := by
  have hk := hw.1
  have hko := ho.1
  refine Cl.of0 0 pn_X8 (Nat.le_of_ble_eq_true rfl) ⟨rfl, rfl⟩ rfl ?_
  refine e_al0 1 rfl dX8_fits_0 ?_
  refine e_al1 2 rfl dX8_fits_1 ?_
  refine e_invV0 [_] 5 rfl dX8_fits_2 k_X8_40 mo_X8_alike rm_X8_fits_X8_alike ⟨rfl, rfl⟩ rfl rfl (by assumption) (Nat.le_of_ble_eq_true rfl) ?_
  refine c_alike hw ho ha hb ?_
  first | refine e_if_neB 26 8 (by decide) rfl dX8_fits_5 rfl (fun h1 => ?_) (fun h1 => ?_) | refine e_if_neN 26 8 (by decide) rfl dX8_fits_5 rfl (by omega) (fun h1 => ?_) (fun h1 => ?_) | refine e_if_ne 26 8 (by decide) rfl dX8_fits_5 (fun h1 => ?_) (fun h1 => ?_)
  · refine e_iconst (nI 1) 27 rfl dX8_fits_26 ic_1 ?_
    refine e_goto 31 (by decide) dX8_fits_27 ?_
    refine e_zret dX8_fits_31 rfl (by first | exact z0 | exact z1 | exact bI01 _ | assumption) ?_
    rw [← bI_t (b := fitL la lo) (by simp [fitL, h1])]; exact k
  refine e_al0 9 rfl dX8_fits_8 ?_
  refine e_al1 10 rfl dX8_fits_9 ?_
  refine e_iconst (nI 1) 11 rfl dX8_fits_10 ic_1 ?_
  refine e_invV0 [_, _] 14 rfl dX8_fits_11 k_X8_36 mo_X8_isBeginning rm_X8_fits_X8_isBeginning ⟨rfl, rfl⟩ rfl rfl (by assumption) (Nat.le_of_ble_eq_true rfl) ?_
  refine c_isBeginning hw ho ha hb (by omega) (decide (la.length = 1) && decide (la = lo.take 1)) (by simp) ?_
  first | refine e_if_neB 26 17 (by decide) rfl dX8_fits_14 rfl (fun h2 => ?_) (fun h2 => ?_) | refine e_if_neN 26 17 (by decide) rfl dX8_fits_14 rfl (by omega) (fun h2 => ?_) (fun h2 => ?_) | refine e_if_ne 26 17 (by decide) rfl dX8_fits_14 (fun h2 => ?_) (fun h2 => ?_)
  · refine e_iconst (nI 1) 27 rfl dX8_fits_26 ic_1 ?_
    refine e_goto 31 (by decide) dX8_fits_27 ?_
    refine e_zret dX8_fits_31 rfl (by first | exact z0 | exact z1 | exact bI01 _ | assumption) ?_
    rw [← bI_t (b := fitL la lo) (by unfold fitL; rw [h2]; simp)]; exact k
  refine e_al1 18 rfl dX8_fits_17 ?_
  refine e_al0 19 rfl dX8_fits_18 ?_
  refine e_iconst (nI 1) 20 rfl dX8_fits_19 ic_1 ?_
  refine e_invV0 [_, _] 23 rfl dX8_fits_20 k_X8_36 mo_X8_isBeginning rm_X8_fits_X8_isBeginning ⟨rfl, rfl⟩ rfl rfl (by assumption) (Nat.le_of_ble_eq_true rfl) ?_
  refine c_isBeginning ho hw hb ha (by omega) (decide (lo.length = 1) && decide (lo = la.take 1)) (by simp) ?_
  first | refine e_if_eqB 30 26 (by decide) rfl dX8_fits_23 rfl (fun h3 => ?_) (fun h3 => ?_) | refine e_if_eqN 30 26 (by decide) rfl dX8_fits_23 rfl (by omega) (fun h3 => ?_) (fun h3 => ?_) | refine e_if_eq 30 26 (by decide) rfl dX8_fits_23 (fun h3 => ?_) (fun h3 => ?_)
  · refine e_iconst (nI 0) 31 rfl dX8_fits_30 ic_0 ?_
    refine e_zret dX8_fits_31 rfl (by first | exact z0 | exact z1 | exact bI01 _ | assumption) ?_
    rw [← bI_f (b := fitL la lo) (by unfold fitL; rw [h1, h2, h3]; rfl)]; exact k
  · refine e_iconst (nI 1) 27 rfl dX8_fits_26 ic_1 ?_
    refine e_goto 31 (by decide) dX8_fits_27 ?_
    refine e_zret dX8_fits_31 rfl (by first | exact z0 | exact z1 | exact bI01 _ | assumption) ?_
    rw [← bI_t (b := fitL la lo) (by unfold fitL; rw [h3]; simp)]; exact k
/-- endsWith(ending, many) -/
theorem c_endsWith {a t n m : Nat} {la en : List Nat} (hw : Wd μ a) (ha : Wl μ a la) (hkt : mK μ t = 12) (hlt : mL μ t = n) (hn : n < 2 ^ 31) (he : Hd (mB μ t) en) (hec : ∀ c ∈ en, c < 128) (hm : en.length = m) (hmn : m ≤ n) (b : Bool) (hbb : b = true ↔ m ≤ la.length ∧ la.drop (la.length - m) = en) (k : K (some (.int (bI b))) μ) : Cl E M_X8_endsWith [.ref a, .ref t, .int (nI m)] μ K := by
  obtain ⟨hk, h0, h2, hk1, hl1, hk2, hl2⟩ := hw
  obtain ⟨a3, af, al, ac⟩ := ha
  have no : ¬ (m ≤ la.length ∧ la.drop (la.length - m) = en) → K (some (.int (nI 0))) μ := fun h => by rw [← bI_f (b := b) (by cases b; rfl; exact absurd (hbb.mp rfl) h)]; exact k
  refine Cl.of0 1 pn_X8 (Nat.le_of_ble_eq_true rfl) ⟨rfl, rfl⟩ rfl ?_
  refine e_il2 1 rfl dX8_endsWith_0 ?_
  refine e_al1 2 rfl dX8_endsWith_1 ?_
  refine e_alen 3 rfl dX8_endsWith_2 (by first | exact Or.inl (by assumption) | exact Or.inr (Or.inl (by assumption)) | exact Or.inr (Or.inr (by assumption))) (by assumption) ?_
  first | refine e_cmp_gtN 14 6 (by decide) rfl dX8_endsWith_3 rfl rfl (by omega) (by omega) (fun h1 => ?_) (fun h1 => ?_) | refine e_cmp_gt 14 6 (by decide) rfl dX8_endsWith_3 (fun h1 => ?_) (fun h1 => ?_)
  · omega
  refine e_il2 7 rfl dX8_endsWith_6 ?_
  refine e_al0 8 rfl dX8_endsWith_7 ?_
  first | refine e_getIv 11 rfl dX8_endsWith_8 f_X8_22 (by assumption) (by first | assumption | (simp only [mN_sF, mK_sF, mL_sF, mF_sF, mB_sF, mA_sF, mJ_sF, mP_sF, mO_sF, mN_sB, mK_sB, mL_sB, mF_sB, mB_sB, mA_sB, mJ_sB, mP_sB, mO_sB, mN_sA, mK_sA, mL_sA, mF_sA, mB_sA, mA_sA, mJ_sA, mP_sA, mO_sA, mN_sJ, mK_sJ, mL_sJ, mF_sJ, mB_sJ, mA_sJ, mJ_sJ, mP_sJ, mO_sJ, mN_sP, mK_sP, mL_sP, mF_sP, mB_sP, mA_sP, mJ_sP, mP_sP, mO_sP, mN_sO, mK_sO, mL_sO, mF_sO, mB_sO, mA_sO, mJ_sO, mP_sO, mO_sO, up2, if_true, if_false, eq_self, ite_true, ite_false, reduceIte, Nat.add_left_cancel_iff, Nat.add_eq_left, Nat.left_eq_add, Nat.reduceEqDiff]; assumption) | (simp only [mN_sF, mK_sF, mL_sF, mF_sF, mB_sF, mA_sF, mJ_sF, mP_sF, mO_sF, mN_sB, mK_sB, mL_sB, mF_sB, mB_sB, mA_sB, mJ_sB, mP_sB, mO_sB, mN_sA, mK_sA, mL_sA, mF_sA, mB_sA, mA_sA, mJ_sA, mP_sA, mO_sA, mN_sJ, mK_sJ, mL_sJ, mF_sJ, mB_sJ, mA_sJ, mJ_sJ, mP_sJ, mO_sJ, mN_sP, mK_sP, mL_sP, mF_sP, mB_sP, mA_sP, mJ_sP, mP_sP, mO_sP, mN_sO, mK_sO, mL_sO, mF_sO, mB_sO, mA_sO, mJ_sO, mP_sO, mO_sO, up2, if_true, if_false, eq_self, ite_true, ite_false, reduceIte, Nat.add_left_cancel_iff, Nat.add_eq_left, Nat.left_eq_add, Nat.reduceEqDiff]; done)) ?_ | refine e_getI 11 rfl dX8_endsWith_8 f_X8_22 (by assumption) ?_
  first | refine e_cmp_leN 16 14 (by decide) rfl dX8_endsWith_11 rfl rfl (by omega) (by omega) (fun h3 => ?_) (fun h3 => ?_) | refine e_cmp_le 16 14 (by decide) rfl dX8_endsWith_11 (fun h3 => ?_) (fun h3 => ?_)
  rotate_left
  · refine e_iconst (nI 0) 15 rfl dX8_endsWith_14 ic_0 ?_
    refine e_zret dX8_endsWith_15 rfl (by first | exact z0 | exact z1 | exact bI01 _ | assumption) ?_
    exact no (fun q => by omega)
  refine e_iconst (nI 0) 17 rfl dX8_endsWith_16 ic_0 ?_
  refine e_is3 18 rfl dX8_endsWith_17 (by decide) rfl ?_
  have loop : ∀ (k i : Nat), i + k = m → (la.drop (la.length - m)).take i = en.take i → Ev E M_X8_endsWith 0 0 18 [some (.ref a), some (.ref t), some (.int (nI m)), some (.int (nI i))] [] μ K := by
    intro k
    induction k with
    | zero =>
      intro i hi he
      refine e_il3 19 rfl dX8_endsWith_18 ?_
      refine e_il2 20 rfl dX8_endsWith_19 ?_
      first | refine e_cmp_geN 50 23 (by decide) rfl dX8_endsWith_20 rfl rfl (by omega) (by omega) (fun h4 => ?_) (fun h4 => ?_) | refine e_cmp_ge 50 23 (by decide) rfl dX8_endsWith_20 (fun h4 => ?_) (fun h4 => ?_)
      · refine e_iconst (nI 1) 51 rfl dX8_endsWith_50 ic_1 ?_
        refine e_zret dX8_endsWith_51 rfl (by first | exact z0 | exact z1 | exact bI01 _ | assumption) ?_
        have e1 : i = m := by omega
        rw [← bI_t (b := b) (hbb.mpr ⟨h3, by rw [e1, List.take_of_length_le (by simp; omega), List.take_of_length_le (by omega)] at he; exact he⟩)]
        exact k
      · omega
    | succ k ih =>
      intro i hi he0
      have hle : (la.drop (la.length - m)).length = m := by simp; omega
      have hge : (la.drop (la.length - m))[i]'(by omega) = la[la.length - m + i]'(by omega) := by simp
      refine e_il3 19 rfl dX8_endsWith_18 ?_
      refine e_il2 20 rfl dX8_endsWith_19 ?_
      first | refine e_cmp_geN 50 23 (by decide) rfl dX8_endsWith_20 rfl rfl (by omega) (by omega) (fun h4 => ?_) (fun h4 => ?_) | refine e_cmp_ge 50 23 (by decide) rfl dX8_endsWith_20 (fun h4 => ?_) (fun h4 => ?_)
      · omega
      have key : mB μ (a + 2) (la.length - m + i) = mB μ t i ↔ (la.drop (la.length - m))[i]'(by omega) = en[i]'(by omega) := by
        rw [hge, af.at (by omega), he.at (by omega)]
        exact nI_eq (by have := ac _ (List.getElem_mem (show la.length - m + i < la.length by omega)); omega) (by have := hec _ (List.getElem_mem (show i < en.length by omega)); omega)
      refine e_al0 24 rfl dX8_endsWith_23 ?_
      refine e_getR 27 rfl dX8_endsWith_24 f_X8_19 (by assumption) (by assumption) ?_
      refine e_al0 28 rfl dX8_endsWith_27 ?_
      first | refine e_getIv 31 rfl dX8_endsWith_28 f_X8_22 (by assumption) (by first | assumption | (simp only [mN_sF, mK_sF, mL_sF, mF_sF, mB_sF, mA_sF, mJ_sF, mP_sF, mO_sF, mN_sB, mK_sB, mL_sB, mF_sB, mB_sB, mA_sB, mJ_sB, mP_sB, mO_sB, mN_sA, mK_sA, mL_sA, mF_sA, mB_sA, mA_sA, mJ_sA, mP_sA, mO_sA, mN_sJ, mK_sJ, mL_sJ, mF_sJ, mB_sJ, mA_sJ, mJ_sJ, mP_sJ, mO_sJ, mN_sP, mK_sP, mL_sP, mF_sP, mB_sP, mA_sP, mJ_sP, mP_sP, mO_sP, mN_sO, mK_sO, mL_sO, mF_sO, mB_sO, mA_sO, mJ_sO, mP_sO, mO_sO, up2, if_true, if_false, eq_self, ite_true, ite_false, reduceIte, Nat.add_left_cancel_iff, Nat.add_eq_left, Nat.left_eq_add, Nat.reduceEqDiff]; assumption) | (simp only [mN_sF, mK_sF, mL_sF, mF_sF, mB_sF, mA_sF, mJ_sF, mP_sF, mO_sF, mN_sB, mK_sB, mL_sB, mF_sB, mB_sB, mA_sB, mJ_sB, mP_sB, mO_sB, mN_sA, mK_sA, mL_sA, mF_sA, mB_sA, mA_sA, mJ_sA, mP_sA, mO_sA, mN_sJ, mK_sJ, mL_sJ, mF_sJ, mB_sJ, mA_sJ, mJ_sJ, mP_sJ, mO_sJ, mN_sP, mK_sP, mL_sP, mF_sP, mB_sP, mA_sP, mJ_sP, mP_sP, mO_sP, mN_sO, mK_sO, mL_sO, mF_sO, mB_sO, mA_sO, mJ_sO, mP_sO, mO_sO, up2, if_true, if_false, eq_self, ite_true, ite_false, reduceIte, Nat.add_left_cancel_iff, Nat.add_eq_left, Nat.left_eq_add, Nat.reduceEqDiff]; done)) ?_ | refine e_getI 31 rfl dX8_endsWith_28 f_X8_22 (by assumption) ?_
      refine e_il2 32 rfl dX8_endsWith_31 ?_
      first | refine e_isubN 33 rfl dX8_endsWith_32 rfl rfl (by omega) ?_ | refine e_isub 33 rfl dX8_endsWith_32 ?_
      refine e_il3 34 rfl dX8_endsWith_33 ?_
      first | refine e_iaddN 35 rfl dX8_endsWith_34 rfl rfl ?_ | refine e_iadd 35 rfl dX8_endsWith_34 ?_
      first | refine e_baldv 36 rfl dX8_endsWith_35 (by assumption) (by assumption) (by first | rfl | simp only [pk_mul, nI_add]) (by omega) (by omega) (by first | assumption | (simp only [mN_sF, mK_sF, mL_sF, mF_sF, mB_sF, mA_sF, mJ_sF, mP_sF, mO_sF, mN_sB, mK_sB, mL_sB, mF_sB, mB_sB, mA_sB, mJ_sB, mP_sB, mO_sB, mN_sA, mK_sA, mL_sA, mF_sA, mB_sA, mA_sA, mJ_sA, mP_sA, mO_sA, mN_sJ, mK_sJ, mL_sJ, mF_sJ, mB_sJ, mA_sJ, mJ_sJ, mP_sJ, mO_sJ, mN_sP, mK_sP, mL_sP, mF_sP, mB_sP, mA_sP, mJ_sP, mP_sP, mO_sP, mN_sO, mK_sO, mL_sO, mF_sO, mB_sO, mA_sO, mJ_sO, mP_sO, mO_sO, up2, if_true, if_false, eq_self, ite_true, ite_false, reduceIte, Nat.add_left_cancel_iff, Nat.add_eq_left, Nat.left_eq_add, Nat.reduceEqDiff]; assumption) | (simp only [mN_sF, mK_sF, mL_sF, mF_sF, mB_sF, mA_sF, mJ_sF, mP_sF, mO_sF, mN_sB, mK_sB, mL_sB, mF_sB, mB_sB, mA_sB, mJ_sB, mP_sB, mO_sB, mN_sA, mK_sA, mL_sA, mF_sA, mB_sA, mA_sA, mJ_sA, mP_sA, mO_sA, mN_sJ, mK_sJ, mL_sJ, mF_sJ, mB_sJ, mA_sJ, mJ_sJ, mP_sJ, mO_sJ, mN_sP, mK_sP, mL_sP, mF_sP, mB_sP, mA_sP, mJ_sP, mP_sP, mO_sP, mN_sO, mK_sO, mL_sO, mF_sO, mB_sO, mA_sO, mJ_sO, mP_sO, mO_sO, up2, if_true, if_false, eq_self, ite_true, ite_false, reduceIte, Nat.add_left_cancel_iff, Nat.add_eq_left, Nat.left_eq_add, Nat.reduceEqDiff]; done)) ?_ | refine e_zaldv 36 rfl dX8_endsWith_35 (by assumption) (by assumption) (by first | rfl | simp only [pk_mul, nI_add]) (by omega) (by omega) (by first | assumption | (simp only [mN_sF, mK_sF, mL_sF, mF_sF, mB_sF, mA_sF, mJ_sF, mP_sF, mO_sF, mN_sB, mK_sB, mL_sB, mF_sB, mB_sB, mA_sB, mJ_sB, mP_sB, mO_sB, mN_sA, mK_sA, mL_sA, mF_sA, mB_sA, mA_sA, mJ_sA, mP_sA, mO_sA, mN_sJ, mK_sJ, mL_sJ, mF_sJ, mB_sJ, mA_sJ, mJ_sJ, mP_sJ, mO_sJ, mN_sP, mK_sP, mL_sP, mF_sP, mB_sP, mA_sP, mJ_sP, mP_sP, mO_sP, mN_sO, mK_sO, mL_sO, mF_sO, mB_sO, mA_sO, mJ_sO, mP_sO, mO_sO, up2, if_true, if_false, eq_self, ite_true, ite_false, reduceIte, Nat.add_left_cancel_iff, Nat.add_eq_left, Nat.left_eq_add, Nat.reduceEqDiff]; assumption) | (simp only [mN_sF, mK_sF, mL_sF, mF_sF, mB_sF, mA_sF, mJ_sF, mP_sF, mO_sF, mN_sB, mK_sB, mL_sB, mF_sB, mB_sB, mA_sB, mJ_sB, mP_sB, mO_sB, mN_sA, mK_sA, mL_sA, mF_sA, mB_sA, mA_sA, mJ_sA, mP_sA, mO_sA, mN_sJ, mK_sJ, mL_sJ, mF_sJ, mB_sJ, mA_sJ, mJ_sJ, mP_sJ, mO_sJ, mN_sP, mK_sP, mL_sP, mF_sP, mB_sP, mA_sP, mJ_sP, mP_sP, mO_sP, mN_sO, mK_sO, mL_sO, mF_sO, mB_sO, mA_sO, mJ_sO, mP_sO, mO_sO, up2, if_true, if_false, eq_self, ite_true, ite_false, reduceIte, Nat.add_left_cancel_iff, Nat.add_eq_left, Nat.left_eq_add, Nat.reduceEqDiff]; done)) ?_ | refine e_bald 36 rfl dX8_endsWith_35 (by assumption) (by assumption) (by first | rfl | simp only [pk_mul, nI_add]) (by omega) (by omega) ?_ | refine e_zald 36 rfl dX8_endsWith_35 (by assumption) (by assumption) (by first | rfl | simp only [pk_mul, nI_add]) (by omega) (by omega) ?_
      refine e_al1 37 rfl dX8_endsWith_36 ?_
      refine e_il3 38 rfl dX8_endsWith_37 ?_
      first | refine e_baldv 39 rfl dX8_endsWith_38 (by assumption) (by assumption) (by first | rfl | simp only [pk_mul, nI_add]) (by omega) (by omega) (by first | assumption | (simp only [mN_sF, mK_sF, mL_sF, mF_sF, mB_sF, mA_sF, mJ_sF, mP_sF, mO_sF, mN_sB, mK_sB, mL_sB, mF_sB, mB_sB, mA_sB, mJ_sB, mP_sB, mO_sB, mN_sA, mK_sA, mL_sA, mF_sA, mB_sA, mA_sA, mJ_sA, mP_sA, mO_sA, mN_sJ, mK_sJ, mL_sJ, mF_sJ, mB_sJ, mA_sJ, mJ_sJ, mP_sJ, mO_sJ, mN_sP, mK_sP, mL_sP, mF_sP, mB_sP, mA_sP, mJ_sP, mP_sP, mO_sP, mN_sO, mK_sO, mL_sO, mF_sO, mB_sO, mA_sO, mJ_sO, mP_sO, mO_sO, up2, if_true, if_false, eq_self, ite_true, ite_false, reduceIte, Nat.add_left_cancel_iff, Nat.add_eq_left, Nat.left_eq_add, Nat.reduceEqDiff]; assumption) | (simp only [mN_sF, mK_sF, mL_sF, mF_sF, mB_sF, mA_sF, mJ_sF, mP_sF, mO_sF, mN_sB, mK_sB, mL_sB, mF_sB, mB_sB, mA_sB, mJ_sB, mP_sB, mO_sB, mN_sA, mK_sA, mL_sA, mF_sA, mB_sA, mA_sA, mJ_sA, mP_sA, mO_sA, mN_sJ, mK_sJ, mL_sJ, mF_sJ, mB_sJ, mA_sJ, mJ_sJ, mP_sJ, mO_sJ, mN_sP, mK_sP, mL_sP, mF_sP, mB_sP, mA_sP, mJ_sP, mP_sP, mO_sP, mN_sO, mK_sO, mL_sO, mF_sO, mB_sO, mA_sO, mJ_sO, mP_sO, mO_sO, up2, if_true, if_false, eq_self, ite_true, ite_false, reduceIte, Nat.add_left_cancel_iff, Nat.add_eq_left, Nat.left_eq_add, Nat.reduceEqDiff]; done)) ?_ | refine e_zaldv 39 rfl dX8_endsWith_38 (by assumption) (by assumption) (by first | rfl | simp only [pk_mul, nI_add]) (by omega) (by omega) (by first | assumption | (simp only [mN_sF, mK_sF, mL_sF, mF_sF, mB_sF, mA_sF, mJ_sF, mP_sF, mO_sF, mN_sB, mK_sB, mL_sB, mF_sB, mB_sB, mA_sB, mJ_sB, mP_sB, mO_sB, mN_sA, mK_sA, mL_sA, mF_sA, mB_sA, mA_sA, mJ_sA, mP_sA, mO_sA, mN_sJ, mK_sJ, mL_sJ, mF_sJ, mB_sJ, mA_sJ, mJ_sJ, mP_sJ, mO_sJ, mN_sP, mK_sP, mL_sP, mF_sP, mB_sP, mA_sP, mJ_sP, mP_sP, mO_sP, mN_sO, mK_sO, mL_sO, mF_sO, mB_sO, mA_sO, mJ_sO, mP_sO, mO_sO, up2, if_true, if_false, eq_self, ite_true, ite_false, reduceIte, Nat.add_left_cancel_iff, Nat.add_eq_left, Nat.left_eq_add, Nat.reduceEqDiff]; assumption) | (simp only [mN_sF, mK_sF, mL_sF, mF_sF, mB_sF, mA_sF, mJ_sF, mP_sF, mO_sF, mN_sB, mK_sB, mL_sB, mF_sB, mB_sB, mA_sB, mJ_sB, mP_sB, mO_sB, mN_sA, mK_sA, mL_sA, mF_sA, mB_sA, mA_sA, mJ_sA, mP_sA, mO_sA, mN_sJ, mK_sJ, mL_sJ, mF_sJ, mB_sJ, mA_sJ, mJ_sJ, mP_sJ, mO_sJ, mN_sP, mK_sP, mL_sP, mF_sP, mB_sP, mA_sP, mJ_sP, mP_sP, mO_sP, mN_sO, mK_sO, mL_sO, mF_sO, mB_sO, mA_sO, mJ_sO, mP_sO, mO_sO, up2, if_true, if_false, eq_self, ite_true, ite_false, reduceIte, Nat.add_left_cancel_iff, Nat.add_eq_left, Nat.left_eq_add, Nat.reduceEqDiff]; done)) ?_ | refine e_bald 39 rfl dX8_endsWith_38 (by assumption) (by assumption) (by first | rfl | simp only [pk_mul, nI_add]) (by omega) (by omega) ?_ | refine e_zald 39 rfl dX8_endsWith_38 (by assumption) (by assumption) (by first | rfl | simp only [pk_mul, nI_add]) (by omega) (by omega) ?_
      first | refine e_cmp_eqN 44 42 (by decide) rfl dX8_endsWith_39 rfl rfl (by omega) (by omega) (fun h5 => ?_) (fun h5 => ?_) | refine e_cmp_eq 44 42 (by decide) rfl dX8_endsWith_39 (fun h5 => ?_) (fun h5 => ?_)
      · refine e_ii3 (nI (_ + 1)) 47 rfl dX8_endsWith_44 (ii1 _) rfl ?_
        refine e_goto 18 (by decide) dX8_endsWith_47 ?_
        exact ih (i + 1) (by omega) ((take_succ_eq (by omega) (by omega) he0).mpr (key.mp h5))
      · refine e_iconst (nI 0) 43 rfl dX8_endsWith_42 ic_0 ?_
        refine e_zret dX8_endsWith_43 rfl (by first | exact z0 | exact z1 | exact bI01 _ | assumption) ?_
        exact no (fun q => h5 (key.mpr ((take_succ_eq (by omega) (by omega) he0).mp (by rw [q.2]))))
  exact loop m 0 (by omega) rfl
/-- compareLetters -/
def cmpL : List Nat → List Nat → Int
  | x :: xs, y :: ys => if x = y then cmpL xs ys else (x : Int) - y
  | xs, ys => (xs.length : Int) - ys.length
theorem nI_int (n : Nat) : nI n = Int32.ofInt (n : Int) := by apply Int32.toBitVec_inj.mp; simp [nI]
theorem nI_subI (x y : Nat) : nI x - nI y = Int32.ofInt ((x : Int) - y) := by rw [nI_int, nI_int, Int32.ofInt_sub]
theorem cmpL_drop {la lo : List Nat} {i : Nat} (h1 : i < la.length) (h2 : i < lo.length) : cmpL (la.drop i) (lo.drop i) = if la[i] = lo[i] then cmpL (la.drop (i + 1)) (lo.drop (i + 1)) else (la[i] : Int) - lo[i] := by
  rw [List.drop_eq_getElem_cons h1, List.drop_eq_getElem_cons h2]
  rfl
theorem cmpL_end {la lo : List Nat} (h : la = [] ∨ lo = []) : cmpL la lo = (la.length : Int) - lo.length := by
  rcases h with rfl | rfl
  · cases lo <;> rfl
  · cases la <;> rfl
theorem c_compareLetters {a o : Nat} {la lo : List Nat} (hw : Wd μ a) (ho : Wd μ o) (ha : Wl μ a la) (hb : Wl μ o lo) (k : K (some (.int (Int32.ofInt (cmpL la lo)))) μ) : Cl E M_X8_compareLetters [.ref a, .ref o] μ K := by
  obtain ⟨hk, h0, h2, hk1, hl1, hk2, hl2⟩ := hw
  obtain ⟨ok, o0, o2, ok1, ol1, ok2, ol2⟩ := ho
  obtain ⟨a3, af, al, ac⟩ := ha
  obtain ⟨b3, bf, bl, bc⟩ := hb
  refine Cl.of0 1 pn_X8 (Nat.le_of_ble_eq_true rfl) ⟨rfl, rfl⟩ rfl ?_
  refine e_iconst (nI 0) 1 rfl dX8_compareLetters_0 ic_0 ?_
  refine e_is2 2 rfl dX8_compareLetters_1 (by decide) rfl ?_
  have fin : ∀ i : Nat, i ≤ la.length → i ≤ lo.length → (la.length ≤ i ∨ lo.length ≤ i) → cmpL (la.drop i) (lo.drop i) = cmpL la lo → Ev E M_X8_compareLetters 0 0 53 [some (.ref a), some (.ref o), some (.int (nI i))] [] μ K := by
    intro i hi1 hi2 hor he
    refine e_al0 54 rfl dX8_compareLetters_53 ?_
    first | refine e_getIv 57 rfl dX8_compareLetters_54 f_X8_22 (by assumption) (by first | assumption | (simp only [mN_sF, mK_sF, mL_sF, mF_sF, mB_sF, mA_sF, mJ_sF, mP_sF, mO_sF, mN_sB, mK_sB, mL_sB, mF_sB, mB_sB, mA_sB, mJ_sB, mP_sB, mO_sB, mN_sA, mK_sA, mL_sA, mF_sA, mB_sA, mA_sA, mJ_sA, mP_sA, mO_sA, mN_sJ, mK_sJ, mL_sJ, mF_sJ, mB_sJ, mA_sJ, mJ_sJ, mP_sJ, mO_sJ, mN_sP, mK_sP, mL_sP, mF_sP, mB_sP, mA_sP, mJ_sP, mP_sP, mO_sP, mN_sO, mK_sO, mL_sO, mF_sO, mB_sO, mA_sO, mJ_sO, mP_sO, mO_sO, up2, if_true, if_false, eq_self, ite_true, ite_false, reduceIte, Nat.add_left_cancel_iff, Nat.add_eq_left, Nat.left_eq_add, Nat.reduceEqDiff]; assumption) | (simp only [mN_sF, mK_sF, mL_sF, mF_sF, mB_sF, mA_sF, mJ_sF, mP_sF, mO_sF, mN_sB, mK_sB, mL_sB, mF_sB, mB_sB, mA_sB, mJ_sB, mP_sB, mO_sB, mN_sA, mK_sA, mL_sA, mF_sA, mB_sA, mA_sA, mJ_sA, mP_sA, mO_sA, mN_sJ, mK_sJ, mL_sJ, mF_sJ, mB_sJ, mA_sJ, mJ_sJ, mP_sJ, mO_sJ, mN_sP, mK_sP, mL_sP, mF_sP, mB_sP, mA_sP, mJ_sP, mP_sP, mO_sP, mN_sO, mK_sO, mL_sO, mF_sO, mB_sO, mA_sO, mJ_sO, mP_sO, mO_sO, up2, if_true, if_false, eq_self, ite_true, ite_false, reduceIte, Nat.add_left_cancel_iff, Nat.add_eq_left, Nat.left_eq_add, Nat.reduceEqDiff]; done)) ?_ | refine e_getI 57 rfl dX8_compareLetters_54 f_X8_22 (by assumption) ?_
    refine e_al1 58 rfl dX8_compareLetters_57 ?_
    first | refine e_getIv 61 rfl dX8_compareLetters_58 f_X8_22 (by assumption) (by first | assumption | (simp only [mN_sF, mK_sF, mL_sF, mF_sF, mB_sF, mA_sF, mJ_sF, mP_sF, mO_sF, mN_sB, mK_sB, mL_sB, mF_sB, mB_sB, mA_sB, mJ_sB, mP_sB, mO_sB, mN_sA, mK_sA, mL_sA, mF_sA, mB_sA, mA_sA, mJ_sA, mP_sA, mO_sA, mN_sJ, mK_sJ, mL_sJ, mF_sJ, mB_sJ, mA_sJ, mJ_sJ, mP_sJ, mO_sJ, mN_sP, mK_sP, mL_sP, mF_sP, mB_sP, mA_sP, mJ_sP, mP_sP, mO_sP, mN_sO, mK_sO, mL_sO, mF_sO, mB_sO, mA_sO, mJ_sO, mP_sO, mO_sO, up2, if_true, if_false, eq_self, ite_true, ite_false, reduceIte, Nat.add_left_cancel_iff, Nat.add_eq_left, Nat.left_eq_add, Nat.reduceEqDiff]; assumption) | (simp only [mN_sF, mK_sF, mL_sF, mF_sF, mB_sF, mA_sF, mJ_sF, mP_sF, mO_sF, mN_sB, mK_sB, mL_sB, mF_sB, mB_sB, mA_sB, mJ_sB, mP_sB, mO_sB, mN_sA, mK_sA, mL_sA, mF_sA, mB_sA, mA_sA, mJ_sA, mP_sA, mO_sA, mN_sJ, mK_sJ, mL_sJ, mF_sJ, mB_sJ, mA_sJ, mJ_sJ, mP_sJ, mO_sJ, mN_sP, mK_sP, mL_sP, mF_sP, mB_sP, mA_sP, mJ_sP, mP_sP, mO_sP, mN_sO, mK_sO, mL_sO, mF_sO, mB_sO, mA_sO, mJ_sO, mP_sO, mO_sO, up2, if_true, if_false, eq_self, ite_true, ite_false, reduceIte, Nat.add_left_cancel_iff, Nat.add_eq_left, Nat.left_eq_add, Nat.reduceEqDiff]; done)) ?_ | refine e_getI 61 rfl dX8_compareLetters_58 f_X8_22 (by assumption) ?_
    refine e_isub 62 rfl dX8_compareLetters_61 ?_
    refine e_iret dX8_compareLetters_62 rfl ?_
    have e2 : cmpL la lo = (la.length : Int) - lo.length := by
      rw [← he, cmpL_end (by rcases hor with q | q; exact Or.inl (List.drop_eq_nil_of_le q); exact Or.inr (List.drop_eq_nil_of_le q))]
      simp
      omega
    rw [nI_subI, ← e2]
    exact k
  have loop : ∀ (fu i : Nat), i + fu = la.length → i ≤ lo.length → cmpL (la.drop i) (lo.drop i) = cmpL la lo → Ev E M_X8_compareLetters 0 0 2 [some (.ref a), some (.ref o), some (.int (nI i))] [] μ K := by
    intro fu
    induction fu with
    | zero =>
      intro i hi hi2 he
      refine e_il2 3 rfl dX8_compareLetters_2 ?_
      refine e_al0 4 rfl dX8_compareLetters_3 ?_
      first | refine e_getIv 7 rfl dX8_compareLetters_4 f_X8_22 (by assumption) (by first | assumption | (simp only [mN_sF, mK_sF, mL_sF, mF_sF, mB_sF, mA_sF, mJ_sF, mP_sF, mO_sF, mN_sB, mK_sB, mL_sB, mF_sB, mB_sB, mA_sB, mJ_sB, mP_sB, mO_sB, mN_sA, mK_sA, mL_sA, mF_sA, mB_sA, mA_sA, mJ_sA, mP_sA, mO_sA, mN_sJ, mK_sJ, mL_sJ, mF_sJ, mB_sJ, mA_sJ, mJ_sJ, mP_sJ, mO_sJ, mN_sP, mK_sP, mL_sP, mF_sP, mB_sP, mA_sP, mJ_sP, mP_sP, mO_sP, mN_sO, mK_sO, mL_sO, mF_sO, mB_sO, mA_sO, mJ_sO, mP_sO, mO_sO, up2, if_true, if_false, eq_self, ite_true, ite_false, reduceIte, Nat.add_left_cancel_iff, Nat.add_eq_left, Nat.left_eq_add, Nat.reduceEqDiff]; assumption) | (simp only [mN_sF, mK_sF, mL_sF, mF_sF, mB_sF, mA_sF, mJ_sF, mP_sF, mO_sF, mN_sB, mK_sB, mL_sB, mF_sB, mB_sB, mA_sB, mJ_sB, mP_sB, mO_sB, mN_sA, mK_sA, mL_sA, mF_sA, mB_sA, mA_sA, mJ_sA, mP_sA, mO_sA, mN_sJ, mK_sJ, mL_sJ, mF_sJ, mB_sJ, mA_sJ, mJ_sJ, mP_sJ, mO_sJ, mN_sP, mK_sP, mL_sP, mF_sP, mB_sP, mA_sP, mJ_sP, mP_sP, mO_sP, mN_sO, mK_sO, mL_sO, mF_sO, mB_sO, mA_sO, mJ_sO, mP_sO, mO_sO, up2, if_true, if_false, eq_self, ite_true, ite_false, reduceIte, Nat.add_left_cancel_iff, Nat.add_eq_left, Nat.left_eq_add, Nat.reduceEqDiff]; done)) ?_ | refine e_getI 7 rfl dX8_compareLetters_4 f_X8_22 (by assumption) ?_
      first | refine e_cmp_geN 53 10 (by decide) rfl dX8_compareLetters_7 rfl rfl (by omega) (by omega) (fun h4 => ?_) (fun h4 => ?_) | refine e_cmp_ge 53 10 (by decide) rfl dX8_compareLetters_7 (fun h4 => ?_) (fun h4 => ?_)
      · exact fin i (by omega) hi2 (Or.inl h4) he
      · omega
    | succ fu ih =>
      intro i hi hi2 he
      refine e_il2 3 rfl dX8_compareLetters_2 ?_
      refine e_al0 4 rfl dX8_compareLetters_3 ?_
      first | refine e_getIv 7 rfl dX8_compareLetters_4 f_X8_22 (by assumption) (by first | assumption | (simp only [mN_sF, mK_sF, mL_sF, mF_sF, mB_sF, mA_sF, mJ_sF, mP_sF, mO_sF, mN_sB, mK_sB, mL_sB, mF_sB, mB_sB, mA_sB, mJ_sB, mP_sB, mO_sB, mN_sA, mK_sA, mL_sA, mF_sA, mB_sA, mA_sA, mJ_sA, mP_sA, mO_sA, mN_sJ, mK_sJ, mL_sJ, mF_sJ, mB_sJ, mA_sJ, mJ_sJ, mP_sJ, mO_sJ, mN_sP, mK_sP, mL_sP, mF_sP, mB_sP, mA_sP, mJ_sP, mP_sP, mO_sP, mN_sO, mK_sO, mL_sO, mF_sO, mB_sO, mA_sO, mJ_sO, mP_sO, mO_sO, up2, if_true, if_false, eq_self, ite_true, ite_false, reduceIte, Nat.add_left_cancel_iff, Nat.add_eq_left, Nat.left_eq_add, Nat.reduceEqDiff]; assumption) | (simp only [mN_sF, mK_sF, mL_sF, mF_sF, mB_sF, mA_sF, mJ_sF, mP_sF, mO_sF, mN_sB, mK_sB, mL_sB, mF_sB, mB_sB, mA_sB, mJ_sB, mP_sB, mO_sB, mN_sA, mK_sA, mL_sA, mF_sA, mB_sA, mA_sA, mJ_sA, mP_sA, mO_sA, mN_sJ, mK_sJ, mL_sJ, mF_sJ, mB_sJ, mA_sJ, mJ_sJ, mP_sJ, mO_sJ, mN_sP, mK_sP, mL_sP, mF_sP, mB_sP, mA_sP, mJ_sP, mP_sP, mO_sP, mN_sO, mK_sO, mL_sO, mF_sO, mB_sO, mA_sO, mJ_sO, mP_sO, mO_sO, up2, if_true, if_false, eq_self, ite_true, ite_false, reduceIte, Nat.add_left_cancel_iff, Nat.add_eq_left, Nat.left_eq_add, Nat.reduceEqDiff]; done)) ?_ | refine e_getI 7 rfl dX8_compareLetters_4 f_X8_22 (by assumption) ?_
      first | refine e_cmp_geN 53 10 (by decide) rfl dX8_compareLetters_7 rfl rfl (by omega) (by omega) (fun h4 => ?_) (fun h4 => ?_) | refine e_cmp_ge 53 10 (by decide) rfl dX8_compareLetters_7 (fun h4 => ?_) (fun h4 => ?_)
      · omega
      refine e_il2 11 rfl dX8_compareLetters_10 ?_
      refine e_al1 12 rfl dX8_compareLetters_11 ?_
      first | refine e_getIv 15 rfl dX8_compareLetters_12 f_X8_22 (by assumption) (by first | assumption | (simp only [mN_sF, mK_sF, mL_sF, mF_sF, mB_sF, mA_sF, mJ_sF, mP_sF, mO_sF, mN_sB, mK_sB, mL_sB, mF_sB, mB_sB, mA_sB, mJ_sB, mP_sB, mO_sB, mN_sA, mK_sA, mL_sA, mF_sA, mB_sA, mA_sA, mJ_sA, mP_sA, mO_sA, mN_sJ, mK_sJ, mL_sJ, mF_sJ, mB_sJ, mA_sJ, mJ_sJ, mP_sJ, mO_sJ, mN_sP, mK_sP, mL_sP, mF_sP, mB_sP, mA_sP, mJ_sP, mP_sP, mO_sP, mN_sO, mK_sO, mL_sO, mF_sO, mB_sO, mA_sO, mJ_sO, mP_sO, mO_sO, up2, if_true, if_false, eq_self, ite_true, ite_false, reduceIte, Nat.add_left_cancel_iff, Nat.add_eq_left, Nat.left_eq_add, Nat.reduceEqDiff]; assumption) | (simp only [mN_sF, mK_sF, mL_sF, mF_sF, mB_sF, mA_sF, mJ_sF, mP_sF, mO_sF, mN_sB, mK_sB, mL_sB, mF_sB, mB_sB, mA_sB, mJ_sB, mP_sB, mO_sB, mN_sA, mK_sA, mL_sA, mF_sA, mB_sA, mA_sA, mJ_sA, mP_sA, mO_sA, mN_sJ, mK_sJ, mL_sJ, mF_sJ, mB_sJ, mA_sJ, mJ_sJ, mP_sJ, mO_sJ, mN_sP, mK_sP, mL_sP, mF_sP, mB_sP, mA_sP, mJ_sP, mP_sP, mO_sP, mN_sO, mK_sO, mL_sO, mF_sO, mB_sO, mA_sO, mJ_sO, mP_sO, mO_sO, up2, if_true, if_false, eq_self, ite_true, ite_false, reduceIte, Nat.add_left_cancel_iff, Nat.add_eq_left, Nat.left_eq_add, Nat.reduceEqDiff]; done)) ?_ | refine e_getI 15 rfl dX8_compareLetters_12 f_X8_22 (by assumption) ?_
      first | refine e_cmp_geN 53 18 (by decide) rfl dX8_compareLetters_15 rfl rfl (by omega) (by omega) (fun h5 => ?_) (fun h5 => ?_) | refine e_cmp_ge 53 18 (by decide) rfl dX8_compareLetters_15 (fun h5 => ?_) (fun h5 => ?_)
      · exact fin i (by omega) hi2 (Or.inr h5) he
      have key := af.eq bf (fun c hc => by have := ac c hc; omega) (fun c hc => by have := bc c hc; omega) h4 h5
      rw [cmpL_drop h4 h5] at he
      refine e_al0 19 rfl dX8_compareLetters_18 ?_
      refine e_getR 22 rfl dX8_compareLetters_19 f_X8_19 (by assumption) (by assumption) ?_
      refine e_il2 23 rfl dX8_compareLetters_22 ?_
      first | refine e_baldv 24 rfl dX8_compareLetters_23 (by assumption) (by assumption) (by first | rfl | simp only [pk_mul, nI_add]) (by omega) (by omega) (by first | assumption | (simp only [mN_sF, mK_sF, mL_sF, mF_sF, mB_sF, mA_sF, mJ_sF, mP_sF, mO_sF, mN_sB, mK_sB, mL_sB, mF_sB, mB_sB, mA_sB, mJ_sB, mP_sB, mO_sB, mN_sA, mK_sA, mL_sA, mF_sA, mB_sA, mA_sA, mJ_sA, mP_sA, mO_sA, mN_sJ, mK_sJ, mL_sJ, mF_sJ, mB_sJ, mA_sJ, mJ_sJ, mP_sJ, mO_sJ, mN_sP, mK_sP, mL_sP, mF_sP, mB_sP, mA_sP, mJ_sP, mP_sP, mO_sP, mN_sO, mK_sO, mL_sO, mF_sO, mB_sO, mA_sO, mJ_sO, mP_sO, mO_sO, up2, if_true, if_false, eq_self, ite_true, ite_false, reduceIte, Nat.add_left_cancel_iff, Nat.add_eq_left, Nat.left_eq_add, Nat.reduceEqDiff]; assumption) | (simp only [mN_sF, mK_sF, mL_sF, mF_sF, mB_sF, mA_sF, mJ_sF, mP_sF, mO_sF, mN_sB, mK_sB, mL_sB, mF_sB, mB_sB, mA_sB, mJ_sB, mP_sB, mO_sB, mN_sA, mK_sA, mL_sA, mF_sA, mB_sA, mA_sA, mJ_sA, mP_sA, mO_sA, mN_sJ, mK_sJ, mL_sJ, mF_sJ, mB_sJ, mA_sJ, mJ_sJ, mP_sJ, mO_sJ, mN_sP, mK_sP, mL_sP, mF_sP, mB_sP, mA_sP, mJ_sP, mP_sP, mO_sP, mN_sO, mK_sO, mL_sO, mF_sO, mB_sO, mA_sO, mJ_sO, mP_sO, mO_sO, up2, if_true, if_false, eq_self, ite_true, ite_false, reduceIte, Nat.add_left_cancel_iff, Nat.add_eq_left, Nat.left_eq_add, Nat.reduceEqDiff]; done)) ?_ | refine e_zaldv 24 rfl dX8_compareLetters_23 (by assumption) (by assumption) (by first | rfl | simp only [pk_mul, nI_add]) (by omega) (by omega) (by first | assumption | (simp only [mN_sF, mK_sF, mL_sF, mF_sF, mB_sF, mA_sF, mJ_sF, mP_sF, mO_sF, mN_sB, mK_sB, mL_sB, mF_sB, mB_sB, mA_sB, mJ_sB, mP_sB, mO_sB, mN_sA, mK_sA, mL_sA, mF_sA, mB_sA, mA_sA, mJ_sA, mP_sA, mO_sA, mN_sJ, mK_sJ, mL_sJ, mF_sJ, mB_sJ, mA_sJ, mJ_sJ, mP_sJ, mO_sJ, mN_sP, mK_sP, mL_sP, mF_sP, mB_sP, mA_sP, mJ_sP, mP_sP, mO_sP, mN_sO, mK_sO, mL_sO, mF_sO, mB_sO, mA_sO, mJ_sO, mP_sO, mO_sO, up2, if_true, if_false, eq_self, ite_true, ite_false, reduceIte, Nat.add_left_cancel_iff, Nat.add_eq_left, Nat.left_eq_add, Nat.reduceEqDiff]; assumption) | (simp only [mN_sF, mK_sF, mL_sF, mF_sF, mB_sF, mA_sF, mJ_sF, mP_sF, mO_sF, mN_sB, mK_sB, mL_sB, mF_sB, mB_sB, mA_sB, mJ_sB, mP_sB, mO_sB, mN_sA, mK_sA, mL_sA, mF_sA, mB_sA, mA_sA, mJ_sA, mP_sA, mO_sA, mN_sJ, mK_sJ, mL_sJ, mF_sJ, mB_sJ, mA_sJ, mJ_sJ, mP_sJ, mO_sJ, mN_sP, mK_sP, mL_sP, mF_sP, mB_sP, mA_sP, mJ_sP, mP_sP, mO_sP, mN_sO, mK_sO, mL_sO, mF_sO, mB_sO, mA_sO, mJ_sO, mP_sO, mO_sO, up2, if_true, if_false, eq_self, ite_true, ite_false, reduceIte, Nat.add_left_cancel_iff, Nat.add_eq_left, Nat.left_eq_add, Nat.reduceEqDiff]; done)) ?_ | refine e_bald 24 rfl dX8_compareLetters_23 (by assumption) (by assumption) (by first | rfl | simp only [pk_mul, nI_add]) (by omega) (by omega) ?_ | refine e_zald 24 rfl dX8_compareLetters_23 (by assumption) (by assumption) (by first | rfl | simp only [pk_mul, nI_add]) (by omega) (by omega) ?_
      refine e_al1 25 rfl dX8_compareLetters_24 ?_
      refine e_getR 28 rfl dX8_compareLetters_25 f_X8_19 (by assumption) (by assumption) ?_
      refine e_il2 29 rfl dX8_compareLetters_28 ?_
      first | refine e_baldv 30 rfl dX8_compareLetters_29 (by assumption) (by assumption) (by first | rfl | simp only [pk_mul, nI_add]) (by omega) (by omega) (by first | assumption | (simp only [mN_sF, mK_sF, mL_sF, mF_sF, mB_sF, mA_sF, mJ_sF, mP_sF, mO_sF, mN_sB, mK_sB, mL_sB, mF_sB, mB_sB, mA_sB, mJ_sB, mP_sB, mO_sB, mN_sA, mK_sA, mL_sA, mF_sA, mB_sA, mA_sA, mJ_sA, mP_sA, mO_sA, mN_sJ, mK_sJ, mL_sJ, mF_sJ, mB_sJ, mA_sJ, mJ_sJ, mP_sJ, mO_sJ, mN_sP, mK_sP, mL_sP, mF_sP, mB_sP, mA_sP, mJ_sP, mP_sP, mO_sP, mN_sO, mK_sO, mL_sO, mF_sO, mB_sO, mA_sO, mJ_sO, mP_sO, mO_sO, up2, if_true, if_false, eq_self, ite_true, ite_false, reduceIte, Nat.add_left_cancel_iff, Nat.add_eq_left, Nat.left_eq_add, Nat.reduceEqDiff]; assumption) | (simp only [mN_sF, mK_sF, mL_sF, mF_sF, mB_sF, mA_sF, mJ_sF, mP_sF, mO_sF, mN_sB, mK_sB, mL_sB, mF_sB, mB_sB, mA_sB, mJ_sB, mP_sB, mO_sB, mN_sA, mK_sA, mL_sA, mF_sA, mB_sA, mA_sA, mJ_sA, mP_sA, mO_sA, mN_sJ, mK_sJ, mL_sJ, mF_sJ, mB_sJ, mA_sJ, mJ_sJ, mP_sJ, mO_sJ, mN_sP, mK_sP, mL_sP, mF_sP, mB_sP, mA_sP, mJ_sP, mP_sP, mO_sP, mN_sO, mK_sO, mL_sO, mF_sO, mB_sO, mA_sO, mJ_sO, mP_sO, mO_sO, up2, if_true, if_false, eq_self, ite_true, ite_false, reduceIte, Nat.add_left_cancel_iff, Nat.add_eq_left, Nat.left_eq_add, Nat.reduceEqDiff]; done)) ?_ | refine e_zaldv 30 rfl dX8_compareLetters_29 (by assumption) (by assumption) (by first | rfl | simp only [pk_mul, nI_add]) (by omega) (by omega) (by first | assumption | (simp only [mN_sF, mK_sF, mL_sF, mF_sF, mB_sF, mA_sF, mJ_sF, mP_sF, mO_sF, mN_sB, mK_sB, mL_sB, mF_sB, mB_sB, mA_sB, mJ_sB, mP_sB, mO_sB, mN_sA, mK_sA, mL_sA, mF_sA, mB_sA, mA_sA, mJ_sA, mP_sA, mO_sA, mN_sJ, mK_sJ, mL_sJ, mF_sJ, mB_sJ, mA_sJ, mJ_sJ, mP_sJ, mO_sJ, mN_sP, mK_sP, mL_sP, mF_sP, mB_sP, mA_sP, mJ_sP, mP_sP, mO_sP, mN_sO, mK_sO, mL_sO, mF_sO, mB_sO, mA_sO, mJ_sO, mP_sO, mO_sO, up2, if_true, if_false, eq_self, ite_true, ite_false, reduceIte, Nat.add_left_cancel_iff, Nat.add_eq_left, Nat.left_eq_add, Nat.reduceEqDiff]; assumption) | (simp only [mN_sF, mK_sF, mL_sF, mF_sF, mB_sF, mA_sF, mJ_sF, mP_sF, mO_sF, mN_sB, mK_sB, mL_sB, mF_sB, mB_sB, mA_sB, mJ_sB, mP_sB, mO_sB, mN_sA, mK_sA, mL_sA, mF_sA, mB_sA, mA_sA, mJ_sA, mP_sA, mO_sA, mN_sJ, mK_sJ, mL_sJ, mF_sJ, mB_sJ, mA_sJ, mJ_sJ, mP_sJ, mO_sJ, mN_sP, mK_sP, mL_sP, mF_sP, mB_sP, mA_sP, mJ_sP, mP_sP, mO_sP, mN_sO, mK_sO, mL_sO, mF_sO, mB_sO, mA_sO, mJ_sO, mP_sO, mO_sO, up2, if_true, if_false, eq_self, ite_true, ite_false, reduceIte, Nat.add_left_cancel_iff, Nat.add_eq_left, Nat.left_eq_add, Nat.reduceEqDiff]; done)) ?_ | refine e_bald 30 rfl dX8_compareLetters_29 (by assumption) (by assumption) (by first | rfl | simp only [pk_mul, nI_add]) (by omega) (by omega) ?_ | refine e_zald 30 rfl dX8_compareLetters_29 (by assumption) (by assumption) (by first | rfl | simp only [pk_mul, nI_add]) (by omega) (by omega) ?_
      first | refine e_cmp_eqN 47 33 (by decide) rfl dX8_compareLetters_30 rfl rfl (by omega) (by omega) (fun h6 => ?_) (fun h6 => ?_) | refine e_cmp_eq 47 33 (by decide) rfl dX8_compareLetters_30 (fun h6 => ?_) (fun h6 => ?_)
      · refine e_ii2 (nI (_ + 1)) 50 rfl dX8_compareLetters_47 (ii1 _) rfl ?_
        refine e_goto 2 (by decide) dX8_compareLetters_50 ?_
        rw [if_pos (key.mp h6)] at he
        exact ih (i + 1) (by omega) (by omega) he
      · refine e_al0 34 rfl dX8_compareLetters_33 ?_
        refine e_getR 37 rfl dX8_compareLetters_34 f_X8_19 (by assumption) (by assumption) ?_
        refine e_il2 38 rfl dX8_compareLetters_37 ?_
        first | refine e_baldv 39 rfl dX8_compareLetters_38 (by assumption) (by assumption) (by first | rfl | simp only [pk_mul, nI_add]) (by omega) (by omega) (by first | assumption | (simp only [mN_sF, mK_sF, mL_sF, mF_sF, mB_sF, mA_sF, mJ_sF, mP_sF, mO_sF, mN_sB, mK_sB, mL_sB, mF_sB, mB_sB, mA_sB, mJ_sB, mP_sB, mO_sB, mN_sA, mK_sA, mL_sA, mF_sA, mB_sA, mA_sA, mJ_sA, mP_sA, mO_sA, mN_sJ, mK_sJ, mL_sJ, mF_sJ, mB_sJ, mA_sJ, mJ_sJ, mP_sJ, mO_sJ, mN_sP, mK_sP, mL_sP, mF_sP, mB_sP, mA_sP, mJ_sP, mP_sP, mO_sP, mN_sO, mK_sO, mL_sO, mF_sO, mB_sO, mA_sO, mJ_sO, mP_sO, mO_sO, up2, if_true, if_false, eq_self, ite_true, ite_false, reduceIte, Nat.add_left_cancel_iff, Nat.add_eq_left, Nat.left_eq_add, Nat.reduceEqDiff]; assumption) | (simp only [mN_sF, mK_sF, mL_sF, mF_sF, mB_sF, mA_sF, mJ_sF, mP_sF, mO_sF, mN_sB, mK_sB, mL_sB, mF_sB, mB_sB, mA_sB, mJ_sB, mP_sB, mO_sB, mN_sA, mK_sA, mL_sA, mF_sA, mB_sA, mA_sA, mJ_sA, mP_sA, mO_sA, mN_sJ, mK_sJ, mL_sJ, mF_sJ, mB_sJ, mA_sJ, mJ_sJ, mP_sJ, mO_sJ, mN_sP, mK_sP, mL_sP, mF_sP, mB_sP, mA_sP, mJ_sP, mP_sP, mO_sP, mN_sO, mK_sO, mL_sO, mF_sO, mB_sO, mA_sO, mJ_sO, mP_sO, mO_sO, up2, if_true, if_false, eq_self, ite_true, ite_false, reduceIte, Nat.add_left_cancel_iff, Nat.add_eq_left, Nat.left_eq_add, Nat.reduceEqDiff]; done)) ?_ | refine e_zaldv 39 rfl dX8_compareLetters_38 (by assumption) (by assumption) (by first | rfl | simp only [pk_mul, nI_add]) (by omega) (by omega) (by first | assumption | (simp only [mN_sF, mK_sF, mL_sF, mF_sF, mB_sF, mA_sF, mJ_sF, mP_sF, mO_sF, mN_sB, mK_sB, mL_sB, mF_sB, mB_sB, mA_sB, mJ_sB, mP_sB, mO_sB, mN_sA, mK_sA, mL_sA, mF_sA, mB_sA, mA_sA, mJ_sA, mP_sA, mO_sA, mN_sJ, mK_sJ, mL_sJ, mF_sJ, mB_sJ, mA_sJ, mJ_sJ, mP_sJ, mO_sJ, mN_sP, mK_sP, mL_sP, mF_sP, mB_sP, mA_sP, mJ_sP, mP_sP, mO_sP, mN_sO, mK_sO, mL_sO, mF_sO, mB_sO, mA_sO, mJ_sO, mP_sO, mO_sO, up2, if_true, if_false, eq_self, ite_true, ite_false, reduceIte, Nat.add_left_cancel_iff, Nat.add_eq_left, Nat.left_eq_add, Nat.reduceEqDiff]; assumption) | (simp only [mN_sF, mK_sF, mL_sF, mF_sF, mB_sF, mA_sF, mJ_sF, mP_sF, mO_sF, mN_sB, mK_sB, mL_sB, mF_sB, mB_sB, mA_sB, mJ_sB, mP_sB, mO_sB, mN_sA, mK_sA, mL_sA, mF_sA, mB_sA, mA_sA, mJ_sA, mP_sA, mO_sA, mN_sJ, mK_sJ, mL_sJ, mF_sJ, mB_sJ, mA_sJ, mJ_sJ, mP_sJ, mO_sJ, mN_sP, mK_sP, mL_sP, mF_sP, mB_sP, mA_sP, mJ_sP, mP_sP, mO_sP, mN_sO, mK_sO, mL_sO, mF_sO, mB_sO, mA_sO, mJ_sO, mP_sO, mO_sO, up2, if_true, if_false, eq_self, ite_true, ite_false, reduceIte, Nat.add_left_cancel_iff, Nat.add_eq_left, Nat.left_eq_add, Nat.reduceEqDiff]; done)) ?_ | refine e_bald 39 rfl dX8_compareLetters_38 (by assumption) (by assumption) (by first | rfl | simp only [pk_mul, nI_add]) (by omega) (by omega) ?_ | refine e_zald 39 rfl dX8_compareLetters_38 (by assumption) (by assumption) (by first | rfl | simp only [pk_mul, nI_add]) (by omega) (by omega) ?_
        refine e_al1 40 rfl dX8_compareLetters_39 ?_
        refine e_getR 43 rfl dX8_compareLetters_40 f_X8_19 (by assumption) (by assumption) ?_
        refine e_il2 44 rfl dX8_compareLetters_43 ?_
        first | refine e_baldv 45 rfl dX8_compareLetters_44 (by assumption) (by assumption) (by first | rfl | simp only [pk_mul, nI_add]) (by omega) (by omega) (by first | assumption | (simp only [mN_sF, mK_sF, mL_sF, mF_sF, mB_sF, mA_sF, mJ_sF, mP_sF, mO_sF, mN_sB, mK_sB, mL_sB, mF_sB, mB_sB, mA_sB, mJ_sB, mP_sB, mO_sB, mN_sA, mK_sA, mL_sA, mF_sA, mB_sA, mA_sA, mJ_sA, mP_sA, mO_sA, mN_sJ, mK_sJ, mL_sJ, mF_sJ, mB_sJ, mA_sJ, mJ_sJ, mP_sJ, mO_sJ, mN_sP, mK_sP, mL_sP, mF_sP, mB_sP, mA_sP, mJ_sP, mP_sP, mO_sP, mN_sO, mK_sO, mL_sO, mF_sO, mB_sO, mA_sO, mJ_sO, mP_sO, mO_sO, up2, if_true, if_false, eq_self, ite_true, ite_false, reduceIte, Nat.add_left_cancel_iff, Nat.add_eq_left, Nat.left_eq_add, Nat.reduceEqDiff]; assumption) | (simp only [mN_sF, mK_sF, mL_sF, mF_sF, mB_sF, mA_sF, mJ_sF, mP_sF, mO_sF, mN_sB, mK_sB, mL_sB, mF_sB, mB_sB, mA_sB, mJ_sB, mP_sB, mO_sB, mN_sA, mK_sA, mL_sA, mF_sA, mB_sA, mA_sA, mJ_sA, mP_sA, mO_sA, mN_sJ, mK_sJ, mL_sJ, mF_sJ, mB_sJ, mA_sJ, mJ_sJ, mP_sJ, mO_sJ, mN_sP, mK_sP, mL_sP, mF_sP, mB_sP, mA_sP, mJ_sP, mP_sP, mO_sP, mN_sO, mK_sO, mL_sO, mF_sO, mB_sO, mA_sO, mJ_sO, mP_sO, mO_sO, up2, if_true, if_false, eq_self, ite_true, ite_false, reduceIte, Nat.add_left_cancel_iff, Nat.add_eq_left, Nat.left_eq_add, Nat.reduceEqDiff]; done)) ?_ | refine e_zaldv 45 rfl dX8_compareLetters_44 (by assumption) (by assumption) (by first | rfl | simp only [pk_mul, nI_add]) (by omega) (by omega) (by first | assumption | (simp only [mN_sF, mK_sF, mL_sF, mF_sF, mB_sF, mA_sF, mJ_sF, mP_sF, mO_sF, mN_sB, mK_sB, mL_sB, mF_sB, mB_sB, mA_sB, mJ_sB, mP_sB, mO_sB, mN_sA, mK_sA, mL_sA, mF_sA, mB_sA, mA_sA, mJ_sA, mP_sA, mO_sA, mN_sJ, mK_sJ, mL_sJ, mF_sJ, mB_sJ, mA_sJ, mJ_sJ, mP_sJ, mO_sJ, mN_sP, mK_sP, mL_sP, mF_sP, mB_sP, mA_sP, mJ_sP, mP_sP, mO_sP, mN_sO, mK_sO, mL_sO, mF_sO, mB_sO, mA_sO, mJ_sO, mP_sO, mO_sO, up2, if_true, if_false, eq_self, ite_true, ite_false, reduceIte, Nat.add_left_cancel_iff, Nat.add_eq_left, Nat.left_eq_add, Nat.reduceEqDiff]; assumption) | (simp only [mN_sF, mK_sF, mL_sF, mF_sF, mB_sF, mA_sF, mJ_sF, mP_sF, mO_sF, mN_sB, mK_sB, mL_sB, mF_sB, mB_sB, mA_sB, mJ_sB, mP_sB, mO_sB, mN_sA, mK_sA, mL_sA, mF_sA, mB_sA, mA_sA, mJ_sA, mP_sA, mO_sA, mN_sJ, mK_sJ, mL_sJ, mF_sJ, mB_sJ, mA_sJ, mJ_sJ, mP_sJ, mO_sJ, mN_sP, mK_sP, mL_sP, mF_sP, mB_sP, mA_sP, mJ_sP, mP_sP, mO_sP, mN_sO, mK_sO, mL_sO, mF_sO, mB_sO, mA_sO, mJ_sO, mP_sO, mO_sO, up2, if_true, if_false, eq_self, ite_true, ite_false, reduceIte, Nat.add_left_cancel_iff, Nat.add_eq_left, Nat.left_eq_add, Nat.reduceEqDiff]; done)) ?_ | refine e_bald 45 rfl dX8_compareLetters_44 (by assumption) (by assumption) (by first | rfl | simp only [pk_mul, nI_add]) (by omega) (by omega) ?_ | refine e_zald 45 rfl dX8_compareLetters_44 (by assumption) (by assumption) (by first | rfl | simp only [pk_mul, nI_add]) (by omega) (by omega) ?_
        refine e_isub 46 rfl dX8_compareLetters_45 ?_
        refine e_iret dX8_compareLetters_46 rfl ?_
        rw [if_neg (fun q => h6 (key.mpr q))] at he
        rw [af.at h4, bf.at h5, nI_subI, he]
        exact k
  exact loop la.length 0 (by omega) (by omega) rfl
/-- copyLetters(other) -/
theorem c_copyLetters {a o : Nat} {lo : List Nat} (hw : Wd μ a) (ho : Wd μ o) (hb : Wl μ o lo) (hne : ¬ wS a o ∧ ¬ wS a (o + 2)) (k : ∀ μ', Fr (wS a) μ μ' → Wl μ' a lo → K none μ') : Cl E M_X8_copyLetters [.ref a, .ref o] μ K := by
  have Sa : wS a a := ⟨by omega, by omega⟩
  have Sa2 : wS a (a + 2) := ⟨by omega, by omega⟩
  have hb8 : ∀ c ∈ lo, (nI c).toInt8.toInt32 = nI c := fun c hc => nI_b8 c (hb.2.2.2 c hc)
  refine Cl.of0 1 pn_X8 (Nat.le_of_ble_eq_true rfl) ⟨rfl, rfl⟩ rfl ?_
  refine e_iconst (nI 0) 1 rfl dX8_copyLetters_0 ic_0 ?_
  refine e_is2 2 rfl dX8_copyLetters_1 (by decide) rfl ?_
  have loop : ∀ (k i : Nat), i + k = 20 → ∀ μ', Fr (wS a) μ μ' → (∀ j, j < i → mB μ' (a + 2) j = (mB μ (o + 2) j).toInt8.toInt32) → Ev E M_X8_copyLetters 0 0 2 [some (.ref a), some (.ref o), some (.int (nI i))] [] μ' K := by
    intro k
    induction k with
    | zero =>
      intro i hi μ' hF hB
      obtain ⟨hk, h0, h2, hk1, hl1, hk2, hl2⟩ := hw.fr hF
      obtain ⟨ok, o0, o2, ok1, ol1, ok2, ol2⟩ := ho.fr hF
      obtain ⟨b3, bf, bl, bc⟩ := hb.fr hF hne.1 hne.2
      refine e_il2 3 rfl dX8_copyLetters_2 ?_
      refine e_bipush (nI 20) 5 rfl dX8_copyLetters_3 bc_20 ?_
      first | refine e_cmp_geN 26 8 (by decide) rfl dX8_copyLetters_5 rfl rfl (by omega) (by omega) (fun h4 => ?_) (fun h4 => ?_) | refine e_cmp_ge 26 8 (by decide) rfl dX8_copyLetters_5 (fun h4 => ?_) (fun h4 => ?_)
      · refine e_al0 27 rfl dX8_copyLetters_26 ?_
        refine e_al1 28 rfl dX8_copyLetters_27 ?_
        first | refine e_getIv 31 rfl dX8_copyLetters_28 f_X8_22 (by assumption) (by first | assumption | (simp only [mN_sF, mK_sF, mL_sF, mF_sF, mB_sF, mA_sF, mJ_sF, mP_sF, mO_sF, mN_sB, mK_sB, mL_sB, mF_sB, mB_sB, mA_sB, mJ_sB, mP_sB, mO_sB, mN_sA, mK_sA, mL_sA, mF_sA, mB_sA, mA_sA, mJ_sA, mP_sA, mO_sA, mN_sJ, mK_sJ, mL_sJ, mF_sJ, mB_sJ, mA_sJ, mJ_sJ, mP_sJ, mO_sJ, mN_sP, mK_sP, mL_sP, mF_sP, mB_sP, mA_sP, mJ_sP, mP_sP, mO_sP, mN_sO, mK_sO, mL_sO, mF_sO, mB_sO, mA_sO, mJ_sO, mP_sO, mO_sO, up2, if_true, if_false, eq_self, ite_true, ite_false, reduceIte, Nat.add_left_cancel_iff, Nat.add_eq_left, Nat.left_eq_add, Nat.reduceEqDiff]; assumption) | (simp only [mN_sF, mK_sF, mL_sF, mF_sF, mB_sF, mA_sF, mJ_sF, mP_sF, mO_sF, mN_sB, mK_sB, mL_sB, mF_sB, mB_sB, mA_sB, mJ_sB, mP_sB, mO_sB, mN_sA, mK_sA, mL_sA, mF_sA, mB_sA, mA_sA, mJ_sA, mP_sA, mO_sA, mN_sJ, mK_sJ, mL_sJ, mF_sJ, mB_sJ, mA_sJ, mJ_sJ, mP_sJ, mO_sJ, mN_sP, mK_sP, mL_sP, mF_sP, mB_sP, mA_sP, mJ_sP, mP_sP, mO_sP, mN_sO, mK_sO, mL_sO, mF_sO, mB_sO, mA_sO, mJ_sO, mP_sO, mO_sO, up2, if_true, if_false, eq_self, ite_true, ite_false, reduceIte, Nat.add_left_cancel_iff, Nat.add_eq_left, Nat.left_eq_add, Nat.reduceEqDiff]; done)) ?_ | refine e_getI 31 rfl dX8_copyLetters_28 f_X8_22 (by assumption) ?_
        refine e_putI 34 rfl dX8_copyLetters_31 f_X8_22 (by assumption) ?_
        refine e_ret dX8_copyLetters_34 rfl ?_
        refine k _ (hF.sF Sa _ _) ⟨by simp only [mN_sF, mK_sF, mL_sF, mF_sF, mB_sF, mA_sF, mJ_sF, mP_sF, mO_sF, mN_sB, mK_sB, mL_sB, mF_sB, mB_sB, mA_sB, mJ_sB, mP_sB, mO_sB, mN_sA, mK_sA, mL_sA, mF_sA, mB_sA, mA_sA, mJ_sA, mP_sA, mO_sA, mN_sJ, mK_sJ, mL_sJ, mF_sJ, mB_sJ, mA_sJ, mJ_sJ, mP_sJ, mO_sJ, mN_sP, mK_sP, mL_sP, mF_sP, mB_sP, mA_sP, mJ_sP, mP_sP, mO_sP, mN_sO, mK_sO, mL_sO, mF_sO, mB_sO, mA_sO, mJ_sO, mP_sO, mO_sO, up2, if_true, if_false, eq_self, ite_true, ite_false, reduceIte, Nat.add_left_cancel_iff, Nat.add_eq_left, Nat.left_eq_add, Nat.reduceEqDiff], ?_, bl, bc⟩
        intro j c hj
        have hjl := (List.getElem?_eq_some_iff.mp hj).1
        show mB μ' (a + 2) j = _
        rw [hB j (by omega), hb.2.1 j c hj]
        exact hb8 c (List.mem_of_getElem? hj)
      · omega
    | succ k ih =>
      intro i hi μ' hF hB
      obtain ⟨hk, h0, h2, hk1, hl1, hk2, hl2⟩ := hw.fr hF
      obtain ⟨ok, o0, o2, ok1, ol1, ok2, ol2⟩ := ho.fr hF
      refine e_il2 3 rfl dX8_copyLetters_2 ?_
      refine e_bipush (nI 20) 5 rfl dX8_copyLetters_3 bc_20 ?_
      first | refine e_cmp_geN 26 8 (by decide) rfl dX8_copyLetters_5 rfl rfl (by omega) (by omega) (fun h4 => ?_) (fun h4 => ?_) | refine e_cmp_ge 26 8 (by decide) rfl dX8_copyLetters_5 (fun h4 => ?_) (fun h4 => ?_)
      · omega
      refine e_al0 9 rfl dX8_copyLetters_8 ?_
      refine e_getR 12 rfl dX8_copyLetters_9 f_X8_19 (by assumption) (by assumption) ?_
      refine e_il2 13 rfl dX8_copyLetters_12 ?_
      refine e_al1 14 rfl dX8_copyLetters_13 ?_
      refine e_getR 17 rfl dX8_copyLetters_14 f_X8_19 (by assumption) (by assumption) ?_
      refine e_il2 18 rfl dX8_copyLetters_17 ?_
      first | refine e_baldv 19 rfl dX8_copyLetters_18 (by assumption) (by assumption) (by first | rfl | simp only [pk_mul, nI_add]) (by omega) (by omega) (by first | assumption | (simp only [mN_sF, mK_sF, mL_sF, mF_sF, mB_sF, mA_sF, mJ_sF, mP_sF, mO_sF, mN_sB, mK_sB, mL_sB, mF_sB, mB_sB, mA_sB, mJ_sB, mP_sB, mO_sB, mN_sA, mK_sA, mL_sA, mF_sA, mB_sA, mA_sA, mJ_sA, mP_sA, mO_sA, mN_sJ, mK_sJ, mL_sJ, mF_sJ, mB_sJ, mA_sJ, mJ_sJ, mP_sJ, mO_sJ, mN_sP, mK_sP, mL_sP, mF_sP, mB_sP, mA_sP, mJ_sP, mP_sP, mO_sP, mN_sO, mK_sO, mL_sO, mF_sO, mB_sO, mA_sO, mJ_sO, mP_sO, mO_sO, up2, if_true, if_false, eq_self, ite_true, ite_false, reduceIte, Nat.add_left_cancel_iff, Nat.add_eq_left, Nat.left_eq_add, Nat.reduceEqDiff]; assumption) | (simp only [mN_sF, mK_sF, mL_sF, mF_sF, mB_sF, mA_sF, mJ_sF, mP_sF, mO_sF, mN_sB, mK_sB, mL_sB, mF_sB, mB_sB, mA_sB, mJ_sB, mP_sB, mO_sB, mN_sA, mK_sA, mL_sA, mF_sA, mB_sA, mA_sA, mJ_sA, mP_sA, mO_sA, mN_sJ, mK_sJ, mL_sJ, mF_sJ, mB_sJ, mA_sJ, mJ_sJ, mP_sJ, mO_sJ, mN_sP, mK_sP, mL_sP, mF_sP, mB_sP, mA_sP, mJ_sP, mP_sP, mO_sP, mN_sO, mK_sO, mL_sO, mF_sO, mB_sO, mA_sO, mJ_sO, mP_sO, mO_sO, up2, if_true, if_false, eq_self, ite_true, ite_false, reduceIte, Nat.add_left_cancel_iff, Nat.add_eq_left, Nat.left_eq_add, Nat.reduceEqDiff]; done)) ?_ | refine e_zaldv 19 rfl dX8_copyLetters_18 (by assumption) (by assumption) (by first | rfl | simp only [pk_mul, nI_add]) (by omega) (by omega) (by first | assumption | (simp only [mN_sF, mK_sF, mL_sF, mF_sF, mB_sF, mA_sF, mJ_sF, mP_sF, mO_sF, mN_sB, mK_sB, mL_sB, mF_sB, mB_sB, mA_sB, mJ_sB, mP_sB, mO_sB, mN_sA, mK_sA, mL_sA, mF_sA, mB_sA, mA_sA, mJ_sA, mP_sA, mO_sA, mN_sJ, mK_sJ, mL_sJ, mF_sJ, mB_sJ, mA_sJ, mJ_sJ, mP_sJ, mO_sJ, mN_sP, mK_sP, mL_sP, mF_sP, mB_sP, mA_sP, mJ_sP, mP_sP, mO_sP, mN_sO, mK_sO, mL_sO, mF_sO, mB_sO, mA_sO, mJ_sO, mP_sO, mO_sO, up2, if_true, if_false, eq_self, ite_true, ite_false, reduceIte, Nat.add_left_cancel_iff, Nat.add_eq_left, Nat.left_eq_add, Nat.reduceEqDiff]; assumption) | (simp only [mN_sF, mK_sF, mL_sF, mF_sF, mB_sF, mA_sF, mJ_sF, mP_sF, mO_sF, mN_sB, mK_sB, mL_sB, mF_sB, mB_sB, mA_sB, mJ_sB, mP_sB, mO_sB, mN_sA, mK_sA, mL_sA, mF_sA, mB_sA, mA_sA, mJ_sA, mP_sA, mO_sA, mN_sJ, mK_sJ, mL_sJ, mF_sJ, mB_sJ, mA_sJ, mJ_sJ, mP_sJ, mO_sJ, mN_sP, mK_sP, mL_sP, mF_sP, mB_sP, mA_sP, mJ_sP, mP_sP, mO_sP, mN_sO, mK_sO, mL_sO, mF_sO, mB_sO, mA_sO, mJ_sO, mP_sO, mO_sO, up2, if_true, if_false, eq_self, ite_true, ite_false, reduceIte, Nat.add_left_cancel_iff, Nat.add_eq_left, Nat.left_eq_add, Nat.reduceEqDiff]; done)) ?_ | refine e_bald 19 rfl dX8_copyLetters_18 (by assumption) (by assumption) (by first | rfl | simp only [pk_mul, nI_add]) (by omega) (by omega) ?_ | refine e_zald 19 rfl dX8_copyLetters_18 (by assumption) (by assumption) (by first | rfl | simp only [pk_mul, nI_add]) (by omega) (by omega) ?_
      first | refine e_bast 20 rfl dX8_copyLetters_19 (by assumption) (by assumption) (by first | rfl | simp only [pk_mul, nI_add]) (by omega) (by omega) ?_ | refine e_zast 20 rfl dX8_copyLetters_19 (by assumption) (by assumption) (by first | rfl | simp only [pk_mul, nI_add]) (by omega) (by omega) (by first | exact z0 | exact z1 | exact bI01 _ | assumption) ?_
      refine e_ii2 (nI (_ + 1)) 23 rfl dX8_copyLetters_20 (ii1 _) rfl ?_
      refine e_goto 2 (by decide) dX8_copyLetters_23 ?_
      refine ih (i + 1) (by omega) _ (hF.sB Sa2 _ _) (fun j hj => ?_)
      show up2 _ (a + 2) _ _ (a + 2) j = _
      by_cases e : j = i
      · subst e
        rw [up2_s, (hF.2.2.2.2.2 (o + 2) hne.2).2.1]
      · rw [up2_k e]
        exact hB j (by omega)
  exact loop 20 0 (by omega) μ Fr.rf (fun j hj => by omega)
end WORD2
