/-! NameDeskModel: a shape's text -/
section MSHAPE
variable {E : En} {μ : Mm} {K : Option Value → Mm → Prop}
/-- the text l lies in the tape, and the model is at p -/
def Mx (μ : Mm) (m : Nat) (l : List Nat) (p : Nat) : Prop := Mg μ m ∧ mF μ m 29 = nI p ∧ mF μ m 30 = nI l.length ∧ Hd (mA μ (m + 1)) l ∧ l.length ≤ 400 ∧ (∀ c ∈ l, c < 256) ∧ p ≤ 402
theorem Mx.lt {m p : Nat} {l : List Nat} (h : Mx μ m l p) : ∀ (q : Nat) (c : Nat), l[q]? = some c → c < 256 := fun q c hc => h.2.2.2.2.2.1 c (List.mem_of_getElem? hc)
theorem Mx.fr {m p : Nat} {l : List Nat} {S : Nat → Prop} {μ' : Mm} (h : Mx μ m l p) (f : Fr S μ μ') (h29 : mF μ' m 29 = mF μ m 29) (h30 : mF μ' m 30 = mF μ m 30) (hS : ¬ S (m + 1)) : Mx μ' m l p := by
  obtain ⟨h1, h2, h3, h4, h5⟩ := h
  exact ⟨h1.fr f, by rw [h29]; exact h2, by rw [h30]; exact h3, by rw [(f.2.2.2.2.2 _ hS).2.2.1]; exact h4, h5⟩
theorem Mx.to {m p p' : Nat} {l : List Nat} (h : Mx μ m l p) (hp : p' ≤ 402) : Mx (sF μ m 29 (nI p')) m l p' := by
  obtain ⟨h1, h2, h3, h4, h5, h6, h7⟩ := h
  exact ⟨h1, by simp only [mN_sF, mK_sF, mL_sF, mF_sF, mB_sF, mA_sF, mJ_sF, mP_sF, mO_sF, mN_sB, mK_sB, mL_sB, mF_sB, mB_sB, mA_sB, mJ_sB, mP_sB, mO_sB, mN_sA, mK_sA, mL_sA, mF_sA, mB_sA, mA_sA, mJ_sA, mP_sA, mO_sA, mN_sJ, mK_sJ, mL_sJ, mF_sJ, mB_sJ, mA_sJ, mJ_sJ, mP_sJ, mO_sJ, mN_sP, mK_sP, mL_sP, mF_sP, mB_sP, mA_sP, mJ_sP, mP_sP, mO_sP, mN_sO, mK_sO, mL_sO, mF_sO, mB_sO, mA_sO, mJ_sO, mP_sO, mO_sO, up2, if_true, if_false, eq_self, ite_true, ite_false, reduceIte, Nat.add_left_cancel_iff, Nat.add_eq_left, Nat.left_eq_add, Nat.reduceEqDiff], by simp only [mN_sF, mK_sF, mL_sF, mF_sF, mB_sF, mA_sF, mJ_sF, mP_sF, mO_sF, mN_sB, mK_sB, mL_sB, mF_sB, mB_sB, mA_sB, mJ_sB, mP_sB, mO_sB, mN_sA, mK_sA, mL_sA, mF_sA, mB_sA, mA_sA, mJ_sA, mP_sA, mO_sA, mN_sJ, mK_sJ, mL_sJ, mF_sJ, mB_sJ, mA_sJ, mJ_sJ, mP_sJ, mO_sJ, mN_sP, mK_sP, mL_sP, mF_sP, mB_sP, mA_sP, mJ_sP, mP_sP, mO_sP, mN_sO, mK_sO, mL_sO, mF_sO, mB_sO, mA_sO, mJ_sO, mP_sO, mO_sO, up2, if_true, if_false, eq_self, ite_true, ite_false, reduceIte, Nat.add_left_cancel_iff, Nat.add_eq_left, Nat.left_eq_add, Nat.reduceEqDiff]; exact h3, h4, h5, h6, hp⟩
theorem c_see {m p : Nat} {l : List Nat} (h : Mx μ m l p) (k : K (some (.int (seeI l[p]?))) μ) : Cl E M_X10_see [.ref m] μ K := by
  obtain ⟨hg, h29, h30, hT, l4, lc, hp⟩ := h
  have mk := hg.1
  obtain ⟨pt, kt, lt⟩ := hg.tape
  refine Cl.of0 0 pn_X10 (Nat.le_of_ble_eq_true rfl) ⟨rfl, rfl⟩ rfl ?_
  refine e_al0 1 rfl dX10_see_0 ?_
  first | refine e_getIv 4 rfl dX10_see_1 f_X10_135 (by assumption) (by first | assumption | (simp only [mN_sF, mK_sF, mL_sF, mF_sF, mB_sF, mA_sF, mJ_sF, mP_sF, mO_sF, mN_sB, mK_sB, mL_sB, mF_sB, mB_sB, mA_sB, mJ_sB, mP_sB, mO_sB, mN_sA, mK_sA, mL_sA, mF_sA, mB_sA, mA_sA, mJ_sA, mP_sA, mO_sA, mN_sJ, mK_sJ, mL_sJ, mF_sJ, mB_sJ, mA_sJ, mJ_sJ, mP_sJ, mO_sJ, mN_sP, mK_sP, mL_sP, mF_sP, mB_sP, mA_sP, mJ_sP, mP_sP, mO_sP, mN_sO, mK_sO, mL_sO, mF_sO, mB_sO, mA_sO, mJ_sO, mP_sO, mO_sO, up2, if_true, if_false, eq_self, ite_true, ite_false, reduceIte, Nat.add_left_cancel_iff, Nat.add_eq_left, Nat.left_eq_add, Nat.reduceEqDiff]; assumption) | (simp only [mN_sF, mK_sF, mL_sF, mF_sF, mB_sF, mA_sF, mJ_sF, mP_sF, mO_sF, mN_sB, mK_sB, mL_sB, mF_sB, mB_sB, mA_sB, mJ_sB, mP_sB, mO_sB, mN_sA, mK_sA, mL_sA, mF_sA, mB_sA, mA_sA, mJ_sA, mP_sA, mO_sA, mN_sJ, mK_sJ, mL_sJ, mF_sJ, mB_sJ, mA_sJ, mJ_sJ, mP_sJ, mO_sJ, mN_sP, mK_sP, mL_sP, mF_sP, mB_sP, mA_sP, mJ_sP, mP_sP, mO_sP, mN_sO, mK_sO, mL_sO, mF_sO, mB_sO, mA_sO, mJ_sO, mP_sO, mO_sO, up2, if_true, if_false, eq_self, ite_true, ite_false, reduceIte, Nat.add_left_cancel_iff, Nat.add_eq_left, Nat.left_eq_add, Nat.reduceEqDiff]; done)) ?_ | refine e_getI 4 rfl dX10_see_1 f_X10_135 (by assumption) ?_
  refine e_al0 5 rfl dX10_see_4 ?_
  first | refine e_getIv 8 rfl dX10_see_5 f_X10_138 (by assumption) (by first | assumption | (simp only [mN_sF, mK_sF, mL_sF, mF_sF, mB_sF, mA_sF, mJ_sF, mP_sF, mO_sF, mN_sB, mK_sB, mL_sB, mF_sB, mB_sB, mA_sB, mJ_sB, mP_sB, mO_sB, mN_sA, mK_sA, mL_sA, mF_sA, mB_sA, mA_sA, mJ_sA, mP_sA, mO_sA, mN_sJ, mK_sJ, mL_sJ, mF_sJ, mB_sJ, mA_sJ, mJ_sJ, mP_sJ, mO_sJ, mN_sP, mK_sP, mL_sP, mF_sP, mB_sP, mA_sP, mJ_sP, mP_sP, mO_sP, mN_sO, mK_sO, mL_sO, mF_sO, mB_sO, mA_sO, mJ_sO, mP_sO, mO_sO, up2, if_true, if_false, eq_self, ite_true, ite_false, reduceIte, Nat.add_left_cancel_iff, Nat.add_eq_left, Nat.left_eq_add, Nat.reduceEqDiff]; assumption) | (simp only [mN_sF, mK_sF, mL_sF, mF_sF, mB_sF, mA_sF, mJ_sF, mP_sF, mO_sF, mN_sB, mK_sB, mL_sB, mF_sB, mB_sB, mA_sB, mJ_sB, mP_sB, mO_sB, mN_sA, mK_sA, mL_sA, mF_sA, mB_sA, mA_sA, mJ_sA, mP_sA, mO_sA, mN_sJ, mK_sJ, mL_sJ, mF_sJ, mB_sJ, mA_sJ, mJ_sJ, mP_sJ, mO_sJ, mN_sP, mK_sP, mL_sP, mF_sP, mB_sP, mA_sP, mJ_sP, mP_sP, mO_sP, mN_sO, mK_sO, mL_sO, mF_sO, mB_sO, mA_sO, mJ_sO, mP_sO, mO_sO, up2, if_true, if_false, eq_self, ite_true, ite_false, reduceIte, Nat.add_left_cancel_iff, Nat.add_eq_left, Nat.left_eq_add, Nat.reduceEqDiff]; done)) ?_ | refine e_getI 8 rfl dX10_see_5 f_X10_138 (by assumption) ?_
  first | refine e_cmp_geN 23 11 (by decide) rfl dX10_see_8 rfl rfl (by omega) (by omega) (fun y1 => ?_) (fun y1 => ?_) | refine e_cmp_ge 23 11 (by decide) rfl dX10_see_8 (fun y1 => ?_) (fun y1 => ?_)
  · refine e_iconst (-1) 24 rfl dX10_see_23 ic_m1 ?_
    refine e_iret dX10_see_24 rfl ?_
    have e : seeI l[p]? = -1 := by rw [List.getElem?_eq_none y1]; rfl
    rw [← e]; exact k
  · have hv := hT.at y1
    refine e_al0 12 rfl dX10_see_11 ?_
    refine e_getR 15 rfl dX10_see_12 f_X10_7 (by assumption) (by assumption) ?_
    refine e_al0 16 rfl dX10_see_15 ?_
    first | refine e_getIv 19 rfl dX10_see_16 f_X10_135 (by assumption) (by first | assumption | (simp only [mN_sF, mK_sF, mL_sF, mF_sF, mB_sF, mA_sF, mJ_sF, mP_sF, mO_sF, mN_sB, mK_sB, mL_sB, mF_sB, mB_sB, mA_sB, mJ_sB, mP_sB, mO_sB, mN_sA, mK_sA, mL_sA, mF_sA, mB_sA, mA_sA, mJ_sA, mP_sA, mO_sA, mN_sJ, mK_sJ, mL_sJ, mF_sJ, mB_sJ, mA_sJ, mJ_sJ, mP_sJ, mO_sJ, mN_sP, mK_sP, mL_sP, mF_sP, mB_sP, mA_sP, mJ_sP, mP_sP, mO_sP, mN_sO, mK_sO, mL_sO, mF_sO, mB_sO, mA_sO, mJ_sO, mP_sO, mO_sO, up2, if_true, if_false, eq_self, ite_true, ite_false, reduceIte, Nat.add_left_cancel_iff, Nat.add_eq_left, Nat.left_eq_add, Nat.reduceEqDiff]; assumption) | (simp only [mN_sF, mK_sF, mL_sF, mF_sF, mB_sF, mA_sF, mJ_sF, mP_sF, mO_sF, mN_sB, mK_sB, mL_sB, mF_sB, mB_sB, mA_sB, mJ_sB, mP_sB, mO_sB, mN_sA, mK_sA, mL_sA, mF_sA, mB_sA, mA_sA, mJ_sA, mP_sA, mO_sA, mN_sJ, mK_sJ, mL_sJ, mF_sJ, mB_sJ, mA_sJ, mJ_sJ, mP_sJ, mO_sJ, mN_sP, mK_sP, mL_sP, mF_sP, mB_sP, mA_sP, mJ_sP, mP_sP, mO_sP, mN_sO, mK_sO, mL_sO, mF_sO, mB_sO, mA_sO, mJ_sO, mP_sO, mO_sO, up2, if_true, if_false, eq_self, ite_true, ite_false, reduceIte, Nat.add_left_cancel_iff, Nat.add_eq_left, Nat.left_eq_add, Nat.reduceEqDiff]; done)) ?_ | refine e_getI 19 rfl dX10_see_16 f_X10_135 (by assumption) ?_
    first | refine e_ialdv 20 rfl dX10_see_19 (by assumption) (by assumption) (by first | rfl | simp only [pk_mul, nI_add]) (by omega) (by omega) (by first | assumption | (simp only [mN_sF, mK_sF, mL_sF, mF_sF, mB_sF, mA_sF, mJ_sF, mP_sF, mO_sF, mN_sB, mK_sB, mL_sB, mF_sB, mB_sB, mA_sB, mJ_sB, mP_sB, mO_sB, mN_sA, mK_sA, mL_sA, mF_sA, mB_sA, mA_sA, mJ_sA, mP_sA, mO_sA, mN_sJ, mK_sJ, mL_sJ, mF_sJ, mB_sJ, mA_sJ, mJ_sJ, mP_sJ, mO_sJ, mN_sP, mK_sP, mL_sP, mF_sP, mB_sP, mA_sP, mJ_sP, mP_sP, mO_sP, mN_sO, mK_sO, mL_sO, mF_sO, mB_sO, mA_sO, mJ_sO, mP_sO, mO_sO, up2, if_true, if_false, eq_self, ite_true, ite_false, reduceIte, Nat.add_left_cancel_iff, Nat.add_eq_left, Nat.left_eq_add, Nat.reduceEqDiff]; assumption) | (simp only [mN_sF, mK_sF, mL_sF, mF_sF, mB_sF, mA_sF, mJ_sF, mP_sF, mO_sF, mN_sB, mK_sB, mL_sB, mF_sB, mB_sB, mA_sB, mJ_sB, mP_sB, mO_sB, mN_sA, mK_sA, mL_sA, mF_sA, mB_sA, mA_sA, mJ_sA, mP_sA, mO_sA, mN_sJ, mK_sJ, mL_sJ, mF_sJ, mB_sJ, mA_sJ, mJ_sJ, mP_sJ, mO_sJ, mN_sP, mK_sP, mL_sP, mF_sP, mB_sP, mA_sP, mJ_sP, mP_sP, mO_sP, mN_sO, mK_sO, mL_sO, mF_sO, mB_sO, mA_sO, mJ_sO, mP_sO, mO_sO, up2, if_true, if_false, eq_self, ite_true, ite_false, reduceIte, Nat.add_left_cancel_iff, Nat.add_eq_left, Nat.left_eq_add, Nat.reduceEqDiff]; done)) ?_ | refine e_iald 20 rfl dX10_see_19 (by assumption) (by assumption) (by first | rfl | simp only [pk_mul, nI_add]) (by omega) (by omega) ?_
    refine e_goto 24 (by decide) dX10_see_20 ?_
    refine e_iret dX10_see_24 rfl ?_
    have e : seeI l[p]? = nI l[p] := by rw [List.getElem?_eq_getElem y1]; rfl
    rw [← e]; exact k
theorem c_mKindOf {o : Option Nat} (ho : ∀ c, o = some c → c < 256) (k : K (some (.int (seeI (o.bind kindOf)))) μ) : Cl E M_X10_kindOf [.int (seeI o)] μ K := by
  have q : ∀ d, d < 256 → (seeI o = nI d ↔ o = some d) := fun d hd => seeI_eq ho hd
  have q84 := q 84 (by decide)
  have q71 := q 71 (by decide)
  have q80 := q 80 (by decide)
  have q81 := q 81 (by decide)
  have q70 := q 70 (by decide)
  have q77 := q 77 (by decide)
  have q73 := q 73 (by decide)
  refine Cl.of0 0 pn_X10 (Nat.le_of_ble_eq_true rfl) ⟨rfl, rfl⟩ rfl ?_
  refine e_il0 1 rfl dX10_kindOf_0 ?_
  refine e_bipush (nI 84) 3 rfl dX10_kindOf_1 bc_84 ?_
  refine e_cmp_ne 10 6 (by decide) rfl dX10_kindOf_3 (fun y1 => ?_) (fun y1 => ?_)
  rotate_left
  · refine e_iconst (nI 0) 7 rfl dX10_kindOf_6 ic_0 ?_
    refine e_goto 72 (by decide) dX10_kindOf_7 ?_
    refine e_iret dX10_kindOf_72 rfl ?_
    rw [q84.mp y1] at k; exact k
  refine e_il0 11 rfl dX10_kindOf_10 ?_
  refine e_bipush (nI 71) 13 rfl dX10_kindOf_11 bc_71 ?_
  refine e_cmp_ne 20 16 (by decide) rfl dX10_kindOf_13 (fun y2 => ?_) (fun y2 => ?_)
  rotate_left
  · refine e_iconst (nI 1) 17 rfl dX10_kindOf_16 ic_1 ?_
    refine e_goto 72 (by decide) dX10_kindOf_17 ?_
    refine e_iret dX10_kindOf_72 rfl ?_
    rw [q71.mp y2] at k; exact k
  refine e_il0 21 rfl dX10_kindOf_20 ?_
  refine e_bipush (nI 80) 23 rfl dX10_kindOf_21 bc_80 ?_
  refine e_cmp_ne 30 26 (by decide) rfl dX10_kindOf_23 (fun y3 => ?_) (fun y3 => ?_)
  rotate_left
  · refine e_iconst (nI 2) 27 rfl dX10_kindOf_26 ic_2 ?_
    refine e_goto 72 (by decide) dX10_kindOf_27 ?_
    refine e_iret dX10_kindOf_72 rfl ?_
    rw [q80.mp y3] at k; exact k
  refine e_il0 31 rfl dX10_kindOf_30 ?_
  refine e_bipush (nI 81) 33 rfl dX10_kindOf_31 bc_81 ?_
  refine e_cmp_ne 40 36 (by decide) rfl dX10_kindOf_33 (fun y4 => ?_) (fun y4 => ?_)
  rotate_left
  · refine e_iconst (nI 3) 37 rfl dX10_kindOf_36 ic_3 ?_
    refine e_goto 72 (by decide) dX10_kindOf_37 ?_
    refine e_iret dX10_kindOf_72 rfl ?_
    rw [q81.mp y4] at k; exact k
  refine e_il0 41 rfl dX10_kindOf_40 ?_
  refine e_bipush (nI 70) 43 rfl dX10_kindOf_41 bc_70 ?_
  refine e_cmp_ne 50 46 (by decide) rfl dX10_kindOf_43 (fun y5 => ?_) (fun y5 => ?_)
  rotate_left
  · refine e_iconst (nI 4) 47 rfl dX10_kindOf_46 ic_4 ?_
    refine e_goto 72 (by decide) dX10_kindOf_47 ?_
    refine e_iret dX10_kindOf_72 rfl ?_
    rw [q70.mp y5] at k; exact k
  refine e_il0 51 rfl dX10_kindOf_50 ?_
  refine e_bipush (nI 77) 53 rfl dX10_kindOf_51 bc_77 ?_
  refine e_cmp_ne 60 56 (by decide) rfl dX10_kindOf_53 (fun y6 => ?_) (fun y6 => ?_)
  rotate_left
  · refine e_iconst (nI 5) 57 rfl dX10_kindOf_56 ic_5 ?_
    refine e_goto 72 (by decide) dX10_kindOf_57 ?_
    refine e_iret dX10_kindOf_72 rfl ?_
    rw [q77.mp y6] at k; exact k
  refine e_il0 61 rfl dX10_kindOf_60 ?_
  refine e_bipush (nI 73) 63 rfl dX10_kindOf_61 bc_73 ?_
  refine e_cmp_ne 71 66 (by decide) rfl dX10_kindOf_63 (fun y7 => ?_) (fun y7 => ?_)
  rotate_left
  · refine e_bipush (nI 6) 68 rfl dX10_kindOf_66 bc_6 ?_
    refine e_goto 72 (by decide) dX10_kindOf_68 ?_
    refine e_iret dX10_kindOf_72 rfl ?_
    rw [q73.mp y7] at k; exact k
  refine e_iconst (-1) 72 rfl dX10_kindOf_71 ic_m1 ?_
  refine e_iret dX10_kindOf_72 rfl ?_
  have e : o.bind kindOf = none := by
    cases o with
    | none => rfl
    | some c =>
      show kindOf c = none
      unfold kindOf
      rw [if_neg (fun h => y1 (by rw [h]; rfl)), if_neg (fun h => y2 (by rw [h]; rfl)), if_neg (fun h => y3 (by rw [h]; rfl)), if_neg (fun h => y4 (by rw [h]; rfl)), if_neg (fun h => y5 (by rw [h]; rfl)), if_neg (fun h => y6 (by rw [h]; rfl)), if_neg (fun h => y7 (by rw [h]; rfl))]
  rw [e] at k
  exact k
def Mflt (μ : Mm) (m f p : Nat) : Prop := mF μ m 18 = nI f ∧ mF μ m 19 = nI p
theorem c_wrong {m f p : Nat} (hk : mK μ m = 11) (k : ∀ μ', Fr (fun q => q = m) μ μ' → (∀ g, g ≠ 18 → g ≠ 19 → mF μ' m g = mF μ m g) → Mflt μ' m f p → K (some (.int (nI 0))) μ') : Cl E M_X10_wrong [.ref m, .int (nI f), .int (nI p)] μ K := by
  have mk2 : mK (sF μ m 18 (nI f)) m = 11 := hk
  refine Cl.of0 0 pn_X10 (Nat.le_of_ble_eq_true rfl) ⟨rfl, rfl⟩ rfl ?_
  refine e_al0 1 rfl dX10_wrong_0 ?_
  refine e_il1 2 rfl dX10_wrong_1 ?_
  refine e_putI 5 rfl dX10_wrong_2 f_X10_132 (by assumption) ?_
  refine e_al0 6 rfl dX10_wrong_5 ?_
  refine e_il2 7 rfl dX10_wrong_6 ?_
  refine e_putI 10 rfl dX10_wrong_7 f_X10_56 (by assumption) ?_
  refine e_iconst (nI 0) 11 rfl dX10_wrong_10 ic_0 ?_
  refine e_zret dX10_wrong_11 rfl (by first | exact z0 | exact z1 | exact bI01 _ | assumption) ?_
  refine k _ (((Fr.rf (S := fun q => q = m)).sF rfl _ _).sF rfl _ _) (fun g a b => ?_) ⟨?_, ?_⟩
  · show up2 (up2 _ m 18 _) m 19 _ m g = _
    rw [up2_k b, up2_k a]
  · show up2 (up2 _ m 18 _) m 19 _ m 18 = _
    rw [up2_k (by decide), up2_s]
  · show up2 (up2 _ m 18 _) m 19 _ m 19 = _
    rw [up2_s]
def trS (m : Nat) : Nat → Prop := fun q => q = m ∨ (m + 24 ≤ q ∧ q ≤ m + 28)
/-- slots that have been read -/
def rSl (μ : Mm) (m : Nat) (sl : List Slot0) : Prop := mF μ m 31 = nI sl.length ∧ ∀ i s, sl[i]? = some s → mA μ (m + 24) i = nI s.1 ∧ mA μ (m + 25) i = nI s.2
theorem seeI_pos {o : Option Nat} (ho : ∀ c, o = some c → c < 256) : 0 ≤ seeI o ↔ o.isSome = true := by
  cases o with
  | none => exact ⟨fun h => absurd h (by decide), fun h => by cases h⟩
  | some c => exact ⟨fun _ => rfl, fun _ => nI_pos' (by have := ho c rfl; omega)⟩
theorem c_slotsRead {m p0 : Nat} {l : List Nat} (hX : Mx μ m l p0) (hp0 : p0 ≤ l.length)
    (kt : ∀ p sl, pSl l 8 p0 [] = .inr (p, sl) → ∀ μ', Fr (trS m) μ μ' → (∀ f, f ≠ 29 → f ≠ 31 → mF μ' m f = mF μ m f) → Mx μ' m l p → rSl μ' m sl → K (some (.int (nI 1))) μ')
    (kf : ∀ f p, pSl l 8 p0 [] = .inl (f, p) → ∀ μ', Fr (trS m) μ μ' → (∀ f, f ≠ 29 → f ≠ 31 → f ≠ 18 → f ≠ 19 → mF μ' m f = mF μ m f) → Mflt μ' m f p → K (some (.int (nI 0))) μ') : Cl E M_X10_slotsRead [.ref m] μ K := by
  have Sm : trS m m := Or.inl rfl
  have S24 : trS m (m + 24) := Or.inr ⟨by omega, by omega⟩
  have S25 : trS m (m + 25) := Or.inr ⟨by omega, by omega⟩
  have mk0 := hX.1.1
  have n1 : ¬ trS m (m + 1) := by unfold trS; omega
  have l4 := hX.2.2.2.2.1
  obtain ⟨R, hRe⟩ : ∃ R, R = pSl l 8 p0 [] := ⟨_, rfl⟩
  rw [← hRe] at kt kf
  have loop : ∀ (fu : Nat) (acc : List Slot0) (p : Nat), acc.length + fu = 8 → ∀ μ1 l2 l3, R = pSl l fu p acc → (acc = [] ∨ l[p]? ≠ some 59) → Fr (trS m) μ μ1 → (∀ f, f ≠ 29 → f ≠ 31 → mF μ1 m f = mF μ m f) → Mx μ1 m l p → rSl μ1 m acc → p ≤ l.length + 1 → Ev E M_X10_slotsRead 0 0 11 [some (.ref m), some (.int (nI 1)), l2, l3] [] μ1 K := by
    intro fu
    induction fu with
    | zero =>
      intro acc p hfu μ1 l2 l3 hps hor hF1 hf1 hX1 hR1 hpl
      have mk1 := hX1.1.1
      have h29 := hX1.2.1
      have hlt := hX1.lt
      have h31 := hR1.1
      rw [pSl_eq] at hps
      refine e_al0 12 rfl dX10_slotsRead_11 ?_
      refine e_invV0 [] 15 rfl dX10_slotsRead_12 k_X10_144 mo_X10_see rm_X10_slotsRead_X10_see ⟨rfl, rfl⟩ rfl rfl (by assumption) (Nat.le_of_ble_eq_true rfl) ?_
      refine c_see hX1 ?_
      refine e_invS0 [_] 18 rfl dX10_slotsRead_15 k_X10_148 mo_X10_kindOf rm_X10_slotsRead_X10_kindOf ⟨rfl, rfl⟩ rfl rfl (Nat.le_of_ble_eq_true rfl) ?_
      refine c_mKindOf (hlt p) ?_
      cases eK : kAt l p with
      | none =>
        have eK' : (l[p]?).bind kindOf = none := eK
        rw [eK, ] at hps
        rw [eK']
        simp only [] at hps
        rw [if_neg (fun q => by rcases hor with h | h; exact q.1 h; exact h q.2)] at hps
        refine e_is2 19 rfl dX10_slotsRead_18 (by decide) rfl ?_
        refine e_il2 20 rfl dX10_slotsRead_19 ?_
        refine e_if_ge 33 23 (by decide) rfl dX10_slotsRead_20 (fun y2 => ?_) (fun y2 => ?_)
        · exact absurd y2 (by decide)
        refine e_al0 24 rfl dX10_slotsRead_23 ?_
        refine e_iconst (nI 1) 25 rfl dX10_slotsRead_24 ic_1 ?_
        refine e_al0 26 rfl dX10_slotsRead_25 ?_
        first | refine e_getIv 29 rfl dX10_slotsRead_26 f_X10_135 (by assumption) (by first | assumption | (simp only [mN_sF, mK_sF, mL_sF, mF_sF, mB_sF, mA_sF, mJ_sF, mP_sF, mO_sF, mN_sB, mK_sB, mL_sB, mF_sB, mB_sB, mA_sB, mJ_sB, mP_sB, mO_sB, mN_sA, mK_sA, mL_sA, mF_sA, mB_sA, mA_sA, mJ_sA, mP_sA, mO_sA, mN_sJ, mK_sJ, mL_sJ, mF_sJ, mB_sJ, mA_sJ, mJ_sJ, mP_sJ, mO_sJ, mN_sP, mK_sP, mL_sP, mF_sP, mB_sP, mA_sP, mJ_sP, mP_sP, mO_sP, mN_sO, mK_sO, mL_sO, mF_sO, mB_sO, mA_sO, mJ_sO, mP_sO, mO_sO, up2, if_true, if_false, eq_self, ite_true, ite_false, reduceIte, Nat.add_left_cancel_iff, Nat.add_eq_left, Nat.left_eq_add, Nat.reduceEqDiff]; assumption) | (simp only [mN_sF, mK_sF, mL_sF, mF_sF, mB_sF, mA_sF, mJ_sF, mP_sF, mO_sF, mN_sB, mK_sB, mL_sB, mF_sB, mB_sB, mA_sB, mJ_sB, mP_sB, mO_sB, mN_sA, mK_sA, mL_sA, mF_sA, mB_sA, mA_sA, mJ_sA, mP_sA, mO_sA, mN_sJ, mK_sJ, mL_sJ, mF_sJ, mB_sJ, mA_sJ, mJ_sJ, mP_sJ, mO_sJ, mN_sP, mK_sP, mL_sP, mF_sP, mB_sP, mA_sP, mJ_sP, mP_sP, mO_sP, mN_sO, mK_sO, mL_sO, mF_sO, mB_sO, mA_sO, mJ_sO, mP_sO, mO_sO, up2, if_true, if_false, eq_self, ite_true, ite_false, reduceIte, Nat.add_left_cancel_iff, Nat.add_eq_left, Nat.left_eq_add, Nat.reduceEqDiff]; done)) ?_ | refine e_getI 29 rfl dX10_slotsRead_26 f_X10_135 (by assumption) ?_
        refine e_invV0 [_, _] 32 rfl dX10_slotsRead_29 k_X10_152 mo_X10_wrong rm_X10_slotsRead_X10_wrong ⟨rfl, rfl⟩ rfl rfl (by assumption) (Nat.le_of_ble_eq_true rfl) ?_
        refine c_wrong mk1 (fun μ2 hF2 hf2 hfl => ?_)
        refine e_zret dX10_slotsRead_32 rfl (by first | exact z0 | exact z1 | exact bI01 _ | assumption) ?_
        exact kf 1 p hps μ2 (hF1.trans (hF2.mono (fun q h => Or.inl h))) (fun f a b c d => by rw [hf2 f c d]; exact hf1 f a b) hfl
      | some k =>
        have eK' : (l[p]?).bind kindOf = some k := eK
        rw [eK] at hps
        rw [eK']
        simp only [] at hps
        have hk7 := (kAt_lt eK).1
        have hs : seeI (some k) = nI k := rfl
        rw [hs]
        have h31' : mF μ1 m 31 = nI 8 := by rw [h31, show acc.length = 8 by omega]
        refine e_is2 19 rfl dX10_slotsRead_18 (by decide) rfl ?_
        refine e_il2 20 rfl dX10_slotsRead_19 ?_
        first | refine e_if_geN 33 23 (by decide) rfl dX10_slotsRead_20 rfl (by omega) ?_ | refine e_if_ge 33 23 (by decide) rfl dX10_slotsRead_20 (fun h => ?_) (fun h => ?_)
        refine e_al0 34 rfl dX10_slotsRead_33 ?_
        first | refine e_getIv 37 rfl dX10_slotsRead_34 f_X10_141 (by assumption) (by first | assumption | (simp only [mN_sF, mK_sF, mL_sF, mF_sF, mB_sF, mA_sF, mJ_sF, mP_sF, mO_sF, mN_sB, mK_sB, mL_sB, mF_sB, mB_sB, mA_sB, mJ_sB, mP_sB, mO_sB, mN_sA, mK_sA, mL_sA, mF_sA, mB_sA, mA_sA, mJ_sA, mP_sA, mO_sA, mN_sJ, mK_sJ, mL_sJ, mF_sJ, mB_sJ, mA_sJ, mJ_sJ, mP_sJ, mO_sJ, mN_sP, mK_sP, mL_sP, mF_sP, mB_sP, mA_sP, mJ_sP, mP_sP, mO_sP, mN_sO, mK_sO, mL_sO, mF_sO, mB_sO, mA_sO, mJ_sO, mP_sO, mO_sO, up2, if_true, if_false, eq_self, ite_true, ite_false, reduceIte, Nat.add_left_cancel_iff, Nat.add_eq_left, Nat.left_eq_add, Nat.reduceEqDiff]; assumption) | (simp only [mN_sF, mK_sF, mL_sF, mF_sF, mB_sF, mA_sF, mJ_sF, mP_sF, mO_sF, mN_sB, mK_sB, mL_sB, mF_sB, mB_sB, mA_sB, mJ_sB, mP_sB, mO_sB, mN_sA, mK_sA, mL_sA, mF_sA, mB_sA, mA_sA, mJ_sA, mP_sA, mO_sA, mN_sJ, mK_sJ, mL_sJ, mF_sJ, mB_sJ, mA_sJ, mJ_sJ, mP_sJ, mO_sJ, mN_sP, mK_sP, mL_sP, mF_sP, mB_sP, mA_sP, mJ_sP, mP_sP, mO_sP, mN_sO, mK_sO, mL_sO, mF_sO, mB_sO, mA_sO, mJ_sO, mP_sO, mO_sO, up2, if_true, if_false, eq_self, ite_true, ite_false, reduceIte, Nat.add_left_cancel_iff, Nat.add_eq_left, Nat.left_eq_add, Nat.reduceEqDiff]; done)) ?_ | refine e_getI 37 rfl dX10_slotsRead_34 f_X10_141 (by assumption) ?_
        refine e_bipush (nI 8) 39 rfl dX10_slotsRead_37 bc_8 ?_
        first | refine e_cmp_neN 52 42 (by decide) rfl dX10_slotsRead_39 rfl rfl (by omega) (by omega) (fun y3 => ?_) (fun y3 => ?_) | refine e_cmp_ne 52 42 (by decide) rfl dX10_slotsRead_39 (fun y3 => ?_) (fun y3 => ?_)
        · exact absurd rfl y3
        refine e_al0 43 rfl dX10_slotsRead_42 ?_
        refine e_iconst (nI 2) 44 rfl dX10_slotsRead_43 ic_2 ?_
        refine e_al0 45 rfl dX10_slotsRead_44 ?_
        first | refine e_getIv 48 rfl dX10_slotsRead_45 f_X10_135 (by assumption) (by first | assumption | (simp only [mN_sF, mK_sF, mL_sF, mF_sF, mB_sF, mA_sF, mJ_sF, mP_sF, mO_sF, mN_sB, mK_sB, mL_sB, mF_sB, mB_sB, mA_sB, mJ_sB, mP_sB, mO_sB, mN_sA, mK_sA, mL_sA, mF_sA, mB_sA, mA_sA, mJ_sA, mP_sA, mO_sA, mN_sJ, mK_sJ, mL_sJ, mF_sJ, mB_sJ, mA_sJ, mJ_sJ, mP_sJ, mO_sJ, mN_sP, mK_sP, mL_sP, mF_sP, mB_sP, mA_sP, mJ_sP, mP_sP, mO_sP, mN_sO, mK_sO, mL_sO, mF_sO, mB_sO, mA_sO, mJ_sO, mP_sO, mO_sO, up2, if_true, if_false, eq_self, ite_true, ite_false, reduceIte, Nat.add_left_cancel_iff, Nat.add_eq_left, Nat.left_eq_add, Nat.reduceEqDiff]; assumption) | (simp only [mN_sF, mK_sF, mL_sF, mF_sF, mB_sF, mA_sF, mJ_sF, mP_sF, mO_sF, mN_sB, mK_sB, mL_sB, mF_sB, mB_sB, mA_sB, mJ_sB, mP_sB, mO_sB, mN_sA, mK_sA, mL_sA, mF_sA, mB_sA, mA_sA, mJ_sA, mP_sA, mO_sA, mN_sJ, mK_sJ, mL_sJ, mF_sJ, mB_sJ, mA_sJ, mJ_sJ, mP_sJ, mO_sJ, mN_sP, mK_sP, mL_sP, mF_sP, mB_sP, mA_sP, mJ_sP, mP_sP, mO_sP, mN_sO, mK_sO, mL_sO, mF_sO, mB_sO, mA_sO, mJ_sO, mP_sO, mO_sO, up2, if_true, if_false, eq_self, ite_true, ite_false, reduceIte, Nat.add_left_cancel_iff, Nat.add_eq_left, Nat.left_eq_add, Nat.reduceEqDiff]; done)) ?_ | refine e_getI 48 rfl dX10_slotsRead_45 f_X10_135 (by assumption) ?_
        refine e_invV0 [_, _] 51 rfl dX10_slotsRead_48 k_X10_152 mo_X10_wrong rm_X10_slotsRead_X10_wrong ⟨rfl, rfl⟩ rfl rfl (by assumption) (Nat.le_of_ble_eq_true rfl) ?_
        refine c_wrong mk1 (fun μ2 hF2 hf2 hfl => ?_)
        refine e_zret dX10_slotsRead_51 rfl (by first | exact z0 | exact z1 | exact bI01 _ | assumption) ?_
        exact kf 2 p hps μ2 (hF1.trans (hF2.mono (fun q h => Or.inl h))) (fun f a b c d => by rw [hf2 f c d]; exact hf1 f a b) hfl
    | succ fu ih =>
      intro acc p hfu μ1 l2 l3 hps hor hF1 hf1 hX1 hR1 hpl
      have mk1 := hX1.1.1
      have h29 := hX1.2.1
      have hlt := hX1.lt
      have h31 := hR1.1
      rw [pSl_eq] at hps
      refine e_al0 12 rfl dX10_slotsRead_11 ?_
      refine e_invV0 [] 15 rfl dX10_slotsRead_12 k_X10_144 mo_X10_see rm_X10_slotsRead_X10_see ⟨rfl, rfl⟩ rfl rfl (by assumption) (Nat.le_of_ble_eq_true rfl) ?_
      refine c_see hX1 ?_
      refine e_invS0 [_] 18 rfl dX10_slotsRead_15 k_X10_148 mo_X10_kindOf rm_X10_slotsRead_X10_kindOf ⟨rfl, rfl⟩ rfl rfl (Nat.le_of_ble_eq_true rfl) ?_
      refine c_mKindOf (hlt p) ?_
      cases eK : kAt l p with
      | none =>
        have eK' : (l[p]?).bind kindOf = none := eK
        rw [eK, ] at hps
        rw [eK']
        simp only [] at hps
        rw [if_neg (fun q => by rcases hor with h | h; exact q.1 h; exact h q.2)] at hps
        refine e_is2 19 rfl dX10_slotsRead_18 (by decide) rfl ?_
        refine e_il2 20 rfl dX10_slotsRead_19 ?_
        refine e_if_ge 33 23 (by decide) rfl dX10_slotsRead_20 (fun y2 => ?_) (fun y2 => ?_)
        · exact absurd y2 (by decide)
        refine e_al0 24 rfl dX10_slotsRead_23 ?_
        refine e_iconst (nI 1) 25 rfl dX10_slotsRead_24 ic_1 ?_
        refine e_al0 26 rfl dX10_slotsRead_25 ?_
        first | refine e_getIv 29 rfl dX10_slotsRead_26 f_X10_135 (by assumption) (by first | assumption | (simp only [mN_sF, mK_sF, mL_sF, mF_sF, mB_sF, mA_sF, mJ_sF, mP_sF, mO_sF, mN_sB, mK_sB, mL_sB, mF_sB, mB_sB, mA_sB, mJ_sB, mP_sB, mO_sB, mN_sA, mK_sA, mL_sA, mF_sA, mB_sA, mA_sA, mJ_sA, mP_sA, mO_sA, mN_sJ, mK_sJ, mL_sJ, mF_sJ, mB_sJ, mA_sJ, mJ_sJ, mP_sJ, mO_sJ, mN_sP, mK_sP, mL_sP, mF_sP, mB_sP, mA_sP, mJ_sP, mP_sP, mO_sP, mN_sO, mK_sO, mL_sO, mF_sO, mB_sO, mA_sO, mJ_sO, mP_sO, mO_sO, up2, if_true, if_false, eq_self, ite_true, ite_false, reduceIte, Nat.add_left_cancel_iff, Nat.add_eq_left, Nat.left_eq_add, Nat.reduceEqDiff]; assumption) | (simp only [mN_sF, mK_sF, mL_sF, mF_sF, mB_sF, mA_sF, mJ_sF, mP_sF, mO_sF, mN_sB, mK_sB, mL_sB, mF_sB, mB_sB, mA_sB, mJ_sB, mP_sB, mO_sB, mN_sA, mK_sA, mL_sA, mF_sA, mB_sA, mA_sA, mJ_sA, mP_sA, mO_sA, mN_sJ, mK_sJ, mL_sJ, mF_sJ, mB_sJ, mA_sJ, mJ_sJ, mP_sJ, mO_sJ, mN_sP, mK_sP, mL_sP, mF_sP, mB_sP, mA_sP, mJ_sP, mP_sP, mO_sP, mN_sO, mK_sO, mL_sO, mF_sO, mB_sO, mA_sO, mJ_sO, mP_sO, mO_sO, up2, if_true, if_false, eq_self, ite_true, ite_false, reduceIte, Nat.add_left_cancel_iff, Nat.add_eq_left, Nat.left_eq_add, Nat.reduceEqDiff]; done)) ?_ | refine e_getI 29 rfl dX10_slotsRead_26 f_X10_135 (by assumption) ?_
        refine e_invV0 [_, _] 32 rfl dX10_slotsRead_29 k_X10_152 mo_X10_wrong rm_X10_slotsRead_X10_wrong ⟨rfl, rfl⟩ rfl rfl (by assumption) (Nat.le_of_ble_eq_true rfl) ?_
        refine c_wrong mk1 (fun μ2 hF2 hf2 hfl => ?_)
        refine e_zret dX10_slotsRead_32 rfl (by first | exact z0 | exact z1 | exact bI01 _ | assumption) ?_
        exact kf 1 p hps μ2 (hF1.trans (hF2.mono (fun q h => Or.inl h))) (fun f a b c d => by rw [hf2 f c d]; exact hf1 f a b) hfl
      | some k =>
        have eK' : (l[p]?).bind kindOf = some k := eK
        rw [eK] at hps
        rw [eK']
        simp only [] at hps
        have hk7 := (kAt_lt eK).1
        have hpl2 := (kAt_lt eK).2
        have hs : seeI (some k) = nI k := rfl
        rw [hs]
        refine e_is2 19 rfl dX10_slotsRead_18 (by decide) rfl ?_
        refine e_il2 20 rfl dX10_slotsRead_19 ?_
        first | refine e_if_geN 33 23 (by decide) rfl dX10_slotsRead_20 rfl (by omega) ?_ | refine e_if_ge 33 23 (by decide) rfl dX10_slotsRead_20 (fun h => ?_) (fun h => ?_)
        refine e_al0 34 rfl dX10_slotsRead_33 ?_
        first | refine e_getIv 37 rfl dX10_slotsRead_34 f_X10_141 (by assumption) (by first | assumption | (simp only [mN_sF, mK_sF, mL_sF, mF_sF, mB_sF, mA_sF, mJ_sF, mP_sF, mO_sF, mN_sB, mK_sB, mL_sB, mF_sB, mB_sB, mA_sB, mJ_sB, mP_sB, mO_sB, mN_sA, mK_sA, mL_sA, mF_sA, mB_sA, mA_sA, mJ_sA, mP_sA, mO_sA, mN_sJ, mK_sJ, mL_sJ, mF_sJ, mB_sJ, mA_sJ, mJ_sJ, mP_sJ, mO_sJ, mN_sP, mK_sP, mL_sP, mF_sP, mB_sP, mA_sP, mJ_sP, mP_sP, mO_sP, mN_sO, mK_sO, mL_sO, mF_sO, mB_sO, mA_sO, mJ_sO, mP_sO, mO_sO, up2, if_true, if_false, eq_self, ite_true, ite_false, reduceIte, Nat.add_left_cancel_iff, Nat.add_eq_left, Nat.left_eq_add, Nat.reduceEqDiff]; assumption) | (simp only [mN_sF, mK_sF, mL_sF, mF_sF, mB_sF, mA_sF, mJ_sF, mP_sF, mO_sF, mN_sB, mK_sB, mL_sB, mF_sB, mB_sB, mA_sB, mJ_sB, mP_sB, mO_sB, mN_sA, mK_sA, mL_sA, mF_sA, mB_sA, mA_sA, mJ_sA, mP_sA, mO_sA, mN_sJ, mK_sJ, mL_sJ, mF_sJ, mB_sJ, mA_sJ, mJ_sJ, mP_sJ, mO_sJ, mN_sP, mK_sP, mL_sP, mF_sP, mB_sP, mA_sP, mJ_sP, mP_sP, mO_sP, mN_sO, mK_sO, mL_sO, mF_sO, mB_sO, mA_sO, mJ_sO, mP_sO, mO_sO, up2, if_true, if_false, eq_self, ite_true, ite_false, reduceIte, Nat.add_left_cancel_iff, Nat.add_eq_left, Nat.left_eq_add, Nat.reduceEqDiff]; done)) ?_ | refine e_getI 37 rfl dX10_slotsRead_34 f_X10_141 (by assumption) ?_
        refine e_bipush (nI 8) 39 rfl dX10_slotsRead_37 bc_8 ?_
        first | refine e_cmp_neN 52 42 (by decide) rfl dX10_slotsRead_39 rfl rfl (by omega) (by omega) (fun y3 => ?_) (fun y3 => ?_) | refine e_cmp_ne 52 42 (by decide) rfl dX10_slotsRead_39 (fun y3 => ?_) (fun y3 => ?_)
        rotate_left
        · omega
        have hX2 := hX1.to (p' := p + 1) (by omega)
        refine e_al0 53 rfl dX10_slotsRead_52 ?_
        refine e_dup 54 rfl dX10_slotsRead_53 rfl ?_
        first | refine e_getIv 57 rfl dX10_slotsRead_54 f_X10_135 (by assumption) (by first | assumption | (simp only [mN_sF, mK_sF, mL_sF, mF_sF, mB_sF, mA_sF, mJ_sF, mP_sF, mO_sF, mN_sB, mK_sB, mL_sB, mF_sB, mB_sB, mA_sB, mJ_sB, mP_sB, mO_sB, mN_sA, mK_sA, mL_sA, mF_sA, mB_sA, mA_sA, mJ_sA, mP_sA, mO_sA, mN_sJ, mK_sJ, mL_sJ, mF_sJ, mB_sJ, mA_sJ, mJ_sJ, mP_sJ, mO_sJ, mN_sP, mK_sP, mL_sP, mF_sP, mB_sP, mA_sP, mJ_sP, mP_sP, mO_sP, mN_sO, mK_sO, mL_sO, mF_sO, mB_sO, mA_sO, mJ_sO, mP_sO, mO_sO, up2, if_true, if_false, eq_self, ite_true, ite_false, reduceIte, Nat.add_left_cancel_iff, Nat.add_eq_left, Nat.left_eq_add, Nat.reduceEqDiff]; assumption) | (simp only [mN_sF, mK_sF, mL_sF, mF_sF, mB_sF, mA_sF, mJ_sF, mP_sF, mO_sF, mN_sB, mK_sB, mL_sB, mF_sB, mB_sB, mA_sB, mJ_sB, mP_sB, mO_sB, mN_sA, mK_sA, mL_sA, mF_sA, mB_sA, mA_sA, mJ_sA, mP_sA, mO_sA, mN_sJ, mK_sJ, mL_sJ, mF_sJ, mB_sJ, mA_sJ, mJ_sJ, mP_sJ, mO_sJ, mN_sP, mK_sP, mL_sP, mF_sP, mB_sP, mA_sP, mJ_sP, mP_sP, mO_sP, mN_sO, mK_sO, mL_sO, mF_sO, mB_sO, mA_sO, mJ_sO, mP_sO, mO_sO, up2, if_true, if_false, eq_self, ite_true, ite_false, reduceIte, Nat.add_left_cancel_iff, Nat.add_eq_left, Nat.left_eq_add, Nat.reduceEqDiff]; done)) ?_ | refine e_getI 57 rfl dX10_slotsRead_54 f_X10_135 (by assumption) ?_
        refine e_iconst (nI 1) 58 rfl dX10_slotsRead_57 ic_1 ?_
        first | refine e_iaddN 59 rfl dX10_slotsRead_58 rfl rfl ?_ | refine e_iadd 59 rfl dX10_slotsRead_58 ?_
        refine e_putI 62 rfl dX10_slotsRead_59 f_X10_135 (by assumption) ?_
        have hF2 := hF1.sF Sm 29 (nI (p + 1))
        have hf2 : ∀ f, f ≠ 29 → f ≠ 31 → mF (sF μ1 m 29 (nI (p + 1))) m f = mF μ m f := fun f a b => by
          show up2 _ m 29 _ m f = _
          rw [up2_k a]; exact hf1 f a b
        have hR2 : rSl (sF μ1 m 29 (nI (p + 1))) m acc := ⟨by simp only [mN_sF, mK_sF, mL_sF, mF_sF, mB_sF, mA_sF, mJ_sF, mP_sF, mO_sF, mN_sB, mK_sB, mL_sB, mF_sB, mB_sB, mA_sB, mJ_sB, mP_sB, mO_sB, mN_sA, mK_sA, mL_sA, mF_sA, mB_sA, mA_sA, mJ_sA, mP_sA, mO_sA, mN_sJ, mK_sJ, mL_sJ, mF_sJ, mB_sJ, mA_sJ, mJ_sJ, mP_sJ, mO_sJ, mN_sP, mK_sP, mL_sP, mF_sP, mB_sP, mA_sP, mJ_sP, mP_sP, mO_sP, mN_sO, mK_sO, mL_sO, mF_sO, mB_sO, mA_sO, mJ_sO, mP_sO, mO_sO, up2, if_true, if_false, eq_self, ite_true, ite_false, reduceIte, Nat.add_left_cancel_iff, Nat.add_eq_left, Nat.left_eq_add, Nat.reduceEqDiff]; exact h31, by rw [mA_sF]; exact hR1.2⟩
        generalize sF μ1 m 29 (nI (p + 1)) = μ2 at hX2 hF2 hf2 hR2 ⊢
        have mk2 := hX2.1.1
        have h292 := hX2.2.1
        have h312 := hR2.1
        refine e_al0 63 rfl dX10_slotsRead_62 ?_
        refine e_invV0 [] 66 rfl dX10_slotsRead_63 k_X10_144 mo_X10_see rm_X10_slotsRead_X10_see ⟨rfl, rfl⟩ rfl rfl (by assumption) (Nat.le_of_ble_eq_true rfl) ?_
        refine c_see hX2 ?_
        obtain ⟨o, ho⟩ : ∃ o, o = l[p + 1]? := ⟨_, rfl⟩
        rw [← ho] at hps ⊢
        have hoc : ∀ c, o = some c → c < 256 := fun c hc => hlt (p + 1) c (by rw [← ho]; exact hc)
        obtain ⟨pk, kk, lk⟩ := hX2.1.rKind
        obtain ⟨ph, kh, lh⟩ := hX2.1.rHow
        have e63 := seeI_eq hoc (d := 63) (by decide)
        have e42 := seeI_eq hoc (d := 42) (by decide)
        have e43 := seeI_eq hoc (d := 43) (by decide)
        have h4 := howOf_lt o
        refine e_is3 67 rfl dX10_slotsRead_66 (by decide) rfl ?_
        refine e_al0 68 rfl dX10_slotsRead_67 ?_
        refine e_getR 71 rfl dX10_slotsRead_68 f_X10_84 (by assumption) (by assumption) ?_
        refine e_al0 72 rfl dX10_slotsRead_71 ?_
        first | refine e_getIv 75 rfl dX10_slotsRead_72 f_X10_141 (by assumption) (by first | assumption | (simp only [mN_sF, mK_sF, mL_sF, mF_sF, mB_sF, mA_sF, mJ_sF, mP_sF, mO_sF, mN_sB, mK_sB, mL_sB, mF_sB, mB_sB, mA_sB, mJ_sB, mP_sB, mO_sB, mN_sA, mK_sA, mL_sA, mF_sA, mB_sA, mA_sA, mJ_sA, mP_sA, mO_sA, mN_sJ, mK_sJ, mL_sJ, mF_sJ, mB_sJ, mA_sJ, mJ_sJ, mP_sJ, mO_sJ, mN_sP, mK_sP, mL_sP, mF_sP, mB_sP, mA_sP, mJ_sP, mP_sP, mO_sP, mN_sO, mK_sO, mL_sO, mF_sO, mB_sO, mA_sO, mJ_sO, mP_sO, mO_sO, up2, if_true, if_false, eq_self, ite_true, ite_false, reduceIte, Nat.add_left_cancel_iff, Nat.add_eq_left, Nat.left_eq_add, Nat.reduceEqDiff]; assumption) | (simp only [mN_sF, mK_sF, mL_sF, mF_sF, mB_sF, mA_sF, mJ_sF, mP_sF, mO_sF, mN_sB, mK_sB, mL_sB, mF_sB, mB_sB, mA_sB, mJ_sB, mP_sB, mO_sB, mN_sA, mK_sA, mL_sA, mF_sA, mB_sA, mA_sA, mJ_sA, mP_sA, mO_sA, mN_sJ, mK_sJ, mL_sJ, mF_sJ, mB_sJ, mA_sJ, mJ_sJ, mP_sJ, mO_sJ, mN_sP, mK_sP, mL_sP, mF_sP, mB_sP, mA_sP, mJ_sP, mP_sP, mO_sP, mN_sO, mK_sO, mL_sO, mF_sO, mB_sO, mA_sO, mJ_sO, mP_sO, mO_sO, up2, if_true, if_false, eq_self, ite_true, ite_false, reduceIte, Nat.add_left_cancel_iff, Nat.add_eq_left, Nat.left_eq_add, Nat.reduceEqDiff]; done)) ?_ | refine e_getI 75 rfl dX10_slotsRead_72 f_X10_141 (by assumption) ?_
        refine e_il2 76 rfl dX10_slotsRead_75 ?_
        refine e_iast 77 rfl dX10_slotsRead_76 (by assumption) (by assumption) (by first | rfl | simp only [pk_mul, nI_add]) (by omega) (by omega) ?_
        have mk3 : mK (sA μ2 (m + 24) acc.length (nI k)) m = 11 := mk2
        have h313 : mF (sA μ2 (m + 24) acc.length (nI k)) m 31 = nI acc.length := h312
        have fin : ∀ w, w = nI (howOf o) → Ev E M_X10_slotsRead 0 0 116 [some (.ref m), some (.int (nI 1)), some (.int (nI k)), some (.int (seeI o))] [.int w, .int (nI acc.length), .ref (m + 25)] (sA μ2 (m + 24) acc.length (nI k)) K := by
          intro w hw
          subst hw
          have kh3 : mK (sA μ2 (m + 24) acc.length (nI k)) (m + 25) = 13 := kh
          have lh3 : mL (sA μ2 (m + 24) acc.length (nI k)) (m + 25) = 8 := lh
          refine e_iast 117 rfl dX10_slotsRead_116 (by assumption) (by assumption) (by first | rfl | simp only [pk_mul, nI_add]) (by omega) (by omega) ?_
          have hF4 : Fr (fun q => q = m + 24 ∨ q = m + 25) μ2 (sA (sA μ2 (m + 24) acc.length (nI k)) (m + 25) acc.length (nI (howOf o))) := ((Fr.rf (S := fun q => q = m + 24 ∨ q = m + 25)).sA (Or.inl rfl) _ _).sA (Or.inr rfl) _ _
          have a24 : ∀ u, mA (sA (sA μ2 (m + 24) acc.length (nI k)) (m + 25) acc.length (nI (howOf o))) (m + 24) u = if u = acc.length then nI k else mA μ2 (m + 24) u := fun u => by
            show up2 (up2 _ (m + 24) _ _) (m + 25) _ _ (m + 24) u = _
            rw [up2_a (by omega)]
            by_cases c : u = acc.length
            · rw [if_pos c, c, up2_s]
            · rw [if_neg c, up2_k c]
          have a25 : ∀ u, mA (sA (sA μ2 (m + 24) acc.length (nI k)) (m + 25) acc.length (nI (howOf o))) (m + 25) u = if u = acc.length then nI (howOf o) else mA μ2 (m + 25) u := fun u => by
            show up2 (up2 _ (m + 24) _ _) (m + 25) _ _ (m + 25) u = _
            by_cases c : u = acc.length
            · rw [if_pos c, c, up2_s]
            · rw [if_neg c, up2_k c, up2_a (by omega)]
          generalize sA (sA μ2 (m + 24) acc.length (nI k)) (m + 25) acc.length (nI (howOf o)) = μ4 at hF4 a24 a25 ⊢
          have fm4 : mF μ4 m = mF μ2 m := (hF4.2.2.2.2.2 m (by omega)).1
          have hX4 : Mx μ4 m l (p + 1) := hX2.fr hF4 (by rw [fm4]) (by rw [fm4]) (by omega)
          have mk4 := hX4.1.1
          have h294 := hX4.2.1
          have h314 : mF μ4 m 31 = nI acc.length := by rw [fm4]; exact h312
          obtain ⟨ph4, kh4, lh4⟩ := hX4.1.rHow
          have v4 : mA μ4 (m + 25) acc.length = nI (howOf o) := by rw [a25, if_pos rfl]
          have hsl4 : ∀ i s, (acc ++ [(k, howOf o)])[i]? = some s → mA μ4 (m + 24) i = nI s.1 ∧ mA μ4 (m + 25) i = nI s.2 := fun i s hi => by
            by_cases c : i < acc.length
            · rw [List.getElem?_append_left c] at hi
              rw [a24, a25, if_neg (by omega), if_neg (by omega)]
              exact hR2.2 i s hi
            · rw [List.getElem?_append_right (by omega)] at hi
              have hz : i - acc.length < 1 := (List.getElem?_eq_some_iff.mp hi).1
              have ei : i = acc.length := by omega
              subst ei
              rw [Nat.sub_self] at hi
              have hi2 : (k, howOf o) = s := Option.some.inj hi
              rw [← hi2, a24, a25, if_pos rfl, if_pos rfl]
              exact ⟨rfl, rfl⟩
          have hF24 : Fr (trS m) μ μ4 := hF2.trans (hF4.mono (fun q h => by unfold trS; omega))
          have hf4 : ∀ f, f ≠ 29 → f ≠ 31 → mF μ4 m f = mF μ m f := fun f a b => by rw [fm4]; exact hf2 f a b
          -- behind the mark
          have tail : ∀ p5 μ5, p5 = p + 1 + (if howOf o = 0 then 0 else 1) → p5 ≤ l.length + 1 → Fr (trS m) μ μ5 → (∀ f, f ≠ 29 → f ≠ 31 → mF μ5 m f = mF μ m f) → Mx μ5 m l p5 → mF μ5 m 31 = nI acc.length → (∀ i s, (acc ++ [(k, howOf o)])[i]? = some s → mA μ5 (m + 24) i = nI s.1 ∧ mA μ5 (m + 25) i = nI s.2) → Ev E M_X10_slotsRead 0 0 139 [some (.ref m), some (.int (nI 1)), some (.int (nI k)), some (.int (seeI o))] [] μ5 K := by
            intro p5 μ5 hp5 hp5l hF5 hf5 hX5 h315 hsl5
            have mk5 := hX5.1.1
            refine e_al0 140 rfl dX10_slotsRead_139 ?_
            refine e_dup 141 rfl dX10_slotsRead_140 rfl ?_
            first | refine e_getIv 144 rfl dX10_slotsRead_141 f_X10_141 (by assumption) (by first | assumption | (simp only [mN_sF, mK_sF, mL_sF, mF_sF, mB_sF, mA_sF, mJ_sF, mP_sF, mO_sF, mN_sB, mK_sB, mL_sB, mF_sB, mB_sB, mA_sB, mJ_sB, mP_sB, mO_sB, mN_sA, mK_sA, mL_sA, mF_sA, mB_sA, mA_sA, mJ_sA, mP_sA, mO_sA, mN_sJ, mK_sJ, mL_sJ, mF_sJ, mB_sJ, mA_sJ, mJ_sJ, mP_sJ, mO_sJ, mN_sP, mK_sP, mL_sP, mF_sP, mB_sP, mA_sP, mJ_sP, mP_sP, mO_sP, mN_sO, mK_sO, mL_sO, mF_sO, mB_sO, mA_sO, mJ_sO, mP_sO, mO_sO, up2, if_true, if_false, eq_self, ite_true, ite_false, reduceIte, Nat.add_left_cancel_iff, Nat.add_eq_left, Nat.left_eq_add, Nat.reduceEqDiff]; assumption) | (simp only [mN_sF, mK_sF, mL_sF, mF_sF, mB_sF, mA_sF, mJ_sF, mP_sF, mO_sF, mN_sB, mK_sB, mL_sB, mF_sB, mB_sB, mA_sB, mJ_sB, mP_sB, mO_sB, mN_sA, mK_sA, mL_sA, mF_sA, mB_sA, mA_sA, mJ_sA, mP_sA, mO_sA, mN_sJ, mK_sJ, mL_sJ, mF_sJ, mB_sJ, mA_sJ, mJ_sJ, mP_sJ, mO_sJ, mN_sP, mK_sP, mL_sP, mF_sP, mB_sP, mA_sP, mJ_sP, mP_sP, mO_sP, mN_sO, mK_sO, mL_sO, mF_sO, mB_sO, mA_sO, mJ_sO, mP_sO, mO_sO, up2, if_true, if_false, eq_self, ite_true, ite_false, reduceIte, Nat.add_left_cancel_iff, Nat.add_eq_left, Nat.left_eq_add, Nat.reduceEqDiff]; done)) ?_ | refine e_getI 144 rfl dX10_slotsRead_141 f_X10_141 (by assumption) ?_
            refine e_iconst (nI 1) 145 rfl dX10_slotsRead_144 ic_1 ?_
            first | refine e_iaddN 146 rfl dX10_slotsRead_145 rfl rfl ?_ | refine e_iadd 146 rfl dX10_slotsRead_145 ?_
            refine e_putI 149 rfl dX10_slotsRead_146 f_X10_141 (by assumption) ?_
            have hX6 : Mx (sF μ5 m 31 (nI (acc.length + 1))) m l p5 := hX5.fr ((Fr.rf (S := fun q => q = m)).sF rfl 31 (nI (acc.length + 1))) (by simp only [mN_sF, mK_sF, mL_sF, mF_sF, mB_sF, mA_sF, mJ_sF, mP_sF, mO_sF, mN_sB, mK_sB, mL_sB, mF_sB, mB_sB, mA_sB, mJ_sB, mP_sB, mO_sB, mN_sA, mK_sA, mL_sA, mF_sA, mB_sA, mA_sA, mJ_sA, mP_sA, mO_sA, mN_sJ, mK_sJ, mL_sJ, mF_sJ, mB_sJ, mA_sJ, mJ_sJ, mP_sJ, mO_sJ, mN_sP, mK_sP, mL_sP, mF_sP, mB_sP, mA_sP, mJ_sP, mP_sP, mO_sP, mN_sO, mK_sO, mL_sO, mF_sO, mB_sO, mA_sO, mJ_sO, mP_sO, mO_sO, up2, if_true, if_false, eq_self, ite_true, ite_false, reduceIte, Nat.add_left_cancel_iff, Nat.add_eq_left, Nat.left_eq_add, Nat.reduceEqDiff]) (by simp only [mN_sF, mK_sF, mL_sF, mF_sF, mB_sF, mA_sF, mJ_sF, mP_sF, mO_sF, mN_sB, mK_sB, mL_sB, mF_sB, mB_sB, mA_sB, mJ_sB, mP_sB, mO_sB, mN_sA, mK_sA, mL_sA, mF_sA, mB_sA, mA_sA, mJ_sA, mP_sA, mO_sA, mN_sJ, mK_sJ, mL_sJ, mF_sJ, mB_sJ, mA_sJ, mJ_sJ, mP_sJ, mO_sJ, mN_sP, mK_sP, mL_sP, mF_sP, mB_sP, mA_sP, mJ_sP, mP_sP, mO_sP, mN_sO, mK_sO, mL_sO, mF_sO, mB_sO, mA_sO, mJ_sO, mP_sO, mO_sO, up2, if_true, if_false, eq_self, ite_true, ite_false, reduceIte, Nat.add_left_cancel_iff, Nat.add_eq_left, Nat.left_eq_add, Nat.reduceEqDiff]) (by omega)
            have hR6 : rSl (sF μ5 m 31 (nI (acc.length + 1))) m (acc ++ [(k, howOf o)]) := ⟨by simp only [mN_sF, mK_sF, mL_sF, mF_sF, mB_sF, mA_sF, mJ_sF, mP_sF, mO_sF, mN_sB, mK_sB, mL_sB, mF_sB, mB_sB, mA_sB, mJ_sB, mP_sB, mO_sB, mN_sA, mK_sA, mL_sA, mF_sA, mB_sA, mA_sA, mJ_sA, mP_sA, mO_sA, mN_sJ, mK_sJ, mL_sJ, mF_sJ, mB_sJ, mA_sJ, mJ_sJ, mP_sJ, mO_sJ, mN_sP, mK_sP, mL_sP, mF_sP, mB_sP, mA_sP, mJ_sP, mP_sP, mO_sP, mN_sO, mK_sO, mL_sO, mF_sO, mB_sO, mA_sO, mJ_sO, mP_sO, mO_sO, up2, if_true, if_false, eq_self, ite_true, ite_false, reduceIte, Nat.add_left_cancel_iff, Nat.add_eq_left, Nat.left_eq_add, Nat.reduceEqDiff]; rw [List.length_append]; rfl, by rw [mA_sF]; exact hsl5⟩
            have hF6 := hF5.sF Sm 31 (nI (acc.length + 1))
            have hf6 : ∀ f, f ≠ 29 → f ≠ 31 → mF (sF μ5 m 31 (nI (acc.length + 1))) m f = mF μ m f := fun f a b => by
              show up2 _ m 31 _ m f = _
              rw [up2_k b]; exact hf5 f a b
            generalize sF μ5 m 31 (nI (acc.length + 1)) = μ6 at hX6 hR6 hF6 hf6 ⊢
            have mk6 := hX6.1.1
            have h296 := hX6.2.1
            rw [← hp5] at hps
            have e59 := seeI_eq (hlt p5) (d := 59) (by decide)
            refine e_al0 150 rfl dX10_slotsRead_149 ?_
            refine e_invV0 [] 153 rfl dX10_slotsRead_150 k_X10_144 mo_X10_see rm_X10_slotsRead_X10_see ⟨rfl, rfl⟩ rfl rfl (by assumption) (Nat.le_of_ble_eq_true rfl) ?_
            refine c_see hX6 ?_
            refine e_bipush (nI 59) 155 rfl dX10_slotsRead_153 bc_59 ?_
            refine e_cmp_eq 162 158 (by decide) rfl dX10_slotsRead_155 (fun y5 => ?_) (fun y5 => ?_)
            · have h59 := e59.mp y5
              rw [pSl_eq] at hps
              have hkn : kAt l p5 = none := by unfold kAt; rw [h59]; rfl
              rw [hkn] at hps
              simp only [] at hps
              rw [if_pos ⟨by simp, h59⟩] at hps
              have hX7 := hX6.to (p' := p5 + 1) (by omega)
              refine e_iconst (nI 0) 163 rfl dX10_slotsRead_162 ic_0 ?_
              refine e_is1 164 rfl dX10_slotsRead_163 (by decide) rfl ?_
              refine e_goto 7 (by decide) dX10_slotsRead_164 ?_
              refine e_il1 8 rfl dX10_slotsRead_7 ?_
              first | refine e_if_eqB 167 11 (by decide) rfl dX10_slotsRead_8 rfl (fun y6 => ?_) (fun y6 => ?_) | refine e_if_eqN 167 11 (by decide) rfl dX10_slotsRead_8 rfl (by omega) (fun y6 => ?_) (fun y6 => ?_) | refine e_if_eq 167 11 (by decide) rfl dX10_slotsRead_8 (fun y6 => ?_) (fun y6 => ?_)
              rotate_left
              · exact absurd y6 (by decide)
              refine e_al0 168 rfl dX10_slotsRead_167 ?_
              refine e_dup 169 rfl dX10_slotsRead_168 rfl ?_
              first | refine e_getIv 172 rfl dX10_slotsRead_169 f_X10_135 (by assumption) (by first | assumption | (simp only [mN_sF, mK_sF, mL_sF, mF_sF, mB_sF, mA_sF, mJ_sF, mP_sF, mO_sF, mN_sB, mK_sB, mL_sB, mF_sB, mB_sB, mA_sB, mJ_sB, mP_sB, mO_sB, mN_sA, mK_sA, mL_sA, mF_sA, mB_sA, mA_sA, mJ_sA, mP_sA, mO_sA, mN_sJ, mK_sJ, mL_sJ, mF_sJ, mB_sJ, mA_sJ, mJ_sJ, mP_sJ, mO_sJ, mN_sP, mK_sP, mL_sP, mF_sP, mB_sP, mA_sP, mJ_sP, mP_sP, mO_sP, mN_sO, mK_sO, mL_sO, mF_sO, mB_sO, mA_sO, mJ_sO, mP_sO, mO_sO, up2, if_true, if_false, eq_self, ite_true, ite_false, reduceIte, Nat.add_left_cancel_iff, Nat.add_eq_left, Nat.left_eq_add, Nat.reduceEqDiff]; assumption) | (simp only [mN_sF, mK_sF, mL_sF, mF_sF, mB_sF, mA_sF, mJ_sF, mP_sF, mO_sF, mN_sB, mK_sB, mL_sB, mF_sB, mB_sB, mA_sB, mJ_sB, mP_sB, mO_sB, mN_sA, mK_sA, mL_sA, mF_sA, mB_sA, mA_sA, mJ_sA, mP_sA, mO_sA, mN_sJ, mK_sJ, mL_sJ, mF_sJ, mB_sJ, mA_sJ, mJ_sJ, mP_sJ, mO_sJ, mN_sP, mK_sP, mL_sP, mF_sP, mB_sP, mA_sP, mJ_sP, mP_sP, mO_sP, mN_sO, mK_sO, mL_sO, mF_sO, mB_sO, mA_sO, mJ_sO, mP_sO, mO_sO, up2, if_true, if_false, eq_self, ite_true, ite_false, reduceIte, Nat.add_left_cancel_iff, Nat.add_eq_left, Nat.left_eq_add, Nat.reduceEqDiff]; done)) ?_ | refine e_getI 172 rfl dX10_slotsRead_169 f_X10_135 (by assumption) ?_
              refine e_iconst (nI 1) 173 rfl dX10_slotsRead_172 ic_1 ?_
              first | refine e_iaddN 174 rfl dX10_slotsRead_173 rfl rfl ?_ | refine e_iadd 174 rfl dX10_slotsRead_173 ?_
              refine e_putI 177 rfl dX10_slotsRead_174 f_X10_135 (by assumption) ?_
              refine e_iconst (nI 1) 178 rfl dX10_slotsRead_177 ic_1 ?_
              refine e_zret dX10_slotsRead_178 rfl (by first | exact z0 | exact z1 | exact bI01 _ | assumption) ?_
              refine kt (p5 + 1) _ hps _ (hF6.sF Sm _ _) (fun f a b => ?_) hX7 ⟨by simp only [mN_sF, mK_sF, mL_sF, mF_sF, mB_sF, mA_sF, mJ_sF, mP_sF, mO_sF, mN_sB, mK_sB, mL_sB, mF_sB, mB_sB, mA_sB, mJ_sB, mP_sB, mO_sB, mN_sA, mK_sA, mL_sA, mF_sA, mB_sA, mA_sA, mJ_sA, mP_sA, mO_sA, mN_sJ, mK_sJ, mL_sJ, mF_sJ, mB_sJ, mA_sJ, mJ_sJ, mP_sJ, mO_sJ, mN_sP, mK_sP, mL_sP, mF_sP, mB_sP, mA_sP, mJ_sP, mP_sP, mO_sP, mN_sO, mK_sO, mL_sO, mF_sO, mB_sO, mA_sO, mJ_sO, mP_sO, mO_sO, up2, if_true, if_false, eq_self, ite_true, ite_false, reduceIte, Nat.add_left_cancel_iff, Nat.add_eq_left, Nat.left_eq_add, Nat.reduceEqDiff]; exact hR6.1, by rw [mA_sF]; exact hR6.2⟩
              show up2 _ m 29 _ m f = _
              rw [up2_k a]; exact hf6 f a b
            · refine e_iconst (nI 1) 159 rfl dX10_slotsRead_158 ic_1 ?_
              refine e_goto 163 (by decide) dX10_slotsRead_159 ?_
              refine e_is1 164 rfl dX10_slotsRead_163 (by decide) rfl ?_
              refine e_goto 7 (by decide) dX10_slotsRead_164 ?_
              refine e_il1 8 rfl dX10_slotsRead_7 ?_
              first | refine e_if_eqB 167 11 (by decide) rfl dX10_slotsRead_8 rfl (fun y6 => ?_) (fun y6 => ?_) | refine e_if_eqN 167 11 (by decide) rfl dX10_slotsRead_8 rfl (by omega) (fun y6 => ?_) (fun y6 => ?_) | refine e_if_eq 167 11 (by decide) rfl dX10_slotsRead_8 (fun y6 => ?_) (fun y6 => ?_)
              · exact absurd y6 (by decide)
              exact ih (acc ++ [(k, howOf o)]) p5 (by rw [List.length_append, List.length_singleton]; omega) μ6 _ _ hps (Or.inr (fun q => y5 (e59.mpr q))) hF6 hf6 hX6 hR6 hp5l
          refine e_al0 118 rfl dX10_slotsRead_117 ?_
          refine e_getR 121 rfl dX10_slotsRead_118 f_X10_87 (by assumption) (by assumption) ?_
          refine e_al0 122 rfl dX10_slotsRead_121 ?_
          first | refine e_getIv 125 rfl dX10_slotsRead_122 f_X10_141 (by assumption) (by first | assumption | (simp only [mN_sF, mK_sF, mL_sF, mF_sF, mB_sF, mA_sF, mJ_sF, mP_sF, mO_sF, mN_sB, mK_sB, mL_sB, mF_sB, mB_sB, mA_sB, mJ_sB, mP_sB, mO_sB, mN_sA, mK_sA, mL_sA, mF_sA, mB_sA, mA_sA, mJ_sA, mP_sA, mO_sA, mN_sJ, mK_sJ, mL_sJ, mF_sJ, mB_sJ, mA_sJ, mJ_sJ, mP_sJ, mO_sJ, mN_sP, mK_sP, mL_sP, mF_sP, mB_sP, mA_sP, mJ_sP, mP_sP, mO_sP, mN_sO, mK_sO, mL_sO, mF_sO, mB_sO, mA_sO, mJ_sO, mP_sO, mO_sO, up2, if_true, if_false, eq_self, ite_true, ite_false, reduceIte, Nat.add_left_cancel_iff, Nat.add_eq_left, Nat.left_eq_add, Nat.reduceEqDiff]; assumption) | (simp only [mN_sF, mK_sF, mL_sF, mF_sF, mB_sF, mA_sF, mJ_sF, mP_sF, mO_sF, mN_sB, mK_sB, mL_sB, mF_sB, mB_sB, mA_sB, mJ_sB, mP_sB, mO_sB, mN_sA, mK_sA, mL_sA, mF_sA, mB_sA, mA_sA, mJ_sA, mP_sA, mO_sA, mN_sJ, mK_sJ, mL_sJ, mF_sJ, mB_sJ, mA_sJ, mJ_sJ, mP_sJ, mO_sJ, mN_sP, mK_sP, mL_sP, mF_sP, mB_sP, mA_sP, mJ_sP, mP_sP, mO_sP, mN_sO, mK_sO, mL_sO, mF_sO, mB_sO, mA_sO, mJ_sO, mP_sO, mO_sO, up2, if_true, if_false, eq_self, ite_true, ite_false, reduceIte, Nat.add_left_cancel_iff, Nat.add_eq_left, Nat.left_eq_add, Nat.reduceEqDiff]; done)) ?_ | refine e_getI 125 rfl dX10_slotsRead_122 f_X10_141 (by assumption) ?_
          first | refine e_ialdv 126 rfl dX10_slotsRead_125 (by assumption) (by assumption) (by first | rfl | simp only [pk_mul, nI_add]) (by omega) (by omega) (by first | assumption | (simp only [mN_sF, mK_sF, mL_sF, mF_sF, mB_sF, mA_sF, mJ_sF, mP_sF, mO_sF, mN_sB, mK_sB, mL_sB, mF_sB, mB_sB, mA_sB, mJ_sB, mP_sB, mO_sB, mN_sA, mK_sA, mL_sA, mF_sA, mB_sA, mA_sA, mJ_sA, mP_sA, mO_sA, mN_sJ, mK_sJ, mL_sJ, mF_sJ, mB_sJ, mA_sJ, mJ_sJ, mP_sJ, mO_sJ, mN_sP, mK_sP, mL_sP, mF_sP, mB_sP, mA_sP, mJ_sP, mP_sP, mO_sP, mN_sO, mK_sO, mL_sO, mF_sO, mB_sO, mA_sO, mJ_sO, mP_sO, mO_sO, up2, if_true, if_false, eq_self, ite_true, ite_false, reduceIte, Nat.add_left_cancel_iff, Nat.add_eq_left, Nat.left_eq_add, Nat.reduceEqDiff]; assumption) | (simp only [mN_sF, mK_sF, mL_sF, mF_sF, mB_sF, mA_sF, mJ_sF, mP_sF, mO_sF, mN_sB, mK_sB, mL_sB, mF_sB, mB_sB, mA_sB, mJ_sB, mP_sB, mO_sB, mN_sA, mK_sA, mL_sA, mF_sA, mB_sA, mA_sA, mJ_sA, mP_sA, mO_sA, mN_sJ, mK_sJ, mL_sJ, mF_sJ, mB_sJ, mA_sJ, mJ_sJ, mP_sJ, mO_sJ, mN_sP, mK_sP, mL_sP, mF_sP, mB_sP, mA_sP, mJ_sP, mP_sP, mO_sP, mN_sO, mK_sO, mL_sO, mF_sO, mB_sO, mA_sO, mJ_sO, mP_sO, mO_sO, up2, if_true, if_false, eq_self, ite_true, ite_false, reduceIte, Nat.add_left_cancel_iff, Nat.add_eq_left, Nat.left_eq_add, Nat.reduceEqDiff]; done)) ?_ | refine e_iald 126 rfl dX10_slotsRead_125 (by assumption) (by assumption) (by first | rfl | simp only [pk_mul, nI_add]) (by omega) (by omega) ?_
          first | refine e_if_leN 139 129 (by decide) rfl dX10_slotsRead_126 rfl (by omega) (fun y4 => ?_) (fun y4 => ?_) | refine e_if_le 139 129 (by decide) rfl dX10_slotsRead_126 (fun y4 => ?_) (fun y4 => ?_)
          · exact tail (p + 1) μ4 (by rw [if_pos y4]) (by omega) hF24 hf4 hX4 h314 hsl4
          · have hso : o ≠ none := fun q => by rw [q] at y4; exact absurd y4 (by decide)
            have hpl3 : p + 1 < l.length := by
              rcases Nat.lt_or_ge (p + 1) l.length with q | q
              · exact q
              · exact absurd (by rw [ho]; exact List.getElem?_eq_none q) hso
            have hX5 := hX4.to (p' := p + 1 + 1) (by omega)
            refine e_al0 130 rfl dX10_slotsRead_129 ?_
            refine e_dup 131 rfl dX10_slotsRead_130 rfl ?_
            first | refine e_getIv 134 rfl dX10_slotsRead_131 f_X10_135 (by assumption) (by first | assumption | (simp only [mN_sF, mK_sF, mL_sF, mF_sF, mB_sF, mA_sF, mJ_sF, mP_sF, mO_sF, mN_sB, mK_sB, mL_sB, mF_sB, mB_sB, mA_sB, mJ_sB, mP_sB, mO_sB, mN_sA, mK_sA, mL_sA, mF_sA, mB_sA, mA_sA, mJ_sA, mP_sA, mO_sA, mN_sJ, mK_sJ, mL_sJ, mF_sJ, mB_sJ, mA_sJ, mJ_sJ, mP_sJ, mO_sJ, mN_sP, mK_sP, mL_sP, mF_sP, mB_sP, mA_sP, mJ_sP, mP_sP, mO_sP, mN_sO, mK_sO, mL_sO, mF_sO, mB_sO, mA_sO, mJ_sO, mP_sO, mO_sO, up2, if_true, if_false, eq_self, ite_true, ite_false, reduceIte, Nat.add_left_cancel_iff, Nat.add_eq_left, Nat.left_eq_add, Nat.reduceEqDiff]; assumption) | (simp only [mN_sF, mK_sF, mL_sF, mF_sF, mB_sF, mA_sF, mJ_sF, mP_sF, mO_sF, mN_sB, mK_sB, mL_sB, mF_sB, mB_sB, mA_sB, mJ_sB, mP_sB, mO_sB, mN_sA, mK_sA, mL_sA, mF_sA, mB_sA, mA_sA, mJ_sA, mP_sA, mO_sA, mN_sJ, mK_sJ, mL_sJ, mF_sJ, mB_sJ, mA_sJ, mJ_sJ, mP_sJ, mO_sJ, mN_sP, mK_sP, mL_sP, mF_sP, mB_sP, mA_sP, mJ_sP, mP_sP, mO_sP, mN_sO, mK_sO, mL_sO, mF_sO, mB_sO, mA_sO, mJ_sO, mP_sO, mO_sO, up2, if_true, if_false, eq_self, ite_true, ite_false, reduceIte, Nat.add_left_cancel_iff, Nat.add_eq_left, Nat.left_eq_add, Nat.reduceEqDiff]; done)) ?_ | refine e_getI 134 rfl dX10_slotsRead_131 f_X10_135 (by assumption) ?_
            refine e_iconst (nI 1) 135 rfl dX10_slotsRead_134 ic_1 ?_
            first | refine e_iaddN 136 rfl dX10_slotsRead_135 rfl rfl ?_ | refine e_iadd 136 rfl dX10_slotsRead_135 ?_
            refine e_putI 139 rfl dX10_slotsRead_136 f_X10_135 (by assumption) ?_
            refine tail (p + 1 + 1) _ (by rw [if_neg (by omega)]) (by omega) (hF24.sF Sm _ _) (fun f a b => ?_) hX5 (by simp only [mN_sF, mK_sF, mL_sF, mF_sF, mB_sF, mA_sF, mJ_sF, mP_sF, mO_sF, mN_sB, mK_sB, mL_sB, mF_sB, mB_sB, mA_sB, mJ_sB, mP_sB, mO_sB, mN_sA, mK_sA, mL_sA, mF_sA, mB_sA, mA_sA, mJ_sA, mP_sA, mO_sA, mN_sJ, mK_sJ, mL_sJ, mF_sJ, mB_sJ, mA_sJ, mJ_sJ, mP_sJ, mO_sJ, mN_sP, mK_sP, mL_sP, mF_sP, mB_sP, mA_sP, mJ_sP, mP_sP, mO_sP, mN_sO, mK_sO, mL_sO, mF_sO, mB_sO, mA_sO, mJ_sO, mP_sO, mO_sO, up2, if_true, if_false, eq_self, ite_true, ite_false, reduceIte, Nat.add_left_cancel_iff, Nat.add_eq_left, Nat.left_eq_add, Nat.reduceEqDiff]; exact h314) (by rw [mA_sF]; exact hsl4)
            show up2 _ m 29 _ m f = _
            rw [up2_k a]; exact hf4 f a b
        refine e_al0 78 rfl dX10_slotsRead_77 ?_
        refine e_getR 81 rfl dX10_slotsRead_78 f_X10_87 (by assumption) (by assumption) ?_
        refine e_al0 82 rfl dX10_slotsRead_81 ?_
        first | refine e_getIv 85 rfl dX10_slotsRead_82 f_X10_141 (by assumption) (by first | assumption | (simp only [mN_sF, mK_sF, mL_sF, mF_sF, mB_sF, mA_sF, mJ_sF, mP_sF, mO_sF, mN_sB, mK_sB, mL_sB, mF_sB, mB_sB, mA_sB, mJ_sB, mP_sB, mO_sB, mN_sA, mK_sA, mL_sA, mF_sA, mB_sA, mA_sA, mJ_sA, mP_sA, mO_sA, mN_sJ, mK_sJ, mL_sJ, mF_sJ, mB_sJ, mA_sJ, mJ_sJ, mP_sJ, mO_sJ, mN_sP, mK_sP, mL_sP, mF_sP, mB_sP, mA_sP, mJ_sP, mP_sP, mO_sP, mN_sO, mK_sO, mL_sO, mF_sO, mB_sO, mA_sO, mJ_sO, mP_sO, mO_sO, up2, if_true, if_false, eq_self, ite_true, ite_false, reduceIte, Nat.add_left_cancel_iff, Nat.add_eq_left, Nat.left_eq_add, Nat.reduceEqDiff]; assumption) | (simp only [mN_sF, mK_sF, mL_sF, mF_sF, mB_sF, mA_sF, mJ_sF, mP_sF, mO_sF, mN_sB, mK_sB, mL_sB, mF_sB, mB_sB, mA_sB, mJ_sB, mP_sB, mO_sB, mN_sA, mK_sA, mL_sA, mF_sA, mB_sA, mA_sA, mJ_sA, mP_sA, mO_sA, mN_sJ, mK_sJ, mL_sJ, mF_sJ, mB_sJ, mA_sJ, mJ_sJ, mP_sJ, mO_sJ, mN_sP, mK_sP, mL_sP, mF_sP, mB_sP, mA_sP, mJ_sP, mP_sP, mO_sP, mN_sO, mK_sO, mL_sO, mF_sO, mB_sO, mA_sO, mJ_sO, mP_sO, mO_sO, up2, if_true, if_false, eq_self, ite_true, ite_false, reduceIte, Nat.add_left_cancel_iff, Nat.add_eq_left, Nat.left_eq_add, Nat.reduceEqDiff]; done)) ?_ | refine e_getI 85 rfl dX10_slotsRead_82 f_X10_141 (by assumption) ?_
        refine e_il3 86 rfl dX10_slotsRead_85 ?_
        refine e_bipush (nI 63) 88 rfl dX10_slotsRead_86 bc_63 ?_
        refine e_cmp_ne 95 91 (by decide) rfl dX10_slotsRead_88 (fun z3 => ?_) (fun z3 => ?_)
        rotate_left
        · refine e_iconst (nI 1) 92 rfl dX10_slotsRead_91 ic_1 ?_
          refine e_goto 116 (by decide) dX10_slotsRead_92 ?_
          exact fin _ (by rw [e63.mp z3]; rfl)
        refine e_il3 96 rfl dX10_slotsRead_95 ?_
        refine e_bipush (nI 42) 98 rfl dX10_slotsRead_96 bc_42 ?_
        refine e_cmp_ne 105 101 (by decide) rfl dX10_slotsRead_98 (fun z4 => ?_) (fun z4 => ?_)
        rotate_left
        · refine e_iconst (nI 2) 102 rfl dX10_slotsRead_101 ic_2 ?_
          refine e_goto 116 (by decide) dX10_slotsRead_102 ?_
          exact fin _ (by rw [e42.mp z4]; rfl)
        refine e_il3 106 rfl dX10_slotsRead_105 ?_
        refine e_bipush (nI 43) 108 rfl dX10_slotsRead_106 bc_43 ?_
        refine e_cmp_ne 115 111 (by decide) rfl dX10_slotsRead_108 (fun z5 => ?_) (fun z5 => ?_)
        rotate_left
        · refine e_iconst (nI 3) 112 rfl dX10_slotsRead_111 ic_3 ?_
          refine e_goto 116 (by decide) dX10_slotsRead_112 ?_
          exact fin _ (by rw [e43.mp z5]; rfl)
        · refine e_iconst (nI 0) 116 rfl dX10_slotsRead_115 ic_0 ?_
          refine fin _ ?_
          unfold howOf
          rw [if_neg (fun q => z3 (e63.mpr q)), if_neg (fun q => z4 (e42.mpr q)), if_neg (fun q => z5 (e43.mpr q))]
  have hX1 : Mx (sF μ m 31 (nI 0)) m l p0 := hX.fr ((Fr.rf (S := fun q => q = m)).sF rfl 31 (nI 0)) (by simp only [mN_sF, mK_sF, mL_sF, mF_sF, mB_sF, mA_sF, mJ_sF, mP_sF, mO_sF, mN_sB, mK_sB, mL_sB, mF_sB, mB_sB, mA_sB, mJ_sB, mP_sB, mO_sB, mN_sA, mK_sA, mL_sA, mF_sA, mB_sA, mA_sA, mJ_sA, mP_sA, mO_sA, mN_sJ, mK_sJ, mL_sJ, mF_sJ, mB_sJ, mA_sJ, mJ_sJ, mP_sJ, mO_sJ, mN_sP, mK_sP, mL_sP, mF_sP, mB_sP, mA_sP, mJ_sP, mP_sP, mO_sP, mN_sO, mK_sO, mL_sO, mF_sO, mB_sO, mA_sO, mJ_sO, mP_sO, mO_sO, up2, if_true, if_false, eq_self, ite_true, ite_false, reduceIte, Nat.add_left_cancel_iff, Nat.add_eq_left, Nat.left_eq_add, Nat.reduceEqDiff]) (by simp only [mN_sF, mK_sF, mL_sF, mF_sF, mB_sF, mA_sF, mJ_sF, mP_sF, mO_sF, mN_sB, mK_sB, mL_sB, mF_sB, mB_sB, mA_sB, mJ_sB, mP_sB, mO_sB, mN_sA, mK_sA, mL_sA, mF_sA, mB_sA, mA_sA, mJ_sA, mP_sA, mO_sA, mN_sJ, mK_sJ, mL_sJ, mF_sJ, mB_sJ, mA_sJ, mJ_sJ, mP_sJ, mO_sJ, mN_sP, mK_sP, mL_sP, mF_sP, mB_sP, mA_sP, mJ_sP, mP_sP, mO_sP, mN_sO, mK_sO, mL_sO, mF_sO, mB_sO, mA_sO, mJ_sO, mP_sO, mO_sO, up2, if_true, if_false, eq_self, ite_true, ite_false, reduceIte, Nat.add_left_cancel_iff, Nat.add_eq_left, Nat.left_eq_add, Nat.reduceEqDiff]) (by omega)
  refine Cl.of0 3 pn_X10 (Nat.le_of_ble_eq_true rfl) ⟨rfl, rfl⟩ rfl ?_
  refine e_al0 1 rfl dX10_slotsRead_0 ?_
  refine e_iconst (nI 0) 2 rfl dX10_slotsRead_1 ic_0 ?_
  refine e_putI 5 rfl dX10_slotsRead_2 f_X10_141 (by assumption) ?_
  refine e_iconst (nI 1) 6 rfl dX10_slotsRead_5 ic_1 ?_
  refine e_is1 7 rfl dX10_slotsRead_6 (by decide) rfl ?_
  refine e_il1 8 rfl dX10_slotsRead_7 ?_
  first | refine e_if_eqB 167 11 (by decide) rfl dX10_slotsRead_8 rfl (fun y1 => ?_) (fun y1 => ?_) | refine e_if_eqN 167 11 (by decide) rfl dX10_slotsRead_8 rfl (by omega) (fun y1 => ?_) (fun y1 => ?_) | refine e_if_eq 167 11 (by decide) rfl dX10_slotsRead_8 (fun y1 => ?_) (fun y1 => ?_)
  · exact absurd y1 (by decide)
  exact loop 8 [] p0 rfl _ _ _ hRe (Or.inl rfl) ((Fr.rf (S := trS m)).sF Sm 31 (nI 0)) (fun f a b => by show up2 _ m 31 _ m f = _; rw [up2_k b]) hX1 ⟨by simp only [mN_sF, mK_sF, mL_sF, mF_sF, mB_sF, mA_sF, mJ_sF, mP_sF, mO_sF, mN_sB, mK_sB, mL_sB, mF_sB, mB_sB, mA_sB, mJ_sB, mP_sB, mO_sB, mN_sA, mK_sA, mL_sA, mF_sA, mB_sA, mA_sA, mJ_sA, mP_sA, mO_sA, mN_sJ, mK_sJ, mL_sJ, mF_sJ, mB_sJ, mA_sJ, mJ_sJ, mP_sJ, mO_sJ, mN_sP, mK_sP, mL_sP, mF_sP, mB_sP, mA_sP, mJ_sP, mP_sP, mO_sP, mN_sO, mK_sO, mL_sO, mF_sO, mB_sO, mA_sO, mJ_sO, mP_sO, mO_sO, up2, if_true, if_false, eq_self, ite_true, ite_false, reduceIte, Nat.add_left_cancel_iff, Nat.add_eq_left, Nat.left_eq_add, Nat.reduceEqDiff]; rfl, fun i s hi => by simp at hi⟩ (by omega)
end MSHAPE
