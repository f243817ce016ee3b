/-! NameDeskModel: agree, father, fallen -/
section MAGREE
variable {E : En} {μ : Mm} {K : Option Value → Mm → Prop}
theorem c_wordOf {m i k0 one other bits : Nat} {S : Ast} {nm : Nm} (hW : WF S) (hM : MI m S μ) (hi : (aN S)[i]? = some nm) (hs : mFs μ m i S nm) (hr : rB S nm = true) (hk : k0 < 2 ^ 31) (h1 : one < 7) (h2 : other < 7) (hb : ∀ c, c < 7 → (bits.testBit c = true ↔ c = one ∨ c = other))
    (kn : (pls true bits (rK S nm) 0)[k0]? = none → K (some (.int (-1))) μ) (ks : ∀ p, (pls true bits (rK S nm) 0)[k0]? = some p → p < nm.2.length → K (some (.int (nI (8 * i + p)))) μ) : Cl E M_X10_wordOf [.ref m, .int (nI i), .int (nI one), .int (nI other), .int (nI k0)] μ K := by
  have n30 := hW.2.2.2.1.1
  have mk := hM.1.1
  have hil := (List.getElem?_eq_some_iff.mp hi).1
  have hwf := hW.2.2.2.1.2 nm (List.mem_of_getElem? hi)
  have hn8 := hwf.2.2.1
  have hH := hs.2 hr
  have hk7 := rK_lt hW hn8 hr
  have hkl : (rK S nm).length = nm.2.length := by unfold rK; rw [rdK_len]
  have v2 := (hM.2.2.2.2.2.1.2 i nm hi).2.1
  obtain ⟨pw, kw, lw⟩ := hM.1.nWords
  obtain ⟨pk, kk, lk⟩ := hM.1.kinds
  obtain ⟨ks0, hks0⟩ : ∃ ks0, ks0 = rK S nm := ⟨_, rfl⟩
  rw [← hks0] at hH hk7 hkl kn ks
  obtain ⟨R, hR⟩ : ∃ R, R = (pls true bits ks0 0)[k0]? := ⟨_, rfl⟩
  rw [← hR] at kn ks
  have hR0 : R = (plB bits (ks0.drop 0) 0)[k0]? := by rw [hR]; rfl
  clear hR
  have loop : ∀ (fu w : Nat), w + fu = ks0.length → ∀ lf, lf < 2 ^ 31 → R = (plB bits (ks0.drop w) w)[lf]? → ∀ q7, nl q7 = true → Ev E M_X10_wordOf 0 0 7 [some (.ref m), some (.int (nI i)), some (.int (nI one)), some (.int (nI other)), some (.int (nI k0)), some (.int (nI lf)), some (.int (nI w)), q7] [] μ K := by
    intro fu
    induction fu with
    | zero =>
      intro w hw lf hlf he q7 hq7
      refine e_il6 9 rfl dX10_wordOf_7 ?_
      refine e_al0 10 rfl dX10_wordOf_9 ?_
      refine e_getR 13 rfl dX10_wordOf_10 f_X10_63 (by assumption) (by assumption) ?_
      refine e_il1 14 rfl dX10_wordOf_13 ?_
      first | refine e_ialdv 15 rfl dX10_wordOf_14 (by assumption) (by assumption) (by first | rfl | simp only [pk_mul, nI_add]) (by omega) (by omega) (by first | assumption | (simp only [mN_sF, mK_sF, mL_sF, mF_sF, mB_sF, mA_sF, mJ_sF, mP_sF, mO_sF, mN_sB, mK_sB, mL_sB, mF_sB, mB_sB, mA_sB, mJ_sB, mP_sB, mO_sB, mN_sA, mK_sA, mL_sA, mF_sA, mB_sA, mA_sA, mJ_sA, mP_sA, mO_sA, mN_sJ, mK_sJ, mL_sJ, mF_sJ, mB_sJ, mA_sJ, mJ_sJ, mP_sJ, mO_sJ, mN_sP, mK_sP, mL_sP, mF_sP, mB_sP, mA_sP, mJ_sP, mP_sP, mO_sP, mN_sO, mK_sO, mL_sO, mF_sO, mB_sO, mA_sO, mJ_sO, mP_sO, mO_sO, up2, if_true, if_false, eq_self, ite_true, ite_false, reduceIte, Nat.add_left_cancel_iff, Nat.add_eq_left, Nat.left_eq_add, Nat.reduceEqDiff]; assumption) | (simp only [mN_sF, mK_sF, mL_sF, mF_sF, mB_sF, mA_sF, mJ_sF, mP_sF, mO_sF, mN_sB, mK_sB, mL_sB, mF_sB, mB_sB, mA_sB, mJ_sB, mP_sB, mO_sB, mN_sA, mK_sA, mL_sA, mF_sA, mB_sA, mA_sA, mJ_sA, mP_sA, mO_sA, mN_sJ, mK_sJ, mL_sJ, mF_sJ, mB_sJ, mA_sJ, mJ_sJ, mP_sJ, mO_sJ, mN_sP, mK_sP, mL_sP, mF_sP, mB_sP, mA_sP, mJ_sP, mP_sP, mO_sP, mN_sO, mK_sO, mL_sO, mF_sO, mB_sO, mA_sO, mJ_sO, mP_sO, mO_sO, up2, if_true, if_false, eq_self, ite_true, ite_false, reduceIte, Nat.add_left_cancel_iff, Nat.add_eq_left, Nat.left_eq_add, Nat.reduceEqDiff]; done)) ?_ | refine e_iald 15 rfl dX10_wordOf_14 (by assumption) (by assumption) (by first | rfl | simp only [pk_mul, nI_add]) (by omega) (by omega) ?_
      first | refine e_cmp_geN 69 18 (by decide) rfl dX10_wordOf_15 rfl rfl (by omega) (by omega) (fun y1 => ?_) (fun y1 => ?_) | refine e_cmp_ge 69 18 (by decide) rfl dX10_wordOf_15 (fun y1 => ?_) (fun y1 => ?_)
      rotate_left
      · omega
      refine e_iconst (-1) 70 rfl dX10_wordOf_69 ic_m1 ?_
      refine e_iret dX10_wordOf_70 rfl ?_
      exact kn (by rw [he, plB_end (by omega)]; rfl)
    | succ fu ih =>
      intro w hw lf hlf he q7 hq7
      have hwl : w < ks0.length := by omega
      have v : mA μ (m + 34) (8 * i + w) = nI ks0[w] := hH.at hwl
      have c7 := hk7 _ (List.getElem_mem hwl)
      have hbw := hb _ c7
      rw [plB_drop hwl] at he
      have hit : bits.testBit ks0[w] = true → Ev E M_X10_wordOf 0 0 47 [some (.ref m), some (.int (nI i)), some (.int (nI one)), some (.int (nI other)), some (.int (nI k0)), some (.int (nI lf)), some (.int (nI w)), some (.int (nI ks0[w]))] [] μ K := by
        intro hbt
        rw [if_pos hbt] at he
        cases lf with
        | zero =>
          refine e_il5 49 rfl dX10_wordOf_47 ?_
          first | refine e_if_neB 60 52 (by decide) rfl dX10_wordOf_49 rfl (fun y4 => ?_) (fun y4 => ?_) | refine e_if_neN 60 52 (by decide) rfl dX10_wordOf_49 rfl (by omega) (fun y4 => ?_) (fun y4 => ?_) | refine e_if_ne 60 52 (by decide) rfl dX10_wordOf_49 (fun y4 => ?_) (fun y4 => ?_)
          · exact absurd rfl y4
          refine e_bipush (nI 8) 54 rfl dX10_wordOf_52 bc_8 ?_
          refine e_il1 55 rfl dX10_wordOf_54 ?_
          first | refine e_imulN 56 rfl dX10_wordOf_55 rfl rfl ?_ | refine e_imul 56 rfl dX10_wordOf_55 ?_
          refine e_il6 58 rfl dX10_wordOf_56 ?_
          first | refine e_iaddN 59 rfl dX10_wordOf_58 rfl rfl ?_ | refine e_iadd 59 rfl dX10_wordOf_58 ?_
          refine e_iret dX10_wordOf_59 rfl ?_
          exact ks w (by rw [he]; rfl) (by omega)
        | succ lf =>
          refine e_il5 49 rfl dX10_wordOf_47 ?_
          first | refine e_if_neB 60 52 (by decide) rfl dX10_wordOf_49 rfl (fun y4 => ?_) (fun y4 => ?_) | refine e_if_neN 60 52 (by decide) rfl dX10_wordOf_49 rfl (by omega) (fun y4 => ?_) (fun y4 => ?_) | refine e_if_ne 60 52 (by decide) rfl dX10_wordOf_49 (fun y4 => ?_) (fun y4 => ?_)
          rotate_left
          · omega
          refine e_ii5 (nI _) 63 rfl dX10_wordOf_60 (iim1 _) rfl ?_
          refine e_ii6 (nI (_ + 1)) 66 rfl dX10_wordOf_63 (ii1 _) rfl ?_
          refine e_goto 7 (by decide) dX10_wordOf_66 ?_
          exact ih (w + 1) (by omega) lf (by omega) (by rw [he]; rfl) _ rfl
      refine e_il6 9 rfl dX10_wordOf_7 ?_
      refine e_al0 10 rfl dX10_wordOf_9 ?_
      refine e_getR 13 rfl dX10_wordOf_10 f_X10_63 (by assumption) (by assumption) ?_
      refine e_il1 14 rfl dX10_wordOf_13 ?_
      first | refine e_ialdv 15 rfl dX10_wordOf_14 (by assumption) (by assumption) (by first | rfl | simp only [pk_mul, nI_add]) (by omega) (by omega) (by first | assumption | (simp only [mN_sF, mK_sF, mL_sF, mF_sF, mB_sF, mA_sF, mJ_sF, mP_sF, mO_sF, mN_sB, mK_sB, mL_sB, mF_sB, mB_sB, mA_sB, mJ_sB, mP_sB, mO_sB, mN_sA, mK_sA, mL_sA, mF_sA, mB_sA, mA_sA, mJ_sA, mP_sA, mO_sA, mN_sJ, mK_sJ, mL_sJ, mF_sJ, mB_sJ, mA_sJ, mJ_sJ, mP_sJ, mO_sJ, mN_sP, mK_sP, mL_sP, mF_sP, mB_sP, mA_sP, mJ_sP, mP_sP, mO_sP, mN_sO, mK_sO, mL_sO, mF_sO, mB_sO, mA_sO, mJ_sO, mP_sO, mO_sO, up2, if_true, if_false, eq_self, ite_true, ite_false, reduceIte, Nat.add_left_cancel_iff, Nat.add_eq_left, Nat.left_eq_add, Nat.reduceEqDiff]; assumption) | (simp only [mN_sF, mK_sF, mL_sF, mF_sF, mB_sF, mA_sF, mJ_sF, mP_sF, mO_sF, mN_sB, mK_sB, mL_sB, mF_sB, mB_sB, mA_sB, mJ_sB, mP_sB, mO_sB, mN_sA, mK_sA, mL_sA, mF_sA, mB_sA, mA_sA, mJ_sA, mP_sA, mO_sA, mN_sJ, mK_sJ, mL_sJ, mF_sJ, mB_sJ, mA_sJ, mJ_sJ, mP_sJ, mO_sJ, mN_sP, mK_sP, mL_sP, mF_sP, mB_sP, mA_sP, mJ_sP, mP_sP, mO_sP, mN_sO, mK_sO, mL_sO, mF_sO, mB_sO, mA_sO, mJ_sO, mP_sO, mO_sO, up2, if_true, if_false, eq_self, ite_true, ite_false, reduceIte, Nat.add_left_cancel_iff, Nat.add_eq_left, Nat.left_eq_add, Nat.reduceEqDiff]; done)) ?_ | refine e_iald 15 rfl dX10_wordOf_14 (by assumption) (by assumption) (by first | rfl | simp only [pk_mul, nI_add]) (by omega) (by omega) ?_
      first | refine e_cmp_geN 69 18 (by decide) rfl dX10_wordOf_15 rfl rfl (by omega) (by omega) (fun y1 => ?_) (fun y1 => ?_) | refine e_cmp_ge 69 18 (by decide) rfl dX10_wordOf_15 (fun y1 => ?_) (fun y1 => ?_)
      · omega
      refine e_al0 19 rfl dX10_wordOf_18 ?_
      refine e_getR 22 rfl dX10_wordOf_19 f_X10_114 (by assumption) (by assumption) ?_
      refine e_bipush (nI 8) 24 rfl dX10_wordOf_22 bc_8 ?_
      refine e_il1 25 rfl dX10_wordOf_24 ?_
      first | refine e_imulN 26 rfl dX10_wordOf_25 rfl rfl ?_ | refine e_imul 26 rfl dX10_wordOf_25 ?_
      refine e_il6 28 rfl dX10_wordOf_26 ?_
      first | refine e_iaddN 29 rfl dX10_wordOf_28 rfl rfl ?_ | refine e_iadd 29 rfl dX10_wordOf_28 ?_
      first | refine e_ialdv 30 rfl dX10_wordOf_29 (by assumption) (by assumption) (by first | rfl | simp only [pk_mul, nI_add]) (by omega) (by omega) (by first | assumption | (simp only [mN_sF, mK_sF, mL_sF, mF_sF, mB_sF, mA_sF, mJ_sF, mP_sF, mO_sF, mN_sB, mK_sB, mL_sB, mF_sB, mB_sB, mA_sB, mJ_sB, mP_sB, mO_sB, mN_sA, mK_sA, mL_sA, mF_sA, mB_sA, mA_sA, mJ_sA, mP_sA, mO_sA, mN_sJ, mK_sJ, mL_sJ, mF_sJ, mB_sJ, mA_sJ, mJ_sJ, mP_sJ, mO_sJ, mN_sP, mK_sP, mL_sP, mF_sP, mB_sP, mA_sP, mJ_sP, mP_sP, mO_sP, mN_sO, mK_sO, mL_sO, mF_sO, mB_sO, mA_sO, mJ_sO, mP_sO, mO_sO, up2, if_true, if_false, eq_self, ite_true, ite_false, reduceIte, Nat.add_left_cancel_iff, Nat.add_eq_left, Nat.left_eq_add, Nat.reduceEqDiff]; assumption) | (simp only [mN_sF, mK_sF, mL_sF, mF_sF, mB_sF, mA_sF, mJ_sF, mP_sF, mO_sF, mN_sB, mK_sB, mL_sB, mF_sB, mB_sB, mA_sB, mJ_sB, mP_sB, mO_sB, mN_sA, mK_sA, mL_sA, mF_sA, mB_sA, mA_sA, mJ_sA, mP_sA, mO_sA, mN_sJ, mK_sJ, mL_sJ, mF_sJ, mB_sJ, mA_sJ, mJ_sJ, mP_sJ, mO_sJ, mN_sP, mK_sP, mL_sP, mF_sP, mB_sP, mA_sP, mJ_sP, mP_sP, mO_sP, mN_sO, mK_sO, mL_sO, mF_sO, mB_sO, mA_sO, mJ_sO, mP_sO, mO_sO, up2, if_true, if_false, eq_self, ite_true, ite_false, reduceIte, Nat.add_left_cancel_iff, Nat.add_eq_left, Nat.left_eq_add, Nat.reduceEqDiff]; done)) ?_ | refine e_iald 30 rfl dX10_wordOf_29 (by assumption) (by assumption) (by first | rfl | simp only [pk_mul, nI_add]) (by omega) (by omega) ?_
      refine e_is7 32 rfl dX10_wordOf_30 (by decide) rfl ?_
      refine e_il7 34 rfl dX10_wordOf_32 ?_
      refine e_il2 35 rfl dX10_wordOf_34 ?_
      first | refine e_cmp_eqN 47 38 (by decide) rfl dX10_wordOf_35 rfl rfl (by omega) (by omega) (fun y2 => ?_) (fun y2 => ?_) | refine e_cmp_eq 47 38 (by decide) rfl dX10_wordOf_35 (fun y2 => ?_) (fun y2 => ?_)
      · exact hit (hbw.mpr (Or.inl y2))
      refine e_il7 40 rfl dX10_wordOf_38 ?_
      refine e_il3 41 rfl dX10_wordOf_40 ?_
      first | refine e_cmp_eqN 47 44 (by decide) rfl dX10_wordOf_41 rfl rfl (by omega) (by omega) (fun y3 => ?_) (fun y3 => ?_) | refine e_cmp_eq 47 44 (by decide) rfl dX10_wordOf_41 (fun y3 => ?_) (fun y3 => ?_)
      · exact hit (hbw.mpr (Or.inr y3))
      rw [if_neg (fun q => by rcases hbw.mp q with z | z; exact y2 z; exact y3 z)] at he
      refine e_goto 63 (by decide) dX10_wordOf_44 ?_
      refine e_ii6 (nI (_ + 1)) 66 rfl dX10_wordOf_63 (ii1 _) rfl ?_
      refine e_goto 7 (by decide) dX10_wordOf_66 ?_
      exact ih (w + 1) (by omega) lf hlf he _ rfl
  refine Cl.of0 3 pn_X10 (Nat.le_of_ble_eq_true rfl) ⟨rfl, rfl⟩ rfl ?_
  refine e_il4 2 rfl dX10_wordOf_0 ?_
  refine e_is5 4 rfl dX10_wordOf_2 (by decide) rfl ?_
  refine e_iconst (nI 0) 5 rfl dX10_wordOf_4 ic_0 ?_
  refine e_is6 7 rfl dX10_wordOf_5 (by decide) rfl ?_
  exact loop ks0.length 0 (by omega) k0 hk hR0 _ rfl
theorem fitL_iff {x y : List Nat} (hx : 1 ≤ x.length) (hy : 1 ≤ y.length) (hne : x ≠ y) : fitL x y = true ↔ (x.length = 1 ∨ y.length = 1) ∧ x[0]? = y[0]? := by
  unfold fitL
  cases x with
  | nil => simp at hx
  | cons a r =>
    cases y with
    | nil => simp at hy
    | cons b t =>
      simp only [List.length_cons, List.take_succ_cons, List.take_zero, List.getElem?_cons_zero, Option.some.injEq, Bool.or_eq_true, Bool.and_eq_true, decide_eq_true_eq]
      constructor
      · rintro ((h | ⟨h1, h2⟩) | ⟨h1, h2⟩)
        · exact absurd h hne
        · exact ⟨Or.inl h1, (List.cons.inj (of_decide_eq_true h2)).1⟩
        · exact ⟨Or.inr h1, (List.cons.inj (of_decide_eq_true h2)).1.symm⟩
      · rintro ⟨h1 | h1, h2⟩
        · have : r = [] := List.eq_nil_of_length_eq_zero (by omega)
          exact Or.inl (Or.inr ⟨h1, decide_eq_true (by rw [this, h2])⟩)
        · have : t = [] := List.eq_nil_of_length_eq_zero (by omega)
          exact Or.inr ⟨h1, decide_eq_true (by rw [this, h2])⟩
theorem fitA_nil {l : List (List Nat)} : fitA l [] = true ∧ fitA [] l = true := ⟨by cases l <;> rfl, rfl⟩
theorem m_agree {m : Nat} {S : Ast} {x y : Int32} (hW : WF S) (hM : MI m S μ) (k : ∀ μ', MF m μ μ' → MI m S μ' → K (some (.int (q_agree S x y))) μ') : Cl E M_X10_agree [.ref m, .int x, .int y] μ K := by
  have n30 := hW.2.2.2.1.1
  have mk0 := hM.1.1
  have hM1 := hM.thr (nI 0)
  have f1 : MF m μ (sF μ m 2 (nI 0)) := MF.thr _
  refine Cl.of0 4 pn_X10 (Nat.le_of_ble_eq_true rfl) ⟨rfl, rfl⟩ rfl ?_
  refine e_al0 1 rfl dX10_agree_0 ?_
  refine e_iconst (nI 0) 2 rfl dX10_agree_1 ic_0 ?_
  refine e_putI 5 rfl dX10_agree_2 f_X10_126 (by assumption) ?_
  generalize sF μ m 2 (nI 0) = μ1 at hM1 f1 ⊢
  have mk := hM1.1.1
  unfold q_agree at k
  refine e_al0 6 rfl dX10_agree_5 ?_
  refine e_il1 7 rfl dX10_agree_6 ?_
  refine e_invV0 [_] 10 rfl dX10_agree_7 k_X10_210 mo_X10_isName rm_X10_agree_X10_isName ⟨rfl, rfl⟩ rfl rfl (by assumption) (Nat.le_of_ble_eq_true rfl) ?_
  refine c_mIsName mk hM1.2.2.2.2.2.1.1 n30 ?_
  cases eN : nmx (aN S) x with
  | none =>
    rw [eN] at k
    first | refine e_if_eqB 21 13 (by decide) rfl dX10_agree_10 rfl (fun y1 => ?_) (fun y1 => ?_) | refine e_if_eqN 21 13 (by decide) rfl dX10_agree_10 rfl (by omega) (fun y1 => ?_) (fun y1 => ?_) | refine e_if_eq 21 13 (by decide) rfl dX10_agree_10 (fun y1 => ?_) (fun y1 => ?_)
    · refine e_iconst (-1) 22 rfl dX10_agree_21 ic_m1 ?_
      refine e_iret dX10_agree_22 rfl ?_
      exact k μ1 f1 hM1
    · cases y1
  | some a =>
  rw [eN] at k
  first | refine e_if_eqB 21 13 (by decide) rfl dX10_agree_10 rfl (fun y1 => ?_) (fun y1 => ?_) | refine e_if_eqN 21 13 (by decide) rfl dX10_agree_10 rfl (by omega) (fun y1 => ?_) (fun y1 => ?_) | refine e_if_eq 21 13 (by decide) rfl dX10_agree_10 (fun y1 => ?_) (fun y1 => ?_)
  · cases y1
  refine e_al0 14 rfl dX10_agree_13 ?_
  refine e_il2 15 rfl dX10_agree_14 ?_
  refine e_invV0 [_] 18 rfl dX10_agree_15 k_X10_210 mo_X10_isName rm_X10_agree_X10_isName ⟨rfl, rfl⟩ rfl rfl (by assumption) (Nat.le_of_ble_eq_true rfl) ?_
  refine c_mIsName mk hM1.2.2.2.2.2.1.1 n30 ?_
  cases eM : nmx (aN S) y with
  | none =>
    rw [eM] at k
    first | refine e_if_neB 23 21 (by decide) rfl dX10_agree_18 rfl (fun y2 => ?_) (fun y2 => ?_) | refine e_if_neN 23 21 (by decide) rfl dX10_agree_18 rfl (by omega) (fun y2 => ?_) (fun y2 => ?_) | refine e_if_ne 23 21 (by decide) rfl dX10_agree_18 (fun y2 => ?_) (fun y2 => ?_)
    · cases y2
    · refine e_iconst (-1) 22 rfl dX10_agree_21 ic_m1 ?_
      refine e_iret dX10_agree_22 rfl ?_
      exact k μ1 f1 hM1
  | some b =>
  rw [eM] at k
  simp only [] at k
  obtain ⟨i, hx, hi⟩ := nmx_some eN
  obtain ⟨j, hy, hj⟩ := nmx_some eM
  have hil := (List.getElem?_eq_some_iff.mp hi).1
  have hjl := (List.getElem?_eq_some_iff.mp hj).1
  have hwa := hW.2.2.2.1.2 a (List.mem_of_getElem? hi)
  have hwb := hW.2.2.2.1.2 b (List.mem_of_getElem? hj)
  subst hx
  subst hy
  first | refine e_if_neB 23 21 (by decide) rfl dX10_agree_18 rfl (fun y2 => ?_) (fun y2 => ?_) | refine e_if_neN 23 21 (by decide) rfl dX10_agree_18 rfl (by omega) (fun y2 => ?_) (fun y2 => ?_) | refine e_if_ne 23 21 (by decide) rfl dX10_agree_18 (fun y2 => ?_) (fun y2 => ?_)
  rotate_left
  · cases y2
  refine e_al0 24 rfl dX10_agree_23 ?_
  refine e_il1 25 rfl dX10_agree_24 ?_
  refine e_invV0 [_] 28 rfl dX10_agree_25 k_X10_219 mo_X10_first rm_X10_agree_X10_first ⟨rfl, rfl⟩ rfl rfl (by assumption) (Nat.le_of_ble_eq_true rfl) ?_
  refine c_first hW hM1 hi (fun μ2 hF2 hf2 hs2 _ _ => ?_)
  have hM2 : MI m S μ2 := hM1.scr (fsS_mQ hF2) (fun f hf => hf2 f (by omega))
  have mk2 := hM2.1.1
  refine e_al0 29 rfl dX10_agree_28 ?_
  refine e_il2 30 rfl dX10_agree_29 ?_
  refine e_invV0 [_] 33 rfl dX10_agree_30 k_X10_219 mo_X10_first rm_X10_agree_X10_first ⟨rfl, rfl⟩ rfl rfl (by assumption) (Nat.le_of_ble_eq_true rfl) ?_
  refine c_first hW hM2 hj (fun μ3 hF3 hf3 hs3 hu3 hv3 => ?_)
  have hM3 : MI m S μ3 := hM2.scr (fsS_mQ hF3) (fun f hf => hf3 f (by omega))
  have mk3 := hM3.1.1
  have kf := k μ3 ((f1.trans (mQ_MF (fsS_mQ hF2))).trans (mQ_MF (fsS_mQ hF3))) hM3
  have hsa : mFs μ3 m i S a := by
    by_cases c : i = j
    · subst c; rw [hi] at hj; cases hj; exact hs3
    · refine ⟨by rw [hu3 i c]; exact hs2.1, fun h => (hs2.2 h).of (fun w hw => hv3 _ ?_)⟩
      have hw' : w < a.2.length := by unfold rK at hw; rw [rdK_len] at hw; exact hw
      have := hwa.2.2.1
      omega
  have ra := hsa.1
  have rb := hs3.1
  obtain ⟨pr, kr, lr⟩ := hM3.1.isRead
  obtain ⟨pl, kl, ll⟩ := hM3.1.nLand
  obtain ⟨pfz, kfz, lfz⟩ := hM3.1.foldSize
  obtain ⟨pfo, kfo, lfo⟩ := hM3.1.fold
  obtain ⟨na1, na2, na3⟩ := hM3.2.2.2.2.2.1.2 i a hi
  obtain ⟨nb1, nb2, nb3⟩ := hM3.2.2.2.2.2.1.2 j b hj
  have la := hwa.1
  have lb := hwb.1
  have a8 := hwa.2.2.1
  have b8 := hwb.2.2.1
  unfold agV at kf
  refine e_al0 34 rfl dX10_agree_33 ?_
  refine e_getR 37 rfl dX10_agree_34 f_X10_117 (by assumption) (by assumption) ?_
  refine e_il1 38 rfl dX10_agree_37 ?_
  first | refine e_baldv 39 rfl dX10_agree_38 (by assumption) (by assumption) (by first | rfl | simp only [pk_mul, nI_add]) (by omega) (by omega) (by first | assumption | (simp only [mN_sF, mK_sF, mL_sF, mF_sF, mB_sF, mA_sF, mJ_sF, mP_sF, mO_sF, mN_sB, mK_sB, mL_sB, mF_sB, mB_sB, mA_sB, mJ_sB, mP_sB, mO_sB, mN_sA, mK_sA, mL_sA, mF_sA, mB_sA, mA_sA, mJ_sA, mP_sA, mO_sA, mN_sJ, mK_sJ, mL_sJ, mF_sJ, mB_sJ, mA_sJ, mJ_sJ, mP_sJ, mO_sJ, mN_sP, mK_sP, mL_sP, mF_sP, mB_sP, mA_sP, mJ_sP, mP_sP, mO_sP, mN_sO, mK_sO, mL_sO, mF_sO, mB_sO, mA_sO, mJ_sO, mP_sO, mO_sO, up2, if_true, if_false, eq_self, ite_true, ite_false, reduceIte, Nat.add_left_cancel_iff, Nat.add_eq_left, Nat.left_eq_add, Nat.reduceEqDiff]; assumption) | (simp only [mN_sF, mK_sF, mL_sF, mF_sF, mB_sF, mA_sF, mJ_sF, mP_sF, mO_sF, mN_sB, mK_sB, mL_sB, mF_sB, mB_sB, mA_sB, mJ_sB, mP_sB, mO_sB, mN_sA, mK_sA, mL_sA, mF_sA, mB_sA, mA_sA, mJ_sA, mP_sA, mO_sA, mN_sJ, mK_sJ, mL_sJ, mF_sJ, mB_sJ, mA_sJ, mJ_sJ, mP_sJ, mO_sJ, mN_sP, mK_sP, mL_sP, mF_sP, mB_sP, mA_sP, mJ_sP, mP_sP, mO_sP, mN_sO, mK_sO, mL_sO, mF_sO, mB_sO, mA_sO, mJ_sO, mP_sO, mO_sO, up2, if_true, if_false, eq_self, ite_true, ite_false, reduceIte, Nat.add_left_cancel_iff, Nat.add_eq_left, Nat.left_eq_add, Nat.reduceEqDiff]; done)) ?_ | refine e_zaldv 39 rfl dX10_agree_38 (by assumption) (by assumption) (by first | rfl | simp only [pk_mul, nI_add]) (by omega) (by omega) (by first | assumption | (simp only [mN_sF, mK_sF, mL_sF, mF_sF, mB_sF, mA_sF, mJ_sF, mP_sF, mO_sF, mN_sB, mK_sB, mL_sB, mF_sB, mB_sB, mA_sB, mJ_sB, mP_sB, mO_sB, mN_sA, mK_sA, mL_sA, mF_sA, mB_sA, mA_sA, mJ_sA, mP_sA, mO_sA, mN_sJ, mK_sJ, mL_sJ, mF_sJ, mB_sJ, mA_sJ, mJ_sJ, mP_sJ, mO_sJ, mN_sP, mK_sP, mL_sP, mF_sP, mB_sP, mA_sP, mJ_sP, mP_sP, mO_sP, mN_sO, mK_sO, mL_sO, mF_sO, mB_sO, mA_sO, mJ_sO, mP_sO, mO_sO, up2, if_true, if_false, eq_self, ite_true, ite_false, reduceIte, Nat.add_left_cancel_iff, Nat.add_eq_left, Nat.left_eq_add, Nat.reduceEqDiff]; assumption) | (simp only [mN_sF, mK_sF, mL_sF, mF_sF, mB_sF, mA_sF, mJ_sF, mP_sF, mO_sF, mN_sB, mK_sB, mL_sB, mF_sB, mB_sB, mA_sB, mJ_sB, mP_sB, mO_sB, mN_sA, mK_sA, mL_sA, mF_sA, mB_sA, mA_sA, mJ_sA, mP_sA, mO_sA, mN_sJ, mK_sJ, mL_sJ, mF_sJ, mB_sJ, mA_sJ, mJ_sJ, mP_sJ, mO_sJ, mN_sP, mK_sP, mL_sP, mF_sP, mB_sP, mA_sP, mJ_sP, mP_sP, mO_sP, mN_sO, mK_sO, mL_sO, mF_sO, mB_sO, mA_sO, mJ_sO, mP_sO, mO_sO, up2, if_true, if_false, eq_self, ite_true, ite_false, reduceIte, Nat.add_left_cancel_iff, Nat.add_eq_left, Nat.left_eq_add, Nat.reduceEqDiff]; done)) ?_ | refine e_bald 39 rfl dX10_agree_38 (by assumption) (by assumption) (by first | rfl | simp only [pk_mul, nI_add]) (by omega) (by omega) ?_ | refine e_zald 39 rfl dX10_agree_38 (by assumption) (by assumption) (by first | rfl | simp only [pk_mul, nI_add]) (by omega) (by omega) ?_
  first | refine e_if_eqB 51 42 (by decide) rfl dX10_agree_39 rfl (fun y3 => ?_) (fun y3 => ?_) | refine e_if_eqN 51 42 (by decide) rfl dX10_agree_39 rfl (by omega) (fun y3 => ?_) (fun y3 => ?_) | refine e_if_eq 51 42 (by decide) rfl dX10_agree_39 (fun y3 => ?_) (fun y3 => ?_)
  · rw [if_neg (by rw [y3]; simp)] at kf
    refine e_iconst (-1) 52 rfl dX10_agree_51 ic_m1 ?_
    refine e_iret dX10_agree_52 rfl ?_
    exact kf
  refine e_al0 43 rfl dX10_agree_42 ?_
  refine e_getR 46 rfl dX10_agree_43 f_X10_117 (by assumption) (by assumption) ?_
  refine e_il2 47 rfl dX10_agree_46 ?_
  first | refine e_baldv 48 rfl dX10_agree_47 (by assumption) (by assumption) (by first | rfl | simp only [pk_mul, nI_add]) (by omega) (by omega) (by first | assumption | (simp only [mN_sF, mK_sF, mL_sF, mF_sF, mB_sF, mA_sF, mJ_sF, mP_sF, mO_sF, mN_sB, mK_sB, mL_sB, mF_sB, mB_sB, mA_sB, mJ_sB, mP_sB, mO_sB, mN_sA, mK_sA, mL_sA, mF_sA, mB_sA, mA_sA, mJ_sA, mP_sA, mO_sA, mN_sJ, mK_sJ, mL_sJ, mF_sJ, mB_sJ, mA_sJ, mJ_sJ, mP_sJ, mO_sJ, mN_sP, mK_sP, mL_sP, mF_sP, mB_sP, mA_sP, mJ_sP, mP_sP, mO_sP, mN_sO, mK_sO, mL_sO, mF_sO, mB_sO, mA_sO, mJ_sO, mP_sO, mO_sO, up2, if_true, if_false, eq_self, ite_true, ite_false, reduceIte, Nat.add_left_cancel_iff, Nat.add_eq_left, Nat.left_eq_add, Nat.reduceEqDiff]; assumption) | (simp only [mN_sF, mK_sF, mL_sF, mF_sF, mB_sF, mA_sF, mJ_sF, mP_sF, mO_sF, mN_sB, mK_sB, mL_sB, mF_sB, mB_sB, mA_sB, mJ_sB, mP_sB, mO_sB, mN_sA, mK_sA, mL_sA, mF_sA, mB_sA, mA_sA, mJ_sA, mP_sA, mO_sA, mN_sJ, mK_sJ, mL_sJ, mF_sJ, mB_sJ, mA_sJ, mJ_sJ, mP_sJ, mO_sJ, mN_sP, mK_sP, mL_sP, mF_sP, mB_sP, mA_sP, mJ_sP, mP_sP, mO_sP, mN_sO, mK_sO, mL_sO, mF_sO, mB_sO, mA_sO, mJ_sO, mP_sO, mO_sO, up2, if_true, if_false, eq_self, ite_true, ite_false, reduceIte, Nat.add_left_cancel_iff, Nat.add_eq_left, Nat.left_eq_add, Nat.reduceEqDiff]; done)) ?_ | refine e_zaldv 48 rfl dX10_agree_47 (by assumption) (by assumption) (by first | rfl | simp only [pk_mul, nI_add]) (by omega) (by omega) (by first | assumption | (simp only [mN_sF, mK_sF, mL_sF, mF_sF, mB_sF, mA_sF, mJ_sF, mP_sF, mO_sF, mN_sB, mK_sB, mL_sB, mF_sB, mB_sB, mA_sB, mJ_sB, mP_sB, mO_sB, mN_sA, mK_sA, mL_sA, mF_sA, mB_sA, mA_sA, mJ_sA, mP_sA, mO_sA, mN_sJ, mK_sJ, mL_sJ, mF_sJ, mB_sJ, mA_sJ, mJ_sJ, mP_sJ, mO_sJ, mN_sP, mK_sP, mL_sP, mF_sP, mB_sP, mA_sP, mJ_sP, mP_sP, mO_sP, mN_sO, mK_sO, mL_sO, mF_sO, mB_sO, mA_sO, mJ_sO, mP_sO, mO_sO, up2, if_true, if_false, eq_self, ite_true, ite_false, reduceIte, Nat.add_left_cancel_iff, Nat.add_eq_left, Nat.left_eq_add, Nat.reduceEqDiff]; assumption) | (simp only [mN_sF, mK_sF, mL_sF, mF_sF, mB_sF, mA_sF, mJ_sF, mP_sF, mO_sF, mN_sB, mK_sB, mL_sB, mF_sB, mB_sB, mA_sB, mJ_sB, mP_sB, mO_sB, mN_sA, mK_sA, mL_sA, mF_sA, mB_sA, mA_sA, mJ_sA, mP_sA, mO_sA, mN_sJ, mK_sJ, mL_sJ, mF_sJ, mB_sJ, mA_sJ, mJ_sJ, mP_sJ, mO_sJ, mN_sP, mK_sP, mL_sP, mF_sP, mB_sP, mA_sP, mJ_sP, mP_sP, mO_sP, mN_sO, mK_sO, mL_sO, mF_sO, mB_sO, mA_sO, mJ_sO, mP_sO, mO_sO, up2, if_true, if_false, eq_self, ite_true, ite_false, reduceIte, Nat.add_left_cancel_iff, Nat.add_eq_left, Nat.left_eq_add, Nat.reduceEqDiff]; done)) ?_ | refine e_bald 48 rfl dX10_agree_47 (by assumption) (by assumption) (by first | rfl | simp only [pk_mul, nI_add]) (by omega) (by omega) ?_ | refine e_zald 48 rfl dX10_agree_47 (by assumption) (by assumption) (by first | rfl | simp only [pk_mul, nI_add]) (by omega) (by omega) ?_
  first | refine e_if_neB 53 51 (by decide) rfl dX10_agree_48 rfl (fun y4 => ?_) (fun y4 => ?_) | refine e_if_neN 53 51 (by decide) rfl dX10_agree_48 rfl (by omega) (fun y4 => ?_) (fun y4 => ?_) | refine e_if_ne 53 51 (by decide) rfl dX10_agree_48 (fun y4 => ?_) (fun y4 => ?_)
  rotate_left
  · rw [if_neg (by rw [y4]; simp)] at kf
    refine e_iconst (-1) 52 rfl dX10_agree_51 ic_m1 ?_
    refine e_iret dX10_agree_52 rfl ?_
    exact kf
  rw [if_pos (by rw [y3, y4]; rfl)] at kf
  refine e_al0 54 rfl dX10_agree_53 ?_
  refine e_getR 57 rfl dX10_agree_54 f_X10_60 (by assumption) (by assumption) ?_
  refine e_il1 58 rfl dX10_agree_57 ?_
  first | refine e_ialdv 59 rfl dX10_agree_58 (by assumption) (by assumption) (by first | rfl | simp only [pk_mul, nI_add]) (by omega) (by omega) (by first | assumption | (simp only [mN_sF, mK_sF, mL_sF, mF_sF, mB_sF, mA_sF, mJ_sF, mP_sF, mO_sF, mN_sB, mK_sB, mL_sB, mF_sB, mB_sB, mA_sB, mJ_sB, mP_sB, mO_sB, mN_sA, mK_sA, mL_sA, mF_sA, mB_sA, mA_sA, mJ_sA, mP_sA, mO_sA, mN_sJ, mK_sJ, mL_sJ, mF_sJ, mB_sJ, mA_sJ, mJ_sJ, mP_sJ, mO_sJ, mN_sP, mK_sP, mL_sP, mF_sP, mB_sP, mA_sP, mJ_sP, mP_sP, mO_sP, mN_sO, mK_sO, mL_sO, mF_sO, mB_sO, mA_sO, mJ_sO, mP_sO, mO_sO, up2, if_true, if_false, eq_self, ite_true, ite_false, reduceIte, Nat.add_left_cancel_iff, Nat.add_eq_left, Nat.left_eq_add, Nat.reduceEqDiff]; assumption) | (simp only [mN_sF, mK_sF, mL_sF, mF_sF, mB_sF, mA_sF, mJ_sF, mP_sF, mO_sF, mN_sB, mK_sB, mL_sB, mF_sB, mB_sB, mA_sB, mJ_sB, mP_sB, mO_sB, mN_sA, mK_sA, mL_sA, mF_sA, mB_sA, mA_sA, mJ_sA, mP_sA, mO_sA, mN_sJ, mK_sJ, mL_sJ, mF_sJ, mB_sJ, mA_sJ, mJ_sJ, mP_sJ, mO_sJ, mN_sP, mK_sP, mL_sP, mF_sP, mB_sP, mA_sP, mJ_sP, mP_sP, mO_sP, mN_sO, mK_sO, mL_sO, mF_sO, mB_sO, mA_sO, mJ_sO, mP_sO, mO_sO, up2, if_true, if_false, eq_self, ite_true, ite_false, reduceIte, Nat.add_left_cancel_iff, Nat.add_eq_left, Nat.left_eq_add, Nat.reduceEqDiff]; done)) ?_ | refine e_iald 59 rfl dX10_agree_58 (by assumption) (by assumption) (by first | rfl | simp only [pk_mul, nI_add]) (by omega) (by omega) ?_
  refine e_al0 60 rfl dX10_agree_59 ?_
  refine e_getR 63 rfl dX10_agree_60 f_X10_60 (by assumption) (by assumption) ?_
  refine e_il2 64 rfl dX10_agree_63 ?_
  first | refine e_ialdv 65 rfl dX10_agree_64 (by assumption) (by assumption) (by first | rfl | simp only [pk_mul, nI_add]) (by omega) (by omega) (by first | assumption | (simp only [mN_sF, mK_sF, mL_sF, mF_sF, mB_sF, mA_sF, mJ_sF, mP_sF, mO_sF, mN_sB, mK_sB, mL_sB, mF_sB, mB_sB, mA_sB, mJ_sB, mP_sB, mO_sB, mN_sA, mK_sA, mL_sA, mF_sA, mB_sA, mA_sA, mJ_sA, mP_sA, mO_sA, mN_sJ, mK_sJ, mL_sJ, mF_sJ, mB_sJ, mA_sJ, mJ_sJ, mP_sJ, mO_sJ, mN_sP, mK_sP, mL_sP, mF_sP, mB_sP, mA_sP, mJ_sP, mP_sP, mO_sP, mN_sO, mK_sO, mL_sO, mF_sO, mB_sO, mA_sO, mJ_sO, mP_sO, mO_sO, up2, if_true, if_false, eq_self, ite_true, ite_false, reduceIte, Nat.add_left_cancel_iff, Nat.add_eq_left, Nat.left_eq_add, Nat.reduceEqDiff]; assumption) | (simp only [mN_sF, mK_sF, mL_sF, mF_sF, mB_sF, mA_sF, mJ_sF, mP_sF, mO_sF, mN_sB, mK_sB, mL_sB, mF_sB, mB_sB, mA_sB, mJ_sB, mP_sB, mO_sB, mN_sA, mK_sA, mL_sA, mF_sA, mB_sA, mA_sA, mJ_sA, mP_sA, mO_sA, mN_sJ, mK_sJ, mL_sJ, mF_sJ, mB_sJ, mA_sJ, mJ_sJ, mP_sJ, mO_sJ, mN_sP, mK_sP, mL_sP, mF_sP, mB_sP, mA_sP, mJ_sP, mP_sP, mO_sP, mN_sO, mK_sO, mL_sO, mF_sO, mB_sO, mA_sO, mJ_sO, mP_sO, mO_sO, up2, if_true, if_false, eq_self, ite_true, ite_false, reduceIte, Nat.add_left_cancel_iff, Nat.add_eq_left, Nat.left_eq_add, Nat.reduceEqDiff]; done)) ?_ | refine e_iald 65 rfl dX10_agree_64 (by assumption) (by assumption) (by first | rfl | simp only [pk_mul, nI_add]) (by omega) (by omega) ?_
  first | refine e_cmp_eqN 70 68 (by decide) rfl dX10_agree_65 rfl rfl (by omega) (by omega) (fun y5 => ?_) (fun y5 => ?_) | refine e_cmp_eq 70 68 (by decide) rfl dX10_agree_65 (fun y5 => ?_) (fun y5 => ?_)
  rotate_left
  · refine e_iconst (nI 0) 69 rfl dX10_agree_68 ic_0 ?_
    refine e_iret dX10_agree_69 rfl ?_
    rw [show decide (a.1 = b.1) = false from decide_eq_false y5] at kf
    exact kf
  rw [show decide (a.1 = b.1) = true from decide_eq_true y5, Bool.true_and, y3, y4] at kf
  -- words at places
  have word : ∀ (n : Nm) (p : Nat) (hp : p < n.2.length), wfN n → (fsN n).getD p [] = foldL n.2[p] ∧ 1 ≤ (foldL n.2[p]).length ∧ (foldL n.2[p]).length ≤ 20 := fun n p hp hwn => by
    have := wordL (hwn.2.2.2 _ (List.getElem_mem hp))
    exact ⟨fsN_get hp, this.2.2.1, this.2.2.2.1⟩
  have plen : ∀ bits n, n.2.length ≤ 8 → (pls true bits (rK S n) 0).length ≤ 8 := fun bits n hn => Nat.le_trans pls_len (by unfold rK; rw [rdK_len]; omega)
  -- given names
  have second : ∀ q3 q4 q5 q6, wsA (fsN a) (pls true 16 (rK S a) 0) = wsA (fsN b) (pls true 16 (rK S b) 0) → nl q4 = true → nl q5 = true → nl q6 = true → Ev E M_X10_agree 0 0 145 [some (.ref m), some (.int (nI i)), some (.int (nI j)), q3, q4, q5, q6] [] μ3 K := by
    intro q3 q4 q5 q6 hfam hq4 hq5 hq6
    rw [show decide (wsA (fsN a) (pls true 16 (rK S a) 0) = wsA (fsN b) (pls true 16 (rK S b) 0)) = true from decide_eq_true hfam, Bool.true_and] at kf
    obtain ⟨A, hA⟩ : ∃ A, A = pls true 66 (rK S a) 0 := ⟨_, rfl⟩
    obtain ⟨B, hB⟩ : ∃ B, B = pls true 66 (rK S b) 0 := ⟨_, rfl⟩
    have hA8 : A.length ≤ 8 := by rw [hA]; exact plen _ _ a8
    have hB8 : B.length ≤ 8 := by rw [hB]; exact plen _ _ b8
    rw [← hA, ← hB] at kf
    refine e_iconst (nI 0) 146 rfl dX10_agree_145 ic_0 ?_
    refine e_is3 147 rfl dX10_agree_146 (by decide) rfl ?_
    have loop : ∀ (fu t : Nat), t + fu = 8 → fitA (wsA (fsN a) A) (wsA (fsN b) B) = fitA (wsA (fsN a) (A.drop t)) (wsA (fsN b) (B.drop t)) → ∀ q4 q5 q6, nl q4 = true → nl q5 = true → nl q6 = true → Ev E M_X10_agree 0 0 147 [some (.ref m), some (.int (nI i)), some (.int (nI j)), some (.int (nI t)), q4, q5, q6] [] μ3 K := by
      intro fu
      induction fu with
      | zero =>
        intro t ht he q4 q5 q6 hq4 hq5 hq6
        refine e_il3 148 rfl dX10_agree_147 ?_
        refine e_bipush (nI 8) 150 rfl dX10_agree_148 bc_8 ?_
        first | refine e_cmp_geN 264 153 (by decide) rfl dX10_agree_150 rfl rfl (by omega) (by omega) (fun y6 => ?_) (fun y6 => ?_) | refine e_cmp_ge 264 153 (by decide) rfl dX10_agree_150 (fun y6 => ?_) (fun y6 => ?_)
        rotate_left
        · omega
        rw [he, List.drop_eq_nil_of_le (show A.length ≤ t by omega)] at kf
        refine e_iconst (nI 1) 265 rfl dX10_agree_264 ic_1 ?_
        refine e_iret dX10_agree_265 rfl ?_
        exact kf
      | succ fu ih =>
        intro t ht he q4 q5 q6 hq4 hq5 hq6
        have stay : (A.length ≤ t ∨ B.length ≤ t) → ∀ q4 q5, nl q4 = true → nl q5 = true → Ev E M_X10_agree 0 0 258 [some (.ref m), some (.int (nI i)), some (.int (nI j)), some (.int (nI t)), q4, q5, q6] [] μ3 K := by
          intro hor q4 q5 hq4 hq5
          refine e_ii3 (nI (_ + 1)) 261 rfl dX10_agree_258 (ii1 _) rfl ?_
          refine e_goto 147 (by decide) dX10_agree_261 ?_
          refine ih (t + 1) (by omega) ?_ _ _ _ hq4 hq5 hq6
          rw [he]
          rcases hor with h | h
          · rw [List.drop_eq_nil_of_le h, List.drop_eq_nil_of_le (show A.length ≤ t + 1 by omega)]; rfl
          · rw [List.drop_eq_nil_of_le h, List.drop_eq_nil_of_le (show B.length ≤ t + 1 by omega)]
            show fitA _ [] = fitA _ []
            rw [fitA_nil.1, fitA_nil.1]
        refine e_il3 148 rfl dX10_agree_147 ?_
        refine e_bipush (nI 8) 150 rfl dX10_agree_148 bc_8 ?_
        first | refine e_cmp_geN 264 153 (by decide) rfl dX10_agree_150 rfl rfl (by omega) (by omega) (fun y6 => ?_) (fun y6 => ?_) | refine e_cmp_ge 264 153 (by decide) rfl dX10_agree_150 (fun y6 => ?_) (fun y6 => ?_)
        · omega
        refine e_al0 154 rfl dX10_agree_153 ?_
        refine e_il1 155 rfl dX10_agree_154 ?_
        refine e_iconst (nI 1) 156 rfl dX10_agree_155 ic_1 ?_
        refine e_bipush (nI 6) 158 rfl dX10_agree_156 bc_6 ?_
        refine e_il3 159 rfl dX10_agree_158 ?_
        refine e_invV0 [_, _, _, _] 162 rfl dX10_agree_159 k_X10_250 mo_X10_wordOf rm_X10_agree_X10_wordOf ⟨rfl, rfl⟩ rfl rfl (by assumption) (Nat.le_of_ble_eq_true rfl) ?_
        refine c_wordOf (bits := 66) hW hM3 hi hsa y3 (by omega) (by decide) (by decide) (by decide) (fun hno => ?_) (fun p hp hpn => ?_)
        · rw [← hA] at hno
          have hAt := List.getElem?_eq_none_iff.mp hno
          refine e_is4 164 rfl dX10_agree_162 (by decide) rfl ?_
          refine e_al0 165 rfl dX10_agree_164 ?_
          refine e_il2 166 rfl dX10_agree_165 ?_
          refine e_iconst (nI 1) 167 rfl dX10_agree_166 ic_1 ?_
          refine e_bipush (nI 6) 169 rfl dX10_agree_167 bc_6 ?_
          refine e_il3 170 rfl dX10_agree_169 ?_
          refine e_invV0 [_, _, _, _] 173 rfl dX10_agree_170 k_X10_250 mo_X10_wordOf rm_X10_agree_X10_wordOf ⟨rfl, rfl⟩ rfl rfl (by assumption) (Nat.le_of_ble_eq_true rfl) ?_
          refine c_wordOf (bits := 66) hW hM3 hj hs3 y4 (by omega) (by decide) (by decide) (by decide) (fun hno2 => ?_) (fun p2 hp2 hpn2 => ?_)
          · refine e_is5 175 rfl dX10_agree_173 (by decide) rfl ?_
            refine e_il4 177 rfl dX10_agree_175 ?_
            refine e_if_lt 258 180 (by decide) rfl dX10_agree_177 (fun z3 => ?_) (fun z3 => ?_)
            · exact stay (Or.inl hAt) _ _ rfl rfl
            · exact absurd (by decide) z3
          · refine e_is5 175 rfl dX10_agree_173 (by decide) rfl ?_
            refine e_il4 177 rfl dX10_agree_175 ?_
            refine e_if_lt 258 180 (by decide) rfl dX10_agree_177 (fun z3 => ?_) (fun z3 => ?_)
            · exact stay (Or.inl hAt) _ _ rfl rfl
            · exact absurd (by decide) z3
        rw [← hA] at hp
        obtain ⟨hAt, hAe⟩ := List.getElem?_eq_some_iff.mp hp
        refine e_is4 164 rfl dX10_agree_162 (by decide) rfl ?_
        refine e_al0 165 rfl dX10_agree_164 ?_
        refine e_il2 166 rfl dX10_agree_165 ?_
        refine e_iconst (nI 1) 167 rfl dX10_agree_166 ic_1 ?_
        refine e_bipush (nI 6) 169 rfl dX10_agree_167 bc_6 ?_
        refine e_il3 170 rfl dX10_agree_169 ?_
        refine e_invV0 [_, _, _, _] 173 rfl dX10_agree_170 k_X10_250 mo_X10_wordOf rm_X10_agree_X10_wordOf ⟨rfl, rfl⟩ rfl rfl (by assumption) (Nat.le_of_ble_eq_true rfl) ?_
        refine c_wordOf (bits := 66) hW hM3 hj hs3 y4 (by omega) (by decide) (by decide) (by decide) (fun hno2 => ?_) (fun p2 hp2 hpn2 => ?_)
        · rw [← hB] at hno2
          have hBt := List.getElem?_eq_none_iff.mp hno2
          refine e_is5 175 rfl dX10_agree_173 (by decide) rfl ?_
          refine e_il4 177 rfl dX10_agree_175 ?_
          first | refine e_if_ltN 258 180 (by decide) rfl dX10_agree_177 rfl (by omega) ?_ | refine e_if_lt 258 180 (by decide) rfl dX10_agree_177 (fun h => ?_) (fun h => ?_)
          refine e_il5 182 rfl dX10_agree_180 ?_
          refine e_if_lt 258 185 (by decide) rfl dX10_agree_182 (fun z3 => ?_) (fun z3 => ?_)
          · exact stay (Or.inr hBt) _ _ rfl rfl
          · exact absurd (by decide) z3
        rw [← hB] at hp2
        obtain ⟨hBt, hBe⟩ := List.getElem?_eq_some_iff.mp hp2
        obtain ⟨g1, l1, u1⟩ := word a p hpn hwa
        obtain ⟨g2, l2, u2⟩ := word b p2 hpn2 hwb
        have d1 := na3 p _ (List.getElem?_eq_getElem hpn)
        have d2 := nb3 p2 _ (List.getElem?_eq_getElem hpn2)
        have vz1 := d1.2.1
        have vz2 := d2.2.1
        have dH1 := d1.2.2
        have dH2 := d2.2.2
        obtain ⟨X, hX⟩ : ∃ X, X = foldL a.2[p] := ⟨_, rfl⟩
        obtain ⟨Y, hY⟩ : ∃ Y, Y = foldL b.2[p2] := ⟨_, rfl⟩
        have hXr : ∀ c ∈ X, 97 ≤ c ∧ c ≤ 122 := by rw [hX]; exact foldL_r
        have hYr : ∀ c ∈ Y, 97 ≤ c ∧ c ≤ 122 := by rw [hY]; exact foldL_r
        have st : fitA (wsA (fsN a) (A.drop t)) (wsA (fsN b) (B.drop t)) = (fitL X Y && fitA (wsA (fsN a) (A.drop (t + 1))) (wsA (fsN b) (B.drop (t + 1)))) := by
          rw [List.drop_eq_getElem_cons hAt, List.drop_eq_getElem_cons hBt, hAe, hBe]
          unfold wsA
          rw [List.map_cons, List.map_cons, g1, g2, ← hX, ← hY]
          rfl
        rw [st] at he
        have hbd := cmpL_bd X Y (by rw [hX]; exact u1) (by rw [hY]; exact u2) (fun c hc => by have := hXr c hc; omega) (fun c hc => by have := hYr c hc; omega)
        have hsg := ofInt_sg hbd.1 hbd.2
        have ok : fitL X Y = true → ∀ q6, nl q6 = true → Ev E M_X10_agree 0 0 258 [some (.ref m), some (.int (nI i)), some (.int (nI j)), some (.int (nI t)), some (.int (nI (8 * i + p))), some (.int (nI (8 * j + p2))), q6] [] μ3 K := by
          intro hfit q6 hq6
          rw [hfit, Bool.true_and] at he
          refine e_ii3 (nI (_ + 1)) 261 rfl dX10_agree_258 (ii1 _) rfl ?_
          refine e_goto 147 (by decide) dX10_agree_261 ?_
          exact ih (t + 1) (by omega) he _ _ _ rfl rfl hq6
        rw [← hX] at vz1 dH1 l1 u1
        rw [← hY] at vz2 dH2 l2 u2
        have vX : mA μ3 (m + 20) (21 * (8 * i + p)) = nI X[0] := by have := dH1.at (i := 0) (by omega); exact this
        have vY : mA μ3 (m + 20) (21 * (8 * j + p2)) = nI Y[0] := by have := dH2.at (i := 0) (by omega); exact this
        have cX := hXr _ (List.getElem_mem (show 0 < X.length by omega))
        have cY := hYr _ (List.getElem_mem (show 0 < Y.length by omega))
        refine e_is5 175 rfl dX10_agree_173 (by decide) rfl ?_
        refine e_il4 177 rfl dX10_agree_175 ?_
        first | refine e_if_ltN 258 180 (by decide) rfl dX10_agree_177 rfl (by omega) ?_ | refine e_if_lt 258 180 (by decide) rfl dX10_agree_177 (fun h => ?_) (fun h => ?_)
        refine e_il5 182 rfl dX10_agree_180 ?_
        first | refine e_if_ltN 258 185 (by decide) rfl dX10_agree_182 rfl (by omega) ?_ | refine e_if_lt 258 185 (by decide) rfl dX10_agree_182 (fun h => ?_) (fun h => ?_)
        refine e_al0 186 rfl dX10_agree_185 ?_
        refine e_il4 188 rfl dX10_agree_186 ?_
        refine e_il5 190 rfl dX10_agree_188 ?_
        refine e_invV0 [_, _] 193 rfl dX10_agree_190 k_X10_222 mo_X10_compare rm_X10_agree_X10_compare ⟨rfl, rfl⟩ rfl rfl (by assumption) (Nat.le_of_ble_eq_true rfl) ?_
        refine c_mCompare hM3.1 (by omega) (by omega) d1 d2 (by rw [← hX]; exact u1) (by rw [← hY]; exact u2) ?_
        rw [← hX, ← hY]
        refine e_if_ne 199 196 (by decide) rfl dX10_agree_193 (fun z4 => ?_) (fun z4 => ?_)
        rotate_left
        · refine e_goto 258 (by decide) dX10_agree_196 ?_
          have := (cmpL_zero X Y).mp (hsg.1.mp z4)
          exact ok (by unfold fitL; simp [this]) _ hq6
        have hne : X ≠ Y := fun q => z4 (hsg.1.mpr ((cmpL_zero X Y).mpr q))
        have hfi := fitL_iff l1 l2 hne
        have e0 : X[0]? = Y[0]? ↔ X[0] = Y[0] := by rw [List.getElem?_eq_getElem (by omega), List.getElem?_eq_getElem (by omega)]; simp
        rw [e0] at hfi
        have lst : (X.length = 1 ∨ Y.length = 1) → Ev E M_X10_agree 0 0 221 [some (.ref m), some (.int (nI i)), some (.int (nI j)), some (.int (nI t)), some (.int (nI (8 * i + p))), some (.int (nI (8 * j + p2))), q6] [] μ3 K := by
          intro hone
          refine e_al0 222 rfl dX10_agree_221 ?_
          refine e_getR 225 rfl dX10_agree_222 f_X10_72 (by assumption) (by assumption) ?_
          refine e_bipush (nI 21) 227 rfl dX10_agree_225 bc_21 ?_
          refine e_il4 229 rfl dX10_agree_227 ?_
          first | refine e_imulN 230 rfl dX10_agree_229 rfl rfl ?_ | refine e_imul 230 rfl dX10_agree_229 ?_
          first | refine e_ialdv 231 rfl dX10_agree_230 (by assumption) (by assumption) (by first | rfl | simp only [pk_mul, nI_add]) (by omega) (by omega) (by first | assumption | (simp only [mN_sF, mK_sF, mL_sF, mF_sF, mB_sF, mA_sF, mJ_sF, mP_sF, mO_sF, mN_sB, mK_sB, mL_sB, mF_sB, mB_sB, mA_sB, mJ_sB, mP_sB, mO_sB, mN_sA, mK_sA, mL_sA, mF_sA, mB_sA, mA_sA, mJ_sA, mP_sA, mO_sA, mN_sJ, mK_sJ, mL_sJ, mF_sJ, mB_sJ, mA_sJ, mJ_sJ, mP_sJ, mO_sJ, mN_sP, mK_sP, mL_sP, mF_sP, mB_sP, mA_sP, mJ_sP, mP_sP, mO_sP, mN_sO, mK_sO, mL_sO, mF_sO, mB_sO, mA_sO, mJ_sO, mP_sO, mO_sO, up2, if_true, if_false, eq_self, ite_true, ite_false, reduceIte, Nat.add_left_cancel_iff, Nat.add_eq_left, Nat.left_eq_add, Nat.reduceEqDiff]; assumption) | (simp only [mN_sF, mK_sF, mL_sF, mF_sF, mB_sF, mA_sF, mJ_sF, mP_sF, mO_sF, mN_sB, mK_sB, mL_sB, mF_sB, mB_sB, mA_sB, mJ_sB, mP_sB, mO_sB, mN_sA, mK_sA, mL_sA, mF_sA, mB_sA, mA_sA, mJ_sA, mP_sA, mO_sA, mN_sJ, mK_sJ, mL_sJ, mF_sJ, mB_sJ, mA_sJ, mJ_sJ, mP_sJ, mO_sJ, mN_sP, mK_sP, mL_sP, mF_sP, mB_sP, mA_sP, mJ_sP, mP_sP, mO_sP, mN_sO, mK_sO, mL_sO, mF_sO, mB_sO, mA_sO, mJ_sO, mP_sO, mO_sO, up2, if_true, if_false, eq_self, ite_true, ite_false, reduceIte, Nat.add_left_cancel_iff, Nat.add_eq_left, Nat.left_eq_add, Nat.reduceEqDiff]; done)) ?_ | refine e_iald 231 rfl dX10_agree_230 (by assumption) (by assumption) (by first | rfl | simp only [pk_mul, nI_add]) (by omega) (by omega) ?_
          refine e_al0 232 rfl dX10_agree_231 ?_
          refine e_getR 235 rfl dX10_agree_232 f_X10_72 (by assumption) (by assumption) ?_
          refine e_bipush (nI 21) 237 rfl dX10_agree_235 bc_21 ?_
          refine e_il5 239 rfl dX10_agree_237 ?_
          first | refine e_imulN 240 rfl dX10_agree_239 rfl rfl ?_ | refine e_imul 240 rfl dX10_agree_239 ?_
          first | refine e_ialdv 241 rfl dX10_agree_240 (by assumption) (by assumption) (by first | rfl | simp only [pk_mul, nI_add]) (by omega) (by omega) (by first | assumption | (simp only [mN_sF, mK_sF, mL_sF, mF_sF, mB_sF, mA_sF, mJ_sF, mP_sF, mO_sF, mN_sB, mK_sB, mL_sB, mF_sB, mB_sB, mA_sB, mJ_sB, mP_sB, mO_sB, mN_sA, mK_sA, mL_sA, mF_sA, mB_sA, mA_sA, mJ_sA, mP_sA, mO_sA, mN_sJ, mK_sJ, mL_sJ, mF_sJ, mB_sJ, mA_sJ, mJ_sJ, mP_sJ, mO_sJ, mN_sP, mK_sP, mL_sP, mF_sP, mB_sP, mA_sP, mJ_sP, mP_sP, mO_sP, mN_sO, mK_sO, mL_sO, mF_sO, mB_sO, mA_sO, mJ_sO, mP_sO, mO_sO, up2, if_true, if_false, eq_self, ite_true, ite_false, reduceIte, Nat.add_left_cancel_iff, Nat.add_eq_left, Nat.left_eq_add, Nat.reduceEqDiff]; assumption) | (simp only [mN_sF, mK_sF, mL_sF, mF_sF, mB_sF, mA_sF, mJ_sF, mP_sF, mO_sF, mN_sB, mK_sB, mL_sB, mF_sB, mB_sB, mA_sB, mJ_sB, mP_sB, mO_sB, mN_sA, mK_sA, mL_sA, mF_sA, mB_sA, mA_sA, mJ_sA, mP_sA, mO_sA, mN_sJ, mK_sJ, mL_sJ, mF_sJ, mB_sJ, mA_sJ, mJ_sJ, mP_sJ, mO_sJ, mN_sP, mK_sP, mL_sP, mF_sP, mB_sP, mA_sP, mJ_sP, mP_sP, mO_sP, mN_sO, mK_sO, mL_sO, mF_sO, mB_sO, mA_sO, mJ_sO, mP_sO, mO_sO, up2, if_true, if_false, eq_self, ite_true, ite_false, reduceIte, Nat.add_left_cancel_iff, Nat.add_eq_left, Nat.left_eq_add, Nat.reduceEqDiff]; done)) ?_ | refine e_iald 241 rfl dX10_agree_240 (by assumption) (by assumption) (by first | rfl | simp only [pk_mul, nI_add]) (by omega) (by omega) ?_
          first | refine e_cmp_neN 248 244 (by decide) rfl dX10_agree_241 rfl rfl (by omega) (by omega) (fun z7 => ?_) (fun z7 => ?_) | refine e_cmp_ne 248 244 (by decide) rfl dX10_agree_241 (fun z7 => ?_) (fun z7 => ?_)
          · refine e_iconst (nI 0) 249 rfl dX10_agree_248 ic_0 ?_
            refine e_is6 251 rfl dX10_agree_249 (by decide) rfl ?_
            refine e_il6 253 rfl dX10_agree_251 ?_
            first | refine e_if_neB 258 256 (by decide) rfl dX10_agree_253 rfl (fun z8 => ?_) (fun z8 => ?_) | refine e_if_neN 258 256 (by decide) rfl dX10_agree_253 rfl (by omega) (fun z8 => ?_) (fun z8 => ?_) | refine e_if_ne 258 256 (by decide) rfl dX10_agree_253 (fun z8 => ?_) (fun z8 => ?_)
            · exact absurd rfl z8
            refine e_iconst (nI 0) 257 rfl dX10_agree_256 ic_0 ?_
            refine e_iret dX10_agree_257 rfl ?_
            have : fitL X Y = false := by
              cases c : fitL X Y with
              | false => rfl
              | true => exact absurd (hfi.mp c).2 z7
            rw [he, this] at kf
            exact kf
          · refine e_iconst (nI 1) 245 rfl dX10_agree_244 ic_1 ?_
            refine e_goto 249 (by decide) dX10_agree_245 ?_
            refine e_is6 251 rfl dX10_agree_249 (by decide) rfl ?_
            refine e_il6 253 rfl dX10_agree_251 ?_
            first | refine e_if_neB 258 256 (by decide) rfl dX10_agree_253 rfl (fun z8 => ?_) (fun z8 => ?_) | refine e_if_neN 258 256 (by decide) rfl dX10_agree_253 rfl (by omega) (fun z8 => ?_) (fun z8 => ?_) | refine e_if_ne 258 256 (by decide) rfl dX10_agree_253 (fun z8 => ?_) (fun z8 => ?_)
            rotate_left
            · exact absurd z8 (by decide)
            exact ok (hfi.mpr ⟨hone, z7⟩) _ rfl
        refine e_al0 200 rfl dX10_agree_199 ?_
        refine e_getR 203 rfl dX10_agree_200 f_X10_75 (by assumption) (by assumption) ?_
        refine e_il4 205 rfl dX10_agree_203 ?_
        first | refine e_ialdv 206 rfl dX10_agree_205 (by assumption) (by assumption) (by first | rfl | simp only [pk_mul, nI_add]) (by omega) (by omega) (by first | assumption | (simp only [mN_sF, mK_sF, mL_sF, mF_sF, mB_sF, mA_sF, mJ_sF, mP_sF, mO_sF, mN_sB, mK_sB, mL_sB, mF_sB, mB_sB, mA_sB, mJ_sB, mP_sB, mO_sB, mN_sA, mK_sA, mL_sA, mF_sA, mB_sA, mA_sA, mJ_sA, mP_sA, mO_sA, mN_sJ, mK_sJ, mL_sJ, mF_sJ, mB_sJ, mA_sJ, mJ_sJ, mP_sJ, mO_sJ, mN_sP, mK_sP, mL_sP, mF_sP, mB_sP, mA_sP, mJ_sP, mP_sP, mO_sP, mN_sO, mK_sO, mL_sO, mF_sO, mB_sO, mA_sO, mJ_sO, mP_sO, mO_sO, up2, if_true, if_false, eq_self, ite_true, ite_false, reduceIte, Nat.add_left_cancel_iff, Nat.add_eq_left, Nat.left_eq_add, Nat.reduceEqDiff]; assumption) | (simp only [mN_sF, mK_sF, mL_sF, mF_sF, mB_sF, mA_sF, mJ_sF, mP_sF, mO_sF, mN_sB, mK_sB, mL_sB, mF_sB, mB_sB, mA_sB, mJ_sB, mP_sB, mO_sB, mN_sA, mK_sA, mL_sA, mF_sA, mB_sA, mA_sA, mJ_sA, mP_sA, mO_sA, mN_sJ, mK_sJ, mL_sJ, mF_sJ, mB_sJ, mA_sJ, mJ_sJ, mP_sJ, mO_sJ, mN_sP, mK_sP, mL_sP, mF_sP, mB_sP, mA_sP, mJ_sP, mP_sP, mO_sP, mN_sO, mK_sO, mL_sO, mF_sO, mB_sO, mA_sO, mJ_sO, mP_sO, mO_sO, up2, if_true, if_false, eq_self, ite_true, ite_false, reduceIte, Nat.add_left_cancel_iff, Nat.add_eq_left, Nat.left_eq_add, Nat.reduceEqDiff]; done)) ?_ | refine e_iald 206 rfl dX10_agree_205 (by assumption) (by assumption) (by first | rfl | simp only [pk_mul, nI_add]) (by omega) (by omega) ?_
        refine e_iconst (nI 1) 207 rfl dX10_agree_206 ic_1 ?_
        first | refine e_cmp_eqN 221 210 (by decide) rfl dX10_agree_207 rfl rfl (by omega) (by omega) (fun z5 => ?_) (fun z5 => ?_) | refine e_cmp_eq 221 210 (by decide) rfl dX10_agree_207 (fun z5 => ?_) (fun z5 => ?_)
        · exact lst (Or.inl z5)
        refine e_al0 211 rfl dX10_agree_210 ?_
        refine e_getR 214 rfl dX10_agree_211 f_X10_75 (by assumption) (by assumption) ?_
        refine e_il5 216 rfl dX10_agree_214 ?_
        first | refine e_ialdv 217 rfl dX10_agree_216 (by assumption) (by assumption) (by first | rfl | simp only [pk_mul, nI_add]) (by omega) (by omega) (by first | assumption | (simp only [mN_sF, mK_sF, mL_sF, mF_sF, mB_sF, mA_sF, mJ_sF, mP_sF, mO_sF, mN_sB, mK_sB, mL_sB, mF_sB, mB_sB, mA_sB, mJ_sB, mP_sB, mO_sB, mN_sA, mK_sA, mL_sA, mF_sA, mB_sA, mA_sA, mJ_sA, mP_sA, mO_sA, mN_sJ, mK_sJ, mL_sJ, mF_sJ, mB_sJ, mA_sJ, mJ_sJ, mP_sJ, mO_sJ, mN_sP, mK_sP, mL_sP, mF_sP, mB_sP, mA_sP, mJ_sP, mP_sP, mO_sP, mN_sO, mK_sO, mL_sO, mF_sO, mB_sO, mA_sO, mJ_sO, mP_sO, mO_sO, up2, if_true, if_false, eq_self, ite_true, ite_false, reduceIte, Nat.add_left_cancel_iff, Nat.add_eq_left, Nat.left_eq_add, Nat.reduceEqDiff]; assumption) | (simp only [mN_sF, mK_sF, mL_sF, mF_sF, mB_sF, mA_sF, mJ_sF, mP_sF, mO_sF, mN_sB, mK_sB, mL_sB, mF_sB, mB_sB, mA_sB, mJ_sB, mP_sB, mO_sB, mN_sA, mK_sA, mL_sA, mF_sA, mB_sA, mA_sA, mJ_sA, mP_sA, mO_sA, mN_sJ, mK_sJ, mL_sJ, mF_sJ, mB_sJ, mA_sJ, mJ_sJ, mP_sJ, mO_sJ, mN_sP, mK_sP, mL_sP, mF_sP, mB_sP, mA_sP, mJ_sP, mP_sP, mO_sP, mN_sO, mK_sO, mL_sO, mF_sO, mB_sO, mA_sO, mJ_sO, mP_sO, mO_sO, up2, if_true, if_false, eq_self, ite_true, ite_false, reduceIte, Nat.add_left_cancel_iff, Nat.add_eq_left, Nat.left_eq_add, Nat.reduceEqDiff]; done)) ?_ | refine e_iald 217 rfl dX10_agree_216 (by assumption) (by assumption) (by first | rfl | simp only [pk_mul, nI_add]) (by omega) (by omega) ?_
        refine e_iconst (nI 1) 218 rfl dX10_agree_217 ic_1 ?_
        first | refine e_cmp_neN 248 221 (by decide) rfl dX10_agree_218 rfl rfl (by omega) (by omega) (fun z6 => ?_) (fun z6 => ?_) | refine e_cmp_ne 248 221 (by decide) rfl dX10_agree_218 (fun z6 => ?_) (fun z6 => ?_)
        · refine e_iconst (nI 0) 249 rfl dX10_agree_248 ic_0 ?_
          refine e_is6 251 rfl dX10_agree_249 (by decide) rfl ?_
          refine e_il6 253 rfl dX10_agree_251 ?_
          first | refine e_if_neB 258 256 (by decide) rfl dX10_agree_253 rfl (fun z8 => ?_) (fun z8 => ?_) | refine e_if_neN 258 256 (by decide) rfl dX10_agree_253 rfl (by omega) (fun z8 => ?_) (fun z8 => ?_) | refine e_if_ne 258 256 (by decide) rfl dX10_agree_253 (fun z8 => ?_) (fun z8 => ?_)
          · exact absurd rfl z8
          refine e_iconst (nI 0) 257 rfl dX10_agree_256 ic_0 ?_
          refine e_iret dX10_agree_257 rfl ?_
          have : fitL X Y = false := by
            cases c : fitL X Y with
            | false => rfl
            | true => rcases (hfi.mp c).1 with w | w; exact absurd w z5; exact absurd w z6
          rw [he, this] at kf
          exact kf
        · exact lst (Or.inr z6)
    exact loop 8 0 (by omega) rfl _ _ _ hq4 hq5 hq6
  -- family names
  obtain ⟨A, hA⟩ : ∃ A, A = pls true 16 (rK S a) 0 := ⟨_, rfl⟩
  obtain ⟨B, hB⟩ : ∃ B, B = pls true 16 (rK S b) 0 := ⟨_, rfl⟩
  have hA8 : A.length ≤ 8 := by rw [hA]; exact plen _ _ a8
  have hB8 : B.length ≤ 8 := by rw [hB]; exact plen _ _ b8
  rw [← hA, ← hB] at kf second
  have bad : wsA (fsN a) A ≠ wsA (fsN b) B → K (some (.int (nI 0))) μ3 := fun h => by
    rw [show decide (wsA (fsN a) A = wsA (fsN b) B) = false from decide_eq_false h, Bool.false_and] at kf
    exact kf
  clear kf
  refine e_iconst (nI 0) 71 rfl dX10_agree_70 ic_0 ?_
  refine e_is3 72 rfl dX10_agree_71 (by decide) rfl ?_
  have loop : ∀ (fu t : Nat), t + fu = 8 → (wsA (fsN a) A = wsA (fsN b) B ↔ wsA (fsN a) (A.drop t) = wsA (fsN b) (B.drop t)) → ∀ q4 q5, nl q4 = true → nl q5 = true → Ev E M_X10_agree 0 0 72 [some (.ref m), some (.int (nI i)), some (.int (nI j)), some (.int (nI t)), q4, q5, none] [] μ3 K := by
    intro fu
    induction fu with
    | zero =>
      intro t ht he q4 q5 hq4 hq5
      refine e_il3 73 rfl dX10_agree_72 ?_
      refine e_bipush (nI 8) 75 rfl dX10_agree_73 bc_8 ?_
      first | refine e_cmp_geN 145 78 (by decide) rfl dX10_agree_75 rfl rfl (by omega) (by omega) (fun y6 => ?_) (fun y6 => ?_) | refine e_cmp_ge 145 78 (by decide) rfl dX10_agree_75 (fun y6 => ?_) (fun y6 => ?_)
      rotate_left
      · omega
      exact second _ _ _ _ (he.mpr (by rw [List.drop_eq_nil_of_le (show A.length ≤ t by omega), List.drop_eq_nil_of_le (show B.length ≤ t by omega)]; rfl)) hq4 hq5 rfl
    | succ fu ih =>
      intro t ht he q4 q5 hq4 hq5
      refine e_il3 73 rfl dX10_agree_72 ?_
      refine e_bipush (nI 8) 75 rfl dX10_agree_73 bc_8 ?_
      first | refine e_cmp_geN 145 78 (by decide) rfl dX10_agree_75 rfl rfl (by omega) (by omega) (fun y6 => ?_) (fun y6 => ?_) | refine e_cmp_ge 145 78 (by decide) rfl dX10_agree_75 (fun y6 => ?_) (fun y6 => ?_)
      · omega
      refine e_al0 79 rfl dX10_agree_78 ?_
      refine e_il1 80 rfl dX10_agree_79 ?_
      refine e_iconst (nI 4) 81 rfl dX10_agree_80 ic_4 ?_
      refine e_iconst (nI 4) 82 rfl dX10_agree_81 ic_4 ?_
      refine e_il3 83 rfl dX10_agree_82 ?_
      refine e_invV0 [_, _, _, _] 86 rfl dX10_agree_83 k_X10_250 mo_X10_wordOf rm_X10_agree_X10_wordOf ⟨rfl, rfl⟩ rfl rfl (by assumption) (Nat.le_of_ble_eq_true rfl) ?_
      refine c_wordOf (bits := 16) hW hM3 hi hsa y3 (by omega) (by decide) (by decide) (by decide) (fun hno => ?_) (fun p hp hpn => ?_)
      · rw [← hA] at hno
        have hAt := List.getElem?_eq_none_iff.mp hno
        refine e_is4 88 rfl dX10_agree_86 (by decide) rfl ?_
        refine e_al0 89 rfl dX10_agree_88 ?_
        refine e_il2 90 rfl dX10_agree_89 ?_
        refine e_iconst (nI 4) 91 rfl dX10_agree_90 ic_4 ?_
        refine e_iconst (nI 4) 92 rfl dX10_agree_91 ic_4 ?_
        refine e_il3 93 rfl dX10_agree_92 ?_
        refine e_invV0 [_, _, _, _] 96 rfl dX10_agree_93 k_X10_250 mo_X10_wordOf rm_X10_agree_X10_wordOf ⟨rfl, rfl⟩ rfl rfl (by assumption) (Nat.le_of_ble_eq_true rfl) ?_
        refine c_wordOf (bits := 16) hW hM3 hj hs3 y4 (by omega) (by decide) (by decide) (by decide) (fun hno2 => ?_) (fun p2 hp2 hpn2 => ?_)
        · rw [← hB] at hno2
          have hBt := List.getElem?_eq_none_iff.mp hno2
          refine e_is5 98 rfl dX10_agree_96 (by decide) rfl ?_
          refine e_il4 100 rfl dX10_agree_98 ?_
          refine e_if_ge 107 103 (by decide) rfl dX10_agree_100 (fun z3 => ?_) (fun z3 => ?_)
          · exact absurd z3 (by decide)
          refine e_iconst (nI 1) 104 rfl dX10_agree_103 ic_1 ?_
          refine e_goto 108 (by decide) dX10_agree_104 ?_
          refine e_il5 110 rfl dX10_agree_108 ?_
          refine e_if_ge 117 113 (by decide) rfl dX10_agree_110 (fun z4 => ?_) (fun z4 => ?_)
          · exact absurd z4 (by decide)
          refine e_iconst (nI 1) 114 rfl dX10_agree_113 ic_1 ?_
          refine e_goto 118 (by decide) dX10_agree_114 ?_
          first | refine e_cmp_neN 137 121 (by decide) rfl dX10_agree_118 rfl rfl (by omega) (by omega) (fun z5 => ?_) (fun z5 => ?_) | refine e_cmp_ne 137 121 (by decide) rfl dX10_agree_118 (fun z5 => ?_) (fun z5 => ?_)
          · exact absurd rfl z5
          refine e_il4 123 rfl dX10_agree_121 ?_
          refine e_if_lt 139 126 (by decide) rfl dX10_agree_123 (fun z6 => ?_) (fun z6 => ?_)
          rotate_left
          · exact absurd (by decide) z6
          refine e_ii3 (nI (_ + 1)) 142 rfl dX10_agree_139 (ii1 _) rfl ?_
          refine e_goto 72 (by decide) dX10_agree_142 ?_
          refine ih (t + 1) (by omega) ?_ _ _ rfl rfl
          rw [he, List.drop_eq_nil_of_le hAt, List.drop_eq_nil_of_le hBt, List.drop_eq_nil_of_le (show A.length ≤ t + 1 by omega), List.drop_eq_nil_of_le (show B.length ≤ t + 1 by omega)]
        · rw [← hB] at hp2
          have hBt := (List.getElem?_eq_some_iff.mp hp2).1
          refine e_is5 98 rfl dX10_agree_96 (by decide) rfl ?_
          refine e_il4 100 rfl dX10_agree_98 ?_
          refine e_if_ge 107 103 (by decide) rfl dX10_agree_100 (fun z3 => ?_) (fun z3 => ?_)
          · exact absurd z3 (by decide)
          refine e_iconst (nI 1) 104 rfl dX10_agree_103 ic_1 ?_
          refine e_goto 108 (by decide) dX10_agree_104 ?_
          refine e_il5 110 rfl dX10_agree_108 ?_
          first | refine e_if_geN 117 113 (by decide) rfl dX10_agree_110 rfl (by omega) ?_ | refine e_if_ge 117 113 (by decide) rfl dX10_agree_110 (fun h => ?_) (fun h => ?_)
          refine e_iconst (nI 0) 118 rfl dX10_agree_117 ic_0 ?_
          first | refine e_cmp_neN 137 121 (by decide) rfl dX10_agree_118 rfl rfl (by omega) (by omega) (fun z5 => ?_) (fun z5 => ?_) | refine e_cmp_ne 137 121 (by decide) rfl dX10_agree_118 (fun z5 => ?_) (fun z5 => ?_)
          rotate_left
          · exact absurd z5 (by decide)
          refine e_iconst (nI 0) 138 rfl dX10_agree_137 ic_0 ?_
          refine e_iret dX10_agree_138 rfl ?_
          refine bad (fun q => ?_)
          have := he.mp q
          rw [List.drop_eq_nil_of_le hAt, List.drop_eq_getElem_cons hBt] at this
          cases this
      rw [← hA] at hp
      obtain ⟨hAt, hAe⟩ := List.getElem?_eq_some_iff.mp hp
      refine e_is4 88 rfl dX10_agree_86 (by decide) rfl ?_
      refine e_al0 89 rfl dX10_agree_88 ?_
      refine e_il2 90 rfl dX10_agree_89 ?_
      refine e_iconst (nI 4) 91 rfl dX10_agree_90 ic_4 ?_
      refine e_iconst (nI 4) 92 rfl dX10_agree_91 ic_4 ?_
      refine e_il3 93 rfl dX10_agree_92 ?_
      refine e_invV0 [_, _, _, _] 96 rfl dX10_agree_93 k_X10_250 mo_X10_wordOf rm_X10_agree_X10_wordOf ⟨rfl, rfl⟩ rfl rfl (by assumption) (Nat.le_of_ble_eq_true rfl) ?_
      refine c_wordOf (bits := 16) hW hM3 hj hs3 y4 (by omega) (by decide) (by decide) (by decide) (fun hno2 => ?_) (fun p2 hp2 hpn2 => ?_)
      · rw [← hB] at hno2
        have hBt := List.getElem?_eq_none_iff.mp hno2
        refine e_is5 98 rfl dX10_agree_96 (by decide) rfl ?_
        refine e_il4 100 rfl dX10_agree_98 ?_
        first | refine e_if_geN 107 103 (by decide) rfl dX10_agree_100 rfl (by omega) ?_ | refine e_if_ge 107 103 (by decide) rfl dX10_agree_100 (fun h => ?_) (fun h => ?_)
        refine e_iconst (nI 0) 108 rfl dX10_agree_107 ic_0 ?_
        refine e_il5 110 rfl dX10_agree_108 ?_
        refine e_if_ge 117 113 (by decide) rfl dX10_agree_110 (fun z4 => ?_) (fun z4 => ?_)
        · exact absurd z4 (by decide)
        refine e_iconst (nI 1) 114 rfl dX10_agree_113 ic_1 ?_
        refine e_goto 118 (by decide) dX10_agree_114 ?_
        first | refine e_cmp_neN 137 121 (by decide) rfl dX10_agree_118 rfl rfl (by omega) (by omega) (fun z5 => ?_) (fun z5 => ?_) | refine e_cmp_ne 137 121 (by decide) rfl dX10_agree_118 (fun z5 => ?_) (fun z5 => ?_)
        rotate_left
        · exact absurd z5 (by decide)
        refine e_iconst (nI 0) 138 rfl dX10_agree_137 ic_0 ?_
        refine e_iret dX10_agree_138 rfl ?_
        refine bad (fun q => ?_)
        have := he.mp q
        rw [List.drop_eq_nil_of_le hBt, List.drop_eq_getElem_cons hAt] at this
        cases this
      rw [← hB] at hp2
      obtain ⟨hBt, hBe⟩ := List.getElem?_eq_some_iff.mp hp2
      obtain ⟨g1, l1, u1⟩ := word a p hpn hwa
      obtain ⟨g2, l2, u2⟩ := word b p2 hpn2 hwb
      have d1 := na3 p _ (List.getElem?_eq_getElem hpn)
      have d2 := nb3 p2 _ (List.getElem?_eq_getElem hpn2)
      obtain ⟨X, hX⟩ : ∃ X, X = foldL a.2[p] := ⟨_, rfl⟩
      obtain ⟨Y, hY⟩ : ∃ Y, Y = foldL b.2[p2] := ⟨_, rfl⟩
      have hXr : ∀ c ∈ X, 97 ≤ c ∧ c ≤ 122 := by rw [hX]; exact foldL_r
      have hYr : ∀ c ∈ Y, 97 ≤ c ∧ c ≤ 122 := by rw [hY]; exact foldL_r
      have st : wsA (fsN a) (A.drop t) = wsA (fsN b) (B.drop t) ↔ X = Y ∧ wsA (fsN a) (A.drop (t + 1)) = wsA (fsN b) (B.drop (t + 1)) := by
        rw [List.drop_eq_getElem_cons hAt, List.drop_eq_getElem_cons hBt, hAe, hBe]
        unfold wsA
        rw [List.map_cons, List.map_cons, g1, g2, ← hX, ← hY, List.cons.injEq]
      have hbd := cmpL_bd X Y (by rw [hX]; exact u1) (by rw [hY]; exact u2) (fun c hc => by have := hXr c hc; omega) (fun c hc => by have := hYr c hc; omega)
      have hsg := ofInt_sg hbd.1 hbd.2
      refine e_is5 98 rfl dX10_agree_96 (by decide) rfl ?_
      refine e_il4 100 rfl dX10_agree_98 ?_
      first | refine e_if_geN 107 103 (by decide) rfl dX10_agree_100 rfl (by omega) ?_ | refine e_if_ge 107 103 (by decide) rfl dX10_agree_100 (fun h => ?_) (fun h => ?_)
      refine e_iconst (nI 0) 108 rfl dX10_agree_107 ic_0 ?_
      refine e_il5 110 rfl dX10_agree_108 ?_
      first | refine e_if_geN 117 113 (by decide) rfl dX10_agree_110 rfl (by omega) ?_ | refine e_if_ge 117 113 (by decide) rfl dX10_agree_110 (fun h => ?_) (fun h => ?_)
      refine e_iconst (nI 0) 118 rfl dX10_agree_117 ic_0 ?_
      first | refine e_cmp_neN 137 121 (by decide) rfl dX10_agree_118 rfl rfl (by omega) (by omega) (fun z5 => ?_) (fun z5 => ?_) | refine e_cmp_ne 137 121 (by decide) rfl dX10_agree_118 (fun z5 => ?_) (fun z5 => ?_)
      · exact absurd rfl z5
      refine e_il4 123 rfl dX10_agree_121 ?_
      first | refine e_if_ltN 139 126 (by decide) rfl dX10_agree_123 rfl (by omega) ?_ | refine e_if_lt 139 126 (by decide) rfl dX10_agree_123 (fun h => ?_) (fun h => ?_)
      refine e_al0 127 rfl dX10_agree_126 ?_
      refine e_il4 129 rfl dX10_agree_127 ?_
      refine e_il5 131 rfl dX10_agree_129 ?_
      refine e_invV0 [_, _] 134 rfl dX10_agree_131 k_X10_222 mo_X10_compare rm_X10_agree_X10_compare ⟨rfl, rfl⟩ rfl rfl (by assumption) (Nat.le_of_ble_eq_true rfl) ?_
      refine c_mCompare hM3.1 (by omega) (by omega) d1 d2 u1 u2 ?_
      rw [← hX, ← hY]
      refine e_if_eq 139 137 (by decide) rfl dX10_agree_134 (fun z6 => ?_) (fun z6 => ?_)
      · have e := (cmpL_zero X Y).mp (hsg.1.mp z6)
        refine e_ii3 (nI (_ + 1)) 142 rfl dX10_agree_139 (ii1 _) rfl ?_
        refine e_goto 72 (by decide) dX10_agree_142 ?_
        exact ih (t + 1) (by omega) (he.trans (st.trans ⟨fun q => q.2, fun q => ⟨e, q⟩⟩)) _ _ rfl rfl
      · refine e_iconst (nI 0) 138 rfl dX10_agree_137 ic_0 ?_
        refine e_iret dX10_agree_138 rfl ?_
        exact bad (fun q => z6 (hsg.1.mpr ((cmpL_zero X Y).mpr (st.mp (he.mp q)).1)))
  exact loop 8 0 (by omega) Iff.rfl _ _ rfl rfl
end MAGREE
