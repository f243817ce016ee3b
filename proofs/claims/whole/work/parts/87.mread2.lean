/-! NameDeskModel: reading, readings, cost, kind, first -/
section MREAD2
variable {E : En} {μ : Mm} {K : Option Value → Mm → Prop}
/-- the rows that lie there, as the readings -/
theorem mRw.at {m : Nat} {T : List Rw} (h : mRw μ m (T.map pr2)) : mF μ m 44 = nI T.length ∧ ∀ (j : Nat) (hj : j < T.length), mA μ (m + 33) j = nI T[j].1 ∧ mA μ (m + 32) j = nI T[j].2.1 := by
  refine ⟨by rw [← List.length_map (f := pr2)]; exact h.1, fun j hj => ?_⟩
  exact h.2 j (pr2 T[j]) (by rw [List.getElem?_map, List.getElem?_eq_getElem hj]; rfl)
theorem c_reading {m i : Nat} {r : Int32} {S : Ast} {nm : Nm} (hW : WF S) (hM : MI m S μ) (hi : (aN S)[i]? = some nm)
    (kn : rowAt (rdT (aS S nm.1) (aB S) nm) r = none → ∀ μ', Fr (flS m) μ μ' → (∀ g, g ≠ 44 → mF μ' m g = mF μ m g) → mRw μ' m ((rdT (aS S nm.1) (aB S) nm).map pr2) → K (some (.int (-1))) μ')
    (ks : ∀ j y, (rdT (aS S nm.1) (aB S) nm)[j]? = some y → rowAt (rdT (aS S nm.1) (aB S) nm) r = some y → ∀ μ', Fr (flS m) μ μ' → (∀ g, g ≠ 44 → mF μ' m g = mF μ m g) → mRw μ' m ((rdT (aS S nm.1) (aB S) nm).map pr2) → K (some (.int (nI j))) μ') : Cl E M_X10_reading [.ref m, .int (nI i), .int r] μ K := by
  have mk := hM.1.1
  have hwf := hW.2.2.2.1.2 nm (List.mem_of_getElem? hi)
  obtain ⟨hok, hlen⟩ := rdT_ok (nm := nm) hW hwf.2.2.1
  refine Cl.of0 4 pn_X10 (Nat.le_of_ble_eq_true rfl) ⟨rfl, rfl⟩ rfl ?_
  refine e_al0 1 rfl dX10_reading_0 ?_
  refine e_il1 2 rfl dX10_reading_1 ?_
  refine e_invV0 [_] 5 rfl dX10_reading_2 k_X10_206 mo_X10_fill rm_X10_reading_X10_fill ⟨rfl, rfl⟩ rfl rfl (by assumption) (Nat.le_of_ble_eq_true rfl) ?_
  refine c_fill hW hM hi (fun μ1 hF1 hf1 hR1 => ?_)
  replace kn := fun h => kn h μ1 hF1 hf1 hR1
  replace ks := fun j y h h' => ks j y h h' μ1 hF1 hf1 hR1
  obtain ⟨h44, hrow⟩ := hR1.at
  generalize rdT (aS S nm.1) (aB S) nm = T at hok hlen kn ks h44 hrow
  have hg1 := hM.1.fr hF1
  have mk1 := hg1.1
  obtain ⟨pc, kc, lc⟩ := hg1.rowCost
  have hSR := SR_len hok
  unfold rowAt at kn ks
  rcases iN_cases r with ⟨hr, qr⟩ | ⟨R, hR31, hr, qr⟩
  · rw [qr] at kn
    refine e_il2 6 rfl dX10_reading_5 ?_
    refine e_if_lt 17 9 (by decide) rfl dX10_reading_6 (fun y1 => ?_) (fun y1 => ?_)
    · refine e_iconst (-1) 18 rfl dX10_reading_17 ic_m1 ?_
      refine e_iret dX10_reading_18 rfl ?_
      exact kn rfl
    · exact absurd hr y1
  subst hr
  rw [qr] at kn ks
  have kn' : (SRr T 41)[R]? = none → K (some (.int (-1))) μ1 := kn
  have ks' : ∀ j y, T[j]? = some y → (SRr T 41)[R]? = some y → K (some (.int (nI j))) μ1 := ks
  clear kn ks
  refine e_il2 6 rfl dX10_reading_5 ?_
  first | refine e_if_ltN 17 9 (by decide) rfl dX10_reading_6 rfl (by omega) ?_ | refine e_if_lt 17 9 (by decide) rfl dX10_reading_6 (fun h => ?_) (fun h => ?_)
  refine e_il2 10 rfl dX10_reading_9 ?_
  refine e_al0 11 rfl dX10_reading_10 ?_
  first | refine e_getIv 14 rfl dX10_reading_11 f_X10_192 (by assumption) (by first | assumption | (simp only [mN_sF, mK_sF, mL_sF, mF_sF, mB_sF, mA_sF, mJ_sF, mP_sF, mO_sF, mN_sB, mK_sB, mL_sB, mF_sB, mB_sB, mA_sB, mJ_sB, mP_sB, mO_sB, mN_sA, mK_sA, mL_sA, mF_sA, mB_sA, mA_sA, mJ_sA, mP_sA, mO_sA, mN_sJ, mK_sJ, mL_sJ, mF_sJ, mB_sJ, mA_sJ, mJ_sJ, mP_sJ, mO_sJ, mN_sP, mK_sP, mL_sP, mF_sP, mB_sP, mA_sP, mJ_sP, mP_sP, mO_sP, mN_sO, mK_sO, mL_sO, mF_sO, mB_sO, mA_sO, mJ_sO, mP_sO, mO_sO, up2, if_true, if_false, eq_self, ite_true, ite_false, reduceIte, Nat.add_left_cancel_iff, Nat.add_eq_left, Nat.left_eq_add, Nat.reduceEqDiff]; assumption) | (simp only [mN_sF, mK_sF, mL_sF, mF_sF, mB_sF, mA_sF, mJ_sF, mP_sF, mO_sF, mN_sB, mK_sB, mL_sB, mF_sB, mB_sB, mA_sB, mJ_sB, mP_sB, mO_sB, mN_sA, mK_sA, mL_sA, mF_sA, mB_sA, mA_sA, mJ_sA, mP_sA, mO_sA, mN_sJ, mK_sJ, mL_sJ, mF_sJ, mB_sJ, mA_sJ, mJ_sJ, mP_sJ, mO_sJ, mN_sP, mK_sP, mL_sP, mF_sP, mB_sP, mA_sP, mJ_sP, mP_sP, mO_sP, mN_sO, mK_sO, mL_sO, mF_sO, mB_sO, mA_sO, mJ_sO, mP_sO, mO_sO, up2, if_true, if_false, eq_self, ite_true, ite_false, reduceIte, Nat.add_left_cancel_iff, Nat.add_eq_left, Nat.left_eq_add, Nat.reduceEqDiff]; done)) ?_ | refine e_getI 14 rfl dX10_reading_11 f_X10_192 (by assumption) ?_
  first | refine e_cmp_ltN 19 17 (by decide) rfl dX10_reading_14 rfl rfl (by omega) (by omega) (fun y2 => ?_) (fun y2 => ?_) | refine e_cmp_lt 19 17 (by decide) rfl dX10_reading_14 (fun y2 => ?_) (fun y2 => ?_)
  rotate_left
  · refine e_iconst (-1) 18 rfl dX10_reading_17 ic_m1 ?_
    refine e_iret dX10_reading_18 rfl ?_
    exact kn' (List.getElem?_eq_none (by omega))
  refine e_il2 20 rfl dX10_reading_19 ?_
  refine e_is3 21 rfl dX10_reading_20 (by decide) rfl ?_
  refine e_iconst (nI 0) 22 rfl dX10_reading_21 ic_0 ?_
  refine e_is4 24 rfl dX10_reading_22 (by decide) rfl ?_
  refine e_iconst (nI 0) 25 rfl dX10_reading_24 ic_0 ?_
  refine e_is5 27 rfl dX10_reading_25 (by decide) rfl ?_
  have hcost : ∀ x ∈ T, x.1 ≤ 40 := fun x hx => by have := (hok x hx).1; omega
  -- the search
  have search : ∀ mo, mo ≤ 40 → (∀ x ∈ T, x.1 ≤ mo) → ∀ q5 q6, Ev E M_X10_reading 0 0 68 [some (.ref m), some (.int (nI i)), some (.int (nI R)), some (.int (nI R)), some (.int (nI mo)), q5, q6] [] μ1 K := by
    intro mo hmo hmx q5 q6
    have cs : ∀ (fu c : Nat), c + fu = mo + 1 → ∀ lf, cL T c + lf = R → ∀ q6, Ev E M_X10_reading 0 0 71 [some (.ref m), some (.int (nI i)), some (.int (nI R)), some (.int (nI lf)), some (.int (nI mo)), some (.int (nI c)), q6] [] μ1 K := by
      intro fu
      induction fu with
      | zero =>
        intro c hc lf hlf q6
        exfalso
        have : cL T c = T.length := cL_all (fun x hx => by have := hmx x hx; omega)
        omega
      | succ fu ih =>
        intro c hc lf hlf q6
        refine e_il5 73 rfl dX10_reading_71 ?_
        refine e_il4 75 rfl dX10_reading_73 ?_
        first | refine e_cmp_gtN 127 78 (by decide) rfl dX10_reading_75 rfl rfl (by omega) (by omega) (fun y3 => ?_) (fun y3 => ?_) | refine e_cmp_gt 127 78 (by decide) rfl dX10_reading_75 (fun y3 => ?_) (fun y3 => ?_)
        · omega
        refine e_iconst (nI 0) 79 rfl dX10_reading_78 ic_0 ?_
        refine e_is6 81 rfl dX10_reading_79 (by decide) rfl ?_
        have js : ∀ (gu j : Nat), j + gu = T.length → ∀ lf, cL T c + cE (T.take j) c + lf = R → Ev E M_X10_reading 0 0 81 [some (.ref m), some (.int (nI i)), some (.int (nI R)), some (.int (nI lf)), some (.int (nI mo)), some (.int (nI c)), some (.int (nI j))] [] μ1 K := by
          intro gu
          induction gu with
          | zero =>
            intro j hj lf hlf
            refine e_il6 83 rfl dX10_reading_81 ?_
            refine e_al0 84 rfl dX10_reading_83 ?_
            first | refine e_getIv 87 rfl dX10_reading_84 f_X10_192 (by assumption) (by first | assumption | (simp only [mN_sF, mK_sF, mL_sF, mF_sF, mB_sF, mA_sF, mJ_sF, mP_sF, mO_sF, mN_sB, mK_sB, mL_sB, mF_sB, mB_sB, mA_sB, mJ_sB, mP_sB, mO_sB, mN_sA, mK_sA, mL_sA, mF_sA, mB_sA, mA_sA, mJ_sA, mP_sA, mO_sA, mN_sJ, mK_sJ, mL_sJ, mF_sJ, mB_sJ, mA_sJ, mJ_sJ, mP_sJ, mO_sJ, mN_sP, mK_sP, mL_sP, mF_sP, mB_sP, mA_sP, mJ_sP, mP_sP, mO_sP, mN_sO, mK_sO, mL_sO, mF_sO, mB_sO, mA_sO, mJ_sO, mP_sO, mO_sO, up2, if_true, if_false, eq_self, ite_true, ite_false, reduceIte, Nat.add_left_cancel_iff, Nat.add_eq_left, Nat.left_eq_add, Nat.reduceEqDiff]; assumption) | (simp only [mN_sF, mK_sF, mL_sF, mF_sF, mB_sF, mA_sF, mJ_sF, mP_sF, mO_sF, mN_sB, mK_sB, mL_sB, mF_sB, mB_sB, mA_sB, mJ_sB, mP_sB, mO_sB, mN_sA, mK_sA, mL_sA, mF_sA, mB_sA, mA_sA, mJ_sA, mP_sA, mO_sA, mN_sJ, mK_sJ, mL_sJ, mF_sJ, mB_sJ, mA_sJ, mJ_sJ, mP_sJ, mO_sJ, mN_sP, mK_sP, mL_sP, mF_sP, mB_sP, mA_sP, mJ_sP, mP_sP, mO_sP, mN_sO, mK_sO, mL_sO, mF_sO, mB_sO, mA_sO, mJ_sO, mP_sO, mO_sO, up2, if_true, if_false, eq_self, ite_true, ite_false, reduceIte, Nat.add_left_cancel_iff, Nat.add_eq_left, Nat.left_eq_add, Nat.reduceEqDiff]; done)) ?_ | refine e_getI 87 rfl dX10_reading_84 f_X10_192 (by assumption) ?_
            first | refine e_cmp_geN 121 90 (by decide) rfl dX10_reading_87 rfl rfl (by omega) (by omega) (fun y4 => ?_) (fun y4 => ?_) | refine e_cmp_ge 121 90 (by decide) rfl dX10_reading_87 (fun y4 => ?_) (fun y4 => ?_)
            rotate_left
            · omega
            refine e_ii5 (nI (_ + 1)) 124 rfl dX10_reading_121 (ii1 _) rfl ?_
            refine e_goto 71 (by decide) dX10_reading_124 ?_
            refine ih (c + 1) (by omega) lf ?_ _
            rw [cL_s]
            rw [List.take_of_length_le (by omega)] at hlf
            exact hlf
          | succ gu ihj =>
            intro j hj lf hlf
            have hjl : j < T.length := by omega
            have v := (hrow j hjl).1
            have h40 := hcost _ (List.getElem_mem hjl)
            have hst := cE_take hjl c
            refine e_il6 83 rfl dX10_reading_81 ?_
            refine e_al0 84 rfl dX10_reading_83 ?_
            first | refine e_getIv 87 rfl dX10_reading_84 f_X10_192 (by assumption) (by first | assumption | (simp only [mN_sF, mK_sF, mL_sF, mF_sF, mB_sF, mA_sF, mJ_sF, mP_sF, mO_sF, mN_sB, mK_sB, mL_sB, mF_sB, mB_sB, mA_sB, mJ_sB, mP_sB, mO_sB, mN_sA, mK_sA, mL_sA, mF_sA, mB_sA, mA_sA, mJ_sA, mP_sA, mO_sA, mN_sJ, mK_sJ, mL_sJ, mF_sJ, mB_sJ, mA_sJ, mJ_sJ, mP_sJ, mO_sJ, mN_sP, mK_sP, mL_sP, mF_sP, mB_sP, mA_sP, mJ_sP, mP_sP, mO_sP, mN_sO, mK_sO, mL_sO, mF_sO, mB_sO, mA_sO, mJ_sO, mP_sO, mO_sO, up2, if_true, if_false, eq_self, ite_true, ite_false, reduceIte, Nat.add_left_cancel_iff, Nat.add_eq_left, Nat.left_eq_add, Nat.reduceEqDiff]; assumption) | (simp only [mN_sF, mK_sF, mL_sF, mF_sF, mB_sF, mA_sF, mJ_sF, mP_sF, mO_sF, mN_sB, mK_sB, mL_sB, mF_sB, mB_sB, mA_sB, mJ_sB, mP_sB, mO_sB, mN_sA, mK_sA, mL_sA, mF_sA, mB_sA, mA_sA, mJ_sA, mP_sA, mO_sA, mN_sJ, mK_sJ, mL_sJ, mF_sJ, mB_sJ, mA_sJ, mJ_sJ, mP_sJ, mO_sJ, mN_sP, mK_sP, mL_sP, mF_sP, mB_sP, mA_sP, mJ_sP, mP_sP, mO_sP, mN_sO, mK_sO, mL_sO, mF_sO, mB_sO, mA_sO, mJ_sO, mP_sO, mO_sO, up2, if_true, if_false, eq_self, ite_true, ite_false, reduceIte, Nat.add_left_cancel_iff, Nat.add_eq_left, Nat.left_eq_add, Nat.reduceEqDiff]; done)) ?_ | refine e_getI 87 rfl dX10_reading_84 f_X10_192 (by assumption) ?_
            first | refine e_cmp_geN 121 90 (by decide) rfl dX10_reading_87 rfl rfl (by omega) (by omega) (fun y4 => ?_) (fun y4 => ?_) | refine e_cmp_ge 121 90 (by decide) rfl dX10_reading_87 (fun y4 => ?_) (fun y4 => ?_)
            · omega
            refine e_al0 91 rfl dX10_reading_90 ?_
            refine e_getR 94 rfl dX10_reading_91 f_X10_111 (by assumption) (by assumption) ?_
            refine e_il6 96 rfl dX10_reading_94 ?_
            first | refine e_ialdv 97 rfl dX10_reading_96 (by assumption) (by assumption) (by first | rfl | simp only [pk_mul, nI_add]) (by omega) (by omega) (by first | assumption | (simp only [mN_sF, mK_sF, mL_sF, mF_sF, mB_sF, mA_sF, mJ_sF, mP_sF, mO_sF, mN_sB, mK_sB, mL_sB, mF_sB, mB_sB, mA_sB, mJ_sB, mP_sB, mO_sB, mN_sA, mK_sA, mL_sA, mF_sA, mB_sA, mA_sA, mJ_sA, mP_sA, mO_sA, mN_sJ, mK_sJ, mL_sJ, mF_sJ, mB_sJ, mA_sJ, mJ_sJ, mP_sJ, mO_sJ, mN_sP, mK_sP, mL_sP, mF_sP, mB_sP, mA_sP, mJ_sP, mP_sP, mO_sP, mN_sO, mK_sO, mL_sO, mF_sO, mB_sO, mA_sO, mJ_sO, mP_sO, mO_sO, up2, if_true, if_false, eq_self, ite_true, ite_false, reduceIte, Nat.add_left_cancel_iff, Nat.add_eq_left, Nat.left_eq_add, Nat.reduceEqDiff]; assumption) | (simp only [mN_sF, mK_sF, mL_sF, mF_sF, mB_sF, mA_sF, mJ_sF, mP_sF, mO_sF, mN_sB, mK_sB, mL_sB, mF_sB, mB_sB, mA_sB, mJ_sB, mP_sB, mO_sB, mN_sA, mK_sA, mL_sA, mF_sA, mB_sA, mA_sA, mJ_sA, mP_sA, mO_sA, mN_sJ, mK_sJ, mL_sJ, mF_sJ, mB_sJ, mA_sJ, mJ_sJ, mP_sJ, mO_sJ, mN_sP, mK_sP, mL_sP, mF_sP, mB_sP, mA_sP, mJ_sP, mP_sP, mO_sP, mN_sO, mK_sO, mL_sO, mF_sO, mB_sO, mA_sO, mJ_sO, mP_sO, mO_sO, up2, if_true, if_false, eq_self, ite_true, ite_false, reduceIte, Nat.add_left_cancel_iff, Nat.add_eq_left, Nat.left_eq_add, Nat.reduceEqDiff]; done)) ?_ | refine e_iald 97 rfl dX10_reading_96 (by assumption) (by assumption) (by first | rfl | simp only [pk_mul, nI_add]) (by omega) (by omega) ?_
            refine e_il5 99 rfl dX10_reading_97 ?_
            first | refine e_cmp_eqN 105 102 (by decide) rfl dX10_reading_99 rfl rfl (by omega) (by omega) (fun y5 => ?_) (fun y5 => ?_) | refine e_cmp_eq 105 102 (by decide) rfl dX10_reading_99 (fun y5 => ?_) (fun y5 => ?_)
            · rw [if_pos y5] at hst
              cases lf with
              | zero =>
                refine e_il3 106 rfl dX10_reading_105 ?_
                first | refine e_if_neB 112 109 (by decide) rfl dX10_reading_106 rfl (fun y6 => ?_) (fun y6 => ?_) | refine e_if_neN 112 109 (by decide) rfl dX10_reading_106 rfl (by omega) (fun y6 => ?_) (fun y6 => ?_) | refine e_if_ne 112 109 (by decide) rfl dX10_reading_106 (fun y6 => ?_) (fun y6 => ?_)
                · exact absurd rfl y6
                refine e_il6 111 rfl dX10_reading_109 ?_
                refine e_iret dX10_reading_111 rfl ?_
                refine ks' j T[j] (List.getElem?_eq_getElem hjl) ?_
                have := SRr_at (List.getElem?_eq_getElem hjl) 41 (by omega)
                rw [y5, show cL T c + cE (T.take j) c = R by omega] at this
                exact this
              | succ lf =>
                refine e_il3 106 rfl dX10_reading_105 ?_
                first | refine e_if_neB 112 109 (by decide) rfl dX10_reading_106 rfl (fun y6 => ?_) (fun y6 => ?_) | refine e_if_neN 112 109 (by decide) rfl dX10_reading_106 rfl (by omega) (fun y6 => ?_) (fun y6 => ?_) | refine e_if_ne 112 109 (by decide) rfl dX10_reading_106 (fun y6 => ?_) (fun y6 => ?_)
                rotate_left
                · omega
                refine e_ii3 (nI _) 115 rfl dX10_reading_112 (iim1 _) rfl ?_
                refine e_ii6 (nI (_ + 1)) 118 rfl dX10_reading_115 (ii1 _) rfl ?_
                refine e_goto 81 (by decide) dX10_reading_118 ?_
                exact ihj (j + 1) (by omega) lf (by omega)
            · rw [if_neg y5] at hst
              refine e_goto 115 (by decide) dX10_reading_102 ?_
              refine e_ii6 (nI (_ + 1)) 118 rfl dX10_reading_115 (ii1 _) rfl ?_
              refine e_goto 81 (by decide) dX10_reading_118 ?_
              exact ihj (j + 1) (by omega) lf (by omega)
        exact js T.length 0 (by omega) lf (by rw [List.take_zero]; show cL T c + 0 + lf = R; omega)
    refine e_iconst (nI 0) 69 rfl dX10_reading_68 ic_0 ?_
    refine e_is5 71 rfl dX10_reading_69 (by decide) rfl ?_
    exact cs (mo + 1) 0 (by omega) R (by rw [cL_0]; omega) _
  have most : ∀ (fu j : Nat), j + fu = T.length → ∀ mo, mo ≤ 40 → (∀ x ∈ T.take j, x.1 ≤ mo) → Ev E M_X10_reading 0 0 27 [some (.ref m), some (.int (nI i)), some (.int (nI R)), some (.int (nI R)), some (.int (nI mo)), some (.int (nI j)), none] [] μ1 K := by
    intro fu
    induction fu with
    | zero =>
      intro j hj mo hmo hmx
      refine e_il5 29 rfl dX10_reading_27 ?_
      refine e_al0 30 rfl dX10_reading_29 ?_
      first | refine e_getIv 33 rfl dX10_reading_30 f_X10_192 (by assumption) (by first | assumption | (simp only [mN_sF, mK_sF, mL_sF, mF_sF, mB_sF, mA_sF, mJ_sF, mP_sF, mO_sF, mN_sB, mK_sB, mL_sB, mF_sB, mB_sB, mA_sB, mJ_sB, mP_sB, mO_sB, mN_sA, mK_sA, mL_sA, mF_sA, mB_sA, mA_sA, mJ_sA, mP_sA, mO_sA, mN_sJ, mK_sJ, mL_sJ, mF_sJ, mB_sJ, mA_sJ, mJ_sJ, mP_sJ, mO_sJ, mN_sP, mK_sP, mL_sP, mF_sP, mB_sP, mA_sP, mJ_sP, mP_sP, mO_sP, mN_sO, mK_sO, mL_sO, mF_sO, mB_sO, mA_sO, mJ_sO, mP_sO, mO_sO, up2, if_true, if_false, eq_self, ite_true, ite_false, reduceIte, Nat.add_left_cancel_iff, Nat.add_eq_left, Nat.left_eq_add, Nat.reduceEqDiff]; assumption) | (simp only [mN_sF, mK_sF, mL_sF, mF_sF, mB_sF, mA_sF, mJ_sF, mP_sF, mO_sF, mN_sB, mK_sB, mL_sB, mF_sB, mB_sB, mA_sB, mJ_sB, mP_sB, mO_sB, mN_sA, mK_sA, mL_sA, mF_sA, mB_sA, mA_sA, mJ_sA, mP_sA, mO_sA, mN_sJ, mK_sJ, mL_sJ, mF_sJ, mB_sJ, mA_sJ, mJ_sJ, mP_sJ, mO_sJ, mN_sP, mK_sP, mL_sP, mF_sP, mB_sP, mA_sP, mJ_sP, mP_sP, mO_sP, mN_sO, mK_sO, mL_sO, mF_sO, mB_sO, mA_sO, mJ_sO, mP_sO, mO_sO, up2, if_true, if_false, eq_self, ite_true, ite_false, reduceIte, Nat.add_left_cancel_iff, Nat.add_eq_left, Nat.left_eq_add, Nat.reduceEqDiff]; done)) ?_ | refine e_getI 33 rfl dX10_reading_30 f_X10_192 (by assumption) ?_
      first | refine e_cmp_geN 68 36 (by decide) rfl dX10_reading_33 rfl rfl (by omega) (by omega) (fun y3 => ?_) (fun y3 => ?_) | refine e_cmp_ge 68 36 (by decide) rfl dX10_reading_33 (fun y3 => ?_) (fun y3 => ?_)
      rotate_left
      · omega
      rw [List.take_of_length_le (by omega)] at hmx
      exact search mo hmo hmx _ _
    | succ fu ih =>
      intro j hj mo hmo hmx
      have hjl : j < T.length := by omega
      have v := (hrow j hjl).1
      have h40 := hcost _ (List.getElem_mem hjl)
      have up : ∀ mo', mo' ≤ 40 → mo ≤ mo' → T[j].1 ≤ mo' → Ev E M_X10_reading 0 0 60 [some (.ref m), some (.int (nI i)), some (.int (nI R)), some (.int (nI R)), some (.int (nI mo)), some (.int (nI j)), none] [.int (nI mo')] μ1 K := by
        intro mo' h1 h2 h3
        refine e_is4 62 rfl dX10_reading_60 (by decide) rfl ?_
        refine e_ii5 (nI (_ + 1)) 65 rfl dX10_reading_62 (ii1 _) rfl ?_
        refine e_goto 27 (by decide) dX10_reading_65 ?_
        refine ih (j + 1) (by omega) mo' h1 (fun x hx => ?_)
        rw [List.take_succ_eq_append_getElem hjl] at hx
        rcases List.mem_append.mp hx with q | q
        · have := hmx x q; omega
        · simp at q; rw [q]; exact h3
      refine e_il5 29 rfl dX10_reading_27 ?_
      refine e_al0 30 rfl dX10_reading_29 ?_
      first | refine e_getIv 33 rfl dX10_reading_30 f_X10_192 (by assumption) (by first | assumption | (simp only [mN_sF, mK_sF, mL_sF, mF_sF, mB_sF, mA_sF, mJ_sF, mP_sF, mO_sF, mN_sB, mK_sB, mL_sB, mF_sB, mB_sB, mA_sB, mJ_sB, mP_sB, mO_sB, mN_sA, mK_sA, mL_sA, mF_sA, mB_sA, mA_sA, mJ_sA, mP_sA, mO_sA, mN_sJ, mK_sJ, mL_sJ, mF_sJ, mB_sJ, mA_sJ, mJ_sJ, mP_sJ, mO_sJ, mN_sP, mK_sP, mL_sP, mF_sP, mB_sP, mA_sP, mJ_sP, mP_sP, mO_sP, mN_sO, mK_sO, mL_sO, mF_sO, mB_sO, mA_sO, mJ_sO, mP_sO, mO_sO, up2, if_true, if_false, eq_self, ite_true, ite_false, reduceIte, Nat.add_left_cancel_iff, Nat.add_eq_left, Nat.left_eq_add, Nat.reduceEqDiff]; assumption) | (simp only [mN_sF, mK_sF, mL_sF, mF_sF, mB_sF, mA_sF, mJ_sF, mP_sF, mO_sF, mN_sB, mK_sB, mL_sB, mF_sB, mB_sB, mA_sB, mJ_sB, mP_sB, mO_sB, mN_sA, mK_sA, mL_sA, mF_sA, mB_sA, mA_sA, mJ_sA, mP_sA, mO_sA, mN_sJ, mK_sJ, mL_sJ, mF_sJ, mB_sJ, mA_sJ, mJ_sJ, mP_sJ, mO_sJ, mN_sP, mK_sP, mL_sP, mF_sP, mB_sP, mA_sP, mJ_sP, mP_sP, mO_sP, mN_sO, mK_sO, mL_sO, mF_sO, mB_sO, mA_sO, mJ_sO, mP_sO, mO_sO, up2, if_true, if_false, eq_self, ite_true, ite_false, reduceIte, Nat.add_left_cancel_iff, Nat.add_eq_left, Nat.left_eq_add, Nat.reduceEqDiff]; done)) ?_ | refine e_getI 33 rfl dX10_reading_30 f_X10_192 (by assumption) ?_
      first | refine e_cmp_geN 68 36 (by decide) rfl dX10_reading_33 rfl rfl (by omega) (by omega) (fun y3 => ?_) (fun y3 => ?_) | refine e_cmp_ge 68 36 (by decide) rfl dX10_reading_33 (fun y3 => ?_) (fun y3 => ?_)
      · omega
      refine e_al0 37 rfl dX10_reading_36 ?_
      refine e_getR 40 rfl dX10_reading_37 f_X10_111 (by assumption) (by assumption) ?_
      refine e_il5 42 rfl dX10_reading_40 ?_
      first | refine e_ialdv 43 rfl dX10_reading_42 (by assumption) (by assumption) (by first | rfl | simp only [pk_mul, nI_add]) (by omega) (by omega) (by first | assumption | (simp only [mN_sF, mK_sF, mL_sF, mF_sF, mB_sF, mA_sF, mJ_sF, mP_sF, mO_sF, mN_sB, mK_sB, mL_sB, mF_sB, mB_sB, mA_sB, mJ_sB, mP_sB, mO_sB, mN_sA, mK_sA, mL_sA, mF_sA, mB_sA, mA_sA, mJ_sA, mP_sA, mO_sA, mN_sJ, mK_sJ, mL_sJ, mF_sJ, mB_sJ, mA_sJ, mJ_sJ, mP_sJ, mO_sJ, mN_sP, mK_sP, mL_sP, mF_sP, mB_sP, mA_sP, mJ_sP, mP_sP, mO_sP, mN_sO, mK_sO, mL_sO, mF_sO, mB_sO, mA_sO, mJ_sO, mP_sO, mO_sO, up2, if_true, if_false, eq_self, ite_true, ite_false, reduceIte, Nat.add_left_cancel_iff, Nat.add_eq_left, Nat.left_eq_add, Nat.reduceEqDiff]; assumption) | (simp only [mN_sF, mK_sF, mL_sF, mF_sF, mB_sF, mA_sF, mJ_sF, mP_sF, mO_sF, mN_sB, mK_sB, mL_sB, mF_sB, mB_sB, mA_sB, mJ_sB, mP_sB, mO_sB, mN_sA, mK_sA, mL_sA, mF_sA, mB_sA, mA_sA, mJ_sA, mP_sA, mO_sA, mN_sJ, mK_sJ, mL_sJ, mF_sJ, mB_sJ, mA_sJ, mJ_sJ, mP_sJ, mO_sJ, mN_sP, mK_sP, mL_sP, mF_sP, mB_sP, mA_sP, mJ_sP, mP_sP, mO_sP, mN_sO, mK_sO, mL_sO, mF_sO, mB_sO, mA_sO, mJ_sO, mP_sO, mO_sO, up2, if_true, if_false, eq_self, ite_true, ite_false, reduceIte, Nat.add_left_cancel_iff, Nat.add_eq_left, Nat.left_eq_add, Nat.reduceEqDiff]; done)) ?_ | refine e_iald 43 rfl dX10_reading_42 (by assumption) (by assumption) (by first | rfl | simp only [pk_mul, nI_add]) (by omega) (by omega) ?_
      refine e_il4 45 rfl dX10_reading_43 ?_
      first | refine e_cmp_leN 58 48 (by decide) rfl dX10_reading_45 rfl rfl (by omega) (by omega) (fun y4 => ?_) (fun y4 => ?_) | refine e_cmp_le 58 48 (by decide) rfl dX10_reading_45 (fun y4 => ?_) (fun y4 => ?_)
      · refine e_il4 60 rfl dX10_reading_58 ?_
        exact up mo hmo (Nat.le_refl _) y4
      · refine e_al0 49 rfl dX10_reading_48 ?_
        refine e_getR 52 rfl dX10_reading_49 f_X10_111 (by assumption) (by assumption) ?_
        refine e_il5 54 rfl dX10_reading_52 ?_
        first | refine e_ialdv 55 rfl dX10_reading_54 (by assumption) (by assumption) (by first | rfl | simp only [pk_mul, nI_add]) (by omega) (by omega) (by first | assumption | (simp only [mN_sF, mK_sF, mL_sF, mF_sF, mB_sF, mA_sF, mJ_sF, mP_sF, mO_sF, mN_sB, mK_sB, mL_sB, mF_sB, mB_sB, mA_sB, mJ_sB, mP_sB, mO_sB, mN_sA, mK_sA, mL_sA, mF_sA, mB_sA, mA_sA, mJ_sA, mP_sA, mO_sA, mN_sJ, mK_sJ, mL_sJ, mF_sJ, mB_sJ, mA_sJ, mJ_sJ, mP_sJ, mO_sJ, mN_sP, mK_sP, mL_sP, mF_sP, mB_sP, mA_sP, mJ_sP, mP_sP, mO_sP, mN_sO, mK_sO, mL_sO, mF_sO, mB_sO, mA_sO, mJ_sO, mP_sO, mO_sO, up2, if_true, if_false, eq_self, ite_true, ite_false, reduceIte, Nat.add_left_cancel_iff, Nat.add_eq_left, Nat.left_eq_add, Nat.reduceEqDiff]; assumption) | (simp only [mN_sF, mK_sF, mL_sF, mF_sF, mB_sF, mA_sF, mJ_sF, mP_sF, mO_sF, mN_sB, mK_sB, mL_sB, mF_sB, mB_sB, mA_sB, mJ_sB, mP_sB, mO_sB, mN_sA, mK_sA, mL_sA, mF_sA, mB_sA, mA_sA, mJ_sA, mP_sA, mO_sA, mN_sJ, mK_sJ, mL_sJ, mF_sJ, mB_sJ, mA_sJ, mJ_sJ, mP_sJ, mO_sJ, mN_sP, mK_sP, mL_sP, mF_sP, mB_sP, mA_sP, mJ_sP, mP_sP, mO_sP, mN_sO, mK_sO, mL_sO, mF_sO, mB_sO, mA_sO, mJ_sO, mP_sO, mO_sO, up2, if_true, if_false, eq_self, ite_true, ite_false, reduceIte, Nat.add_left_cancel_iff, Nat.add_eq_left, Nat.left_eq_add, Nat.reduceEqDiff]; done)) ?_ | refine e_iald 55 rfl dX10_reading_54 (by assumption) (by assumption) (by first | rfl | simp only [pk_mul, nI_add]) (by omega) (by omega) ?_
        refine e_goto 60 (by decide) dX10_reading_55 ?_
        exact up T[j].1 h40 (by omega) (Nat.le_refl _)
  exact most T.length 0 (by omega) 0 (by omega) (fun x hx => by simp at hx)
theorem flS_mQ {m : Nat} {μ' : Mm} (h : Fr (flS m) μ μ') : Fr (mQ m) μ μ' := h.mono (fun q a => by unfold flS at a; unfold mQ; omega)
theorem m_readings {m : Nat} {S : Ast} {x c : Int32} (hW : WF S) (hM : MI m S μ) (k : ∀ μ', MF m μ μ' → MI m S μ' → K (some (.int (q_readings S x c))) μ') : Cl E M_X10_readings [.ref m, .int x, .int c] μ K := by
  have mk0 := hM.1.1
  have hM1 := hM.thr (nI 0)
  have f1 : MF m μ (sF μ m 2 (nI 0)) := MF.thr _
  refine Cl.of0 2 pn_X10 (Nat.le_of_ble_eq_true rfl) ⟨rfl, rfl⟩ rfl ?_
  refine e_al0 1 rfl dX10_readings_0 ?_
  refine e_iconst (nI 0) 2 rfl dX10_readings_1 ic_0 ?_
  refine e_putI 5 rfl dX10_readings_2 f_X10_126 (by assumption) ?_
  generalize sF μ m 2 (nI 0) = μ1 at hM1 f1 ⊢
  have mk := hM1.1.1
  unfold q_readings at k
  refine e_al0 6 rfl dX10_readings_5 ?_
  refine e_il1 7 rfl dX10_readings_6 ?_
  refine e_invV0 [_] 10 rfl dX10_readings_7 k_X10_210 mo_X10_isName rm_X10_readings_X10_isName ⟨rfl, rfl⟩ rfl rfl (by assumption) (Nat.le_of_ble_eq_true rfl) ?_
  refine c_mIsName mk hM1.2.2.2.2.2.1.1 hW.2.2.2.1.1 ?_
  cases eN : nmx (aN S) x with
  | none =>
    rw [eN] at k
    first | refine e_if_eqB 17 13 (by decide) rfl dX10_readings_10 rfl (fun y1 => ?_) (fun y1 => ?_) | refine e_if_eqN 17 13 (by decide) rfl dX10_readings_10 rfl (by omega) (fun y1 => ?_) (fun y1 => ?_) | refine e_if_eq 17 13 (by decide) rfl dX10_readings_10 (fun y1 => ?_) (fun y1 => ?_)
    · refine e_iconst (-1) 18 rfl dX10_readings_17 ic_m1 ?_
      refine e_iret dX10_readings_18 rfl ?_
      exact k μ1 f1 hM1
    · cases y1
  | some nm =>
  rw [eN] at k
  obtain ⟨i, hx, hi⟩ := nmx_some eN
  subst hx
  first | refine e_if_eqB 17 13 (by decide) rfl dX10_readings_10 rfl (fun y1 => ?_) (fun y1 => ?_) | refine e_if_eqN 17 13 (by decide) rfl dX10_readings_10 rfl (by omega) (fun y1 => ?_) (fun y1 => ?_) | refine e_if_eq 17 13 (by decide) rfl dX10_readings_10 (fun y1 => ?_) (fun y1 => ?_)
  · cases y1
  rcases iN_cases c with ⟨hc, qc⟩ | ⟨a, ha, hc, qc⟩
  · rw [qc] at k
    refine e_il2 14 rfl dX10_readings_13 ?_
    refine e_if_ge 19 17 (by decide) rfl dX10_readings_14 (fun y2 => ?_) (fun y2 => ?_)
    · exact absurd hc (Int32.not_lt.mpr y2)
    · refine e_iconst (-1) 18 rfl dX10_readings_17 ic_m1 ?_
      refine e_iret dX10_readings_18 rfl ?_
      exact k μ1 f1 hM1
  rw [qc] at k
  simp only [] at k
  subst hc
  have hwf := hW.2.2.2.1.2 nm (List.mem_of_getElem? hi)
  obtain ⟨hok, hlen⟩ := rdT_ok (nm := nm) hW hwf.2.2.1
  refine e_il2 14 rfl dX10_readings_13 ?_
  first | refine e_if_geN 19 17 (by decide) rfl dX10_readings_14 rfl (by omega) ?_ | refine e_if_ge 19 17 (by decide) rfl dX10_readings_14 (fun h => ?_) (fun h => ?_)
  refine e_al0 20 rfl dX10_readings_19 ?_
  refine e_il1 21 rfl dX10_readings_20 ?_
  refine e_invV0 [_] 24 rfl dX10_readings_21 k_X10_206 mo_X10_fill rm_X10_readings_X10_fill ⟨rfl, rfl⟩ rfl rfl (by assumption) (Nat.le_of_ble_eq_true rfl) ?_
  refine c_fill hW hM1 hi (fun μ2 hF2 hf2 hR2 => ?_)
  have hM2 : MI m S μ2 := hM1.scr (flS_mQ hF2) (fun f hf => hf2 f (by omega))
  have k2 := k μ2 (f1.trans (mQ_MF (flS_mQ hF2))) hM2
  obtain ⟨h44, hrow⟩ := hR2.at
  generalize rdT (aS S nm.1) (aB S) nm = T at hok hlen k2 h44 hrow
  have mk2 := hM2.1.1
  obtain ⟨pc, kc, lc⟩ := hM2.1.rowCost
  refine e_iconst (nI 0) 25 rfl dX10_readings_24 ic_0 ?_
  refine e_is3 26 rfl dX10_readings_25 (by decide) rfl ?_
  refine e_iconst (nI 0) 27 rfl dX10_readings_26 ic_0 ?_
  refine e_is4 29 rfl dX10_readings_27 (by decide) rfl ?_
  have loop : ∀ (fu j : Nat), j + fu = T.length → Ev E M_X10_readings 0 0 29 [some (.ref m), some (.int (nI i)), some (.int (nI a)), some (.int (nI (cL (T.take j) (a + 1)))), some (.int (nI j))] [] μ2 K := by
    intro fu
    induction fu with
    | zero =>
      intro j hj
      refine e_il4 31 rfl dX10_readings_29 ?_
      refine e_al0 32 rfl dX10_readings_31 ?_
      first | refine e_getIv 35 rfl dX10_readings_32 f_X10_192 (by assumption) (by first | assumption | (simp only [mN_sF, mK_sF, mL_sF, mF_sF, mB_sF, mA_sF, mJ_sF, mP_sF, mO_sF, mN_sB, mK_sB, mL_sB, mF_sB, mB_sB, mA_sB, mJ_sB, mP_sB, mO_sB, mN_sA, mK_sA, mL_sA, mF_sA, mB_sA, mA_sA, mJ_sA, mP_sA, mO_sA, mN_sJ, mK_sJ, mL_sJ, mF_sJ, mB_sJ, mA_sJ, mJ_sJ, mP_sJ, mO_sJ, mN_sP, mK_sP, mL_sP, mF_sP, mB_sP, mA_sP, mJ_sP, mP_sP, mO_sP, mN_sO, mK_sO, mL_sO, mF_sO, mB_sO, mA_sO, mJ_sO, mP_sO, mO_sO, up2, if_true, if_false, eq_self, ite_true, ite_false, reduceIte, Nat.add_left_cancel_iff, Nat.add_eq_left, Nat.left_eq_add, Nat.reduceEqDiff]; assumption) | (simp only [mN_sF, mK_sF, mL_sF, mF_sF, mB_sF, mA_sF, mJ_sF, mP_sF, mO_sF, mN_sB, mK_sB, mL_sB, mF_sB, mB_sB, mA_sB, mJ_sB, mP_sB, mO_sB, mN_sA, mK_sA, mL_sA, mF_sA, mB_sA, mA_sA, mJ_sA, mP_sA, mO_sA, mN_sJ, mK_sJ, mL_sJ, mF_sJ, mB_sJ, mA_sJ, mJ_sJ, mP_sJ, mO_sJ, mN_sP, mK_sP, mL_sP, mF_sP, mB_sP, mA_sP, mJ_sP, mP_sP, mO_sP, mN_sO, mK_sO, mL_sO, mF_sO, mB_sO, mA_sO, mJ_sO, mP_sO, mO_sO, up2, if_true, if_false, eq_self, ite_true, ite_false, reduceIte, Nat.add_left_cancel_iff, Nat.add_eq_left, Nat.left_eq_add, Nat.reduceEqDiff]; done)) ?_ | refine e_getI 35 rfl dX10_readings_32 f_X10_192 (by assumption) ?_
      first | refine e_cmp_geN 63 38 (by decide) rfl dX10_readings_35 rfl rfl (by omega) (by omega) (fun y3 => ?_) (fun y3 => ?_) | refine e_cmp_ge 63 38 (by decide) rfl dX10_readings_35 (fun y3 => ?_) (fun y3 => ?_)
      rotate_left
      · omega
      refine e_il3 64 rfl dX10_readings_63 ?_
      refine e_iret dX10_readings_64 rfl ?_
      rw [List.take_of_length_le (by omega)]
      exact k2
    | succ fu ih =>
      intro j hj
      have hjl : j < T.length := by omega
      have v := (hrow j hjl).1
      have h40 := (hok _ (List.getElem_mem hjl)).1
      have hs : cL (T.take (j + 1)) (a + 1) = cL (T.take j) (a + 1) + if T[j].1 < a + 1 then 1 else 0 := by
        unfold cL
        rw [List.take_succ_eq_append_getElem hjl, List.filter_append, List.length_append, List.filter_cons]
        by_cases c : T[j].1 < a + 1
        · rw [if_pos (by simp [c]), if_pos c]; rfl
        · rw [if_neg (by simp [c]), if_neg c]; rfl
      have hn := ih (j + 1) (by omega)
      rw [hs] at hn
      refine e_il4 31 rfl dX10_readings_29 ?_
      refine e_al0 32 rfl dX10_readings_31 ?_
      first | refine e_getIv 35 rfl dX10_readings_32 f_X10_192 (by assumption) (by first | assumption | (simp only [mN_sF, mK_sF, mL_sF, mF_sF, mB_sF, mA_sF, mJ_sF, mP_sF, mO_sF, mN_sB, mK_sB, mL_sB, mF_sB, mB_sB, mA_sB, mJ_sB, mP_sB, mO_sB, mN_sA, mK_sA, mL_sA, mF_sA, mB_sA, mA_sA, mJ_sA, mP_sA, mO_sA, mN_sJ, mK_sJ, mL_sJ, mF_sJ, mB_sJ, mA_sJ, mJ_sJ, mP_sJ, mO_sJ, mN_sP, mK_sP, mL_sP, mF_sP, mB_sP, mA_sP, mJ_sP, mP_sP, mO_sP, mN_sO, mK_sO, mL_sO, mF_sO, mB_sO, mA_sO, mJ_sO, mP_sO, mO_sO, up2, if_true, if_false, eq_self, ite_true, ite_false, reduceIte, Nat.add_left_cancel_iff, Nat.add_eq_left, Nat.left_eq_add, Nat.reduceEqDiff]; assumption) | (simp only [mN_sF, mK_sF, mL_sF, mF_sF, mB_sF, mA_sF, mJ_sF, mP_sF, mO_sF, mN_sB, mK_sB, mL_sB, mF_sB, mB_sB, mA_sB, mJ_sB, mP_sB, mO_sB, mN_sA, mK_sA, mL_sA, mF_sA, mB_sA, mA_sA, mJ_sA, mP_sA, mO_sA, mN_sJ, mK_sJ, mL_sJ, mF_sJ, mB_sJ, mA_sJ, mJ_sJ, mP_sJ, mO_sJ, mN_sP, mK_sP, mL_sP, mF_sP, mB_sP, mA_sP, mJ_sP, mP_sP, mO_sP, mN_sO, mK_sO, mL_sO, mF_sO, mB_sO, mA_sO, mJ_sO, mP_sO, mO_sO, up2, if_true, if_false, eq_self, ite_true, ite_false, reduceIte, Nat.add_left_cancel_iff, Nat.add_eq_left, Nat.left_eq_add, Nat.reduceEqDiff]; done)) ?_ | refine e_getI 35 rfl dX10_readings_32 f_X10_192 (by assumption) ?_
      first | refine e_cmp_geN 63 38 (by decide) rfl dX10_readings_35 rfl rfl (by omega) (by omega) (fun y3 => ?_) (fun y3 => ?_) | refine e_cmp_ge 63 38 (by decide) rfl dX10_readings_35 (fun y3 => ?_) (fun y3 => ?_)
      · omega
      refine e_il3 39 rfl dX10_readings_38 ?_
      refine e_al0 40 rfl dX10_readings_39 ?_
      refine e_getR 43 rfl dX10_readings_40 f_X10_111 (by assumption) (by assumption) ?_
      refine e_il4 45 rfl dX10_readings_43 ?_
      first | refine e_ialdv 46 rfl dX10_readings_45 (by assumption) (by assumption) (by first | rfl | simp only [pk_mul, nI_add]) (by omega) (by omega) (by first | assumption | (simp only [mN_sF, mK_sF, mL_sF, mF_sF, mB_sF, mA_sF, mJ_sF, mP_sF, mO_sF, mN_sB, mK_sB, mL_sB, mF_sB, mB_sB, mA_sB, mJ_sB, mP_sB, mO_sB, mN_sA, mK_sA, mL_sA, mF_sA, mB_sA, mA_sA, mJ_sA, mP_sA, mO_sA, mN_sJ, mK_sJ, mL_sJ, mF_sJ, mB_sJ, mA_sJ, mJ_sJ, mP_sJ, mO_sJ, mN_sP, mK_sP, mL_sP, mF_sP, mB_sP, mA_sP, mJ_sP, mP_sP, mO_sP, mN_sO, mK_sO, mL_sO, mF_sO, mB_sO, mA_sO, mJ_sO, mP_sO, mO_sO, up2, if_true, if_false, eq_self, ite_true, ite_false, reduceIte, Nat.add_left_cancel_iff, Nat.add_eq_left, Nat.left_eq_add, Nat.reduceEqDiff]; assumption) | (simp only [mN_sF, mK_sF, mL_sF, mF_sF, mB_sF, mA_sF, mJ_sF, mP_sF, mO_sF, mN_sB, mK_sB, mL_sB, mF_sB, mB_sB, mA_sB, mJ_sB, mP_sB, mO_sB, mN_sA, mK_sA, mL_sA, mF_sA, mB_sA, mA_sA, mJ_sA, mP_sA, mO_sA, mN_sJ, mK_sJ, mL_sJ, mF_sJ, mB_sJ, mA_sJ, mJ_sJ, mP_sJ, mO_sJ, mN_sP, mK_sP, mL_sP, mF_sP, mB_sP, mA_sP, mJ_sP, mP_sP, mO_sP, mN_sO, mK_sO, mL_sO, mF_sO, mB_sO, mA_sO, mJ_sO, mP_sO, mO_sO, up2, if_true, if_false, eq_self, ite_true, ite_false, reduceIte, Nat.add_left_cancel_iff, Nat.add_eq_left, Nat.left_eq_add, Nat.reduceEqDiff]; done)) ?_ | refine e_iald 46 rfl dX10_readings_45 (by assumption) (by assumption) (by first | rfl | simp only [pk_mul, nI_add]) (by omega) (by omega) ?_
      refine e_il2 47 rfl dX10_readings_46 ?_
      first | refine e_cmp_gtN 54 50 (by decide) rfl dX10_readings_47 rfl rfl (by omega) (by omega) (fun y4 => ?_) (fun y4 => ?_) | refine e_cmp_gt 54 50 (by decide) rfl dX10_readings_47 (fun y4 => ?_) (fun y4 => ?_)
      · rw [if_neg (by omega)] at hn
        refine e_iconst (nI 0) 55 rfl dX10_readings_54 ic_0 ?_
        first | refine e_iaddN 56 rfl dX10_readings_55 rfl rfl ?_ | refine e_iadd 56 rfl dX10_readings_55 ?_
        refine e_is3 57 rfl dX10_readings_56 (by decide) rfl ?_
        refine e_ii4 (nI (_ + 1)) 60 rfl dX10_readings_57 (ii1 _) rfl ?_
        refine e_goto 29 (by decide) dX10_readings_60 ?_
        exact hn
      · rw [if_pos (by omega)] at hn
        refine e_iconst (nI 1) 51 rfl dX10_readings_50 ic_1 ?_
        refine e_goto 55 (by decide) dX10_readings_51 ?_
        first | refine e_iaddN 56 rfl dX10_readings_55 rfl rfl ?_ | refine e_iadd 56 rfl dX10_readings_55 ?_
        refine e_is3 57 rfl dX10_readings_56 (by decide) rfl ?_
        refine e_ii4 (nI (_ + 1)) 60 rfl dX10_readings_57 (ii1 _) rfl ?_
        refine e_goto 29 (by decide) dX10_readings_60 ?_
        exact hn
  exact loop T.length 0 (by omega)
theorem m_cost {m : Nat} {S : Ast} {x r : Int32} (hW : WF S) (hM : MI m S μ) (k : ∀ μ', MF m μ μ' → MI m S μ' → K (some (.int (q_cost S x r))) μ') : Cl E M_X10_cost [.ref m, .int x, .int r] μ K := by
  have mk0 := hM.1.1
  have hM1 := hM.thr (nI 0)
  have f1 : MF m μ (sF μ m 2 (nI 0)) := MF.thr _
  refine Cl.of0 1 pn_X10 (Nat.le_of_ble_eq_true rfl) ⟨rfl, rfl⟩ rfl ?_
  refine e_al0 1 rfl dX10_cost_0 ?_
  refine e_iconst (nI 0) 2 rfl dX10_cost_1 ic_0 ?_
  refine e_putI 5 rfl dX10_cost_2 f_X10_126 (by assumption) ?_
  generalize sF μ m 2 (nI 0) = μ1 at hM1 f1 ⊢
  have mk := hM1.1.1
  unfold q_cost at k
  refine e_al0 6 rfl dX10_cost_5 ?_
  refine e_il1 7 rfl dX10_cost_6 ?_
  refine e_invV0 [_] 10 rfl dX10_cost_7 k_X10_210 mo_X10_isName rm_X10_cost_X10_isName ⟨rfl, rfl⟩ rfl rfl (by assumption) (Nat.le_of_ble_eq_true rfl) ?_
  refine c_mIsName mk hM1.2.2.2.2.2.1.1 hW.2.2.2.1.1 ?_
  cases eN : nmx (aN S) x with
  | none =>
    rw [eN] at k
    first | refine e_if_eqB 22 13 (by decide) rfl dX10_cost_10 rfl (fun y1 => ?_) (fun y1 => ?_) | refine e_if_eqN 22 13 (by decide) rfl dX10_cost_10 rfl (by omega) (fun y1 => ?_) (fun y1 => ?_) | refine e_if_eq 22 13 (by decide) rfl dX10_cost_10 (fun y1 => ?_) (fun y1 => ?_)
    · refine e_iconst (-1) 23 rfl dX10_cost_22 ic_m1 ?_
      refine e_is3 24 rfl dX10_cost_23 (by decide) rfl ?_
      refine e_il3 25 rfl dX10_cost_24 ?_
      refine e_if_ge 32 28 (by decide) rfl dX10_cost_25 (fun y2 => ?_) (fun y2 => ?_)
      · exact absurd y2 (by decide)
      refine e_iconst (-1) 29 rfl dX10_cost_28 ic_m1 ?_
      refine e_goto 38 (by decide) dX10_cost_29 ?_
      refine e_iret dX10_cost_38 rfl ?_
      exact k μ1 f1 hM1
    · cases y1
  | some nm =>
  rw [eN] at k
  simp only [] at k
  obtain ⟨i, hx, hi⟩ := nmx_some eN
  subst hx
  have hwf := hW.2.2.2.1.2 nm (List.mem_of_getElem? hi)
  obtain ⟨hok, hlen⟩ := rdT_ok (nm := nm) hW hwf.2.2.1
  unfold cstR at k
  first | refine e_if_eqB 22 13 (by decide) rfl dX10_cost_10 rfl (fun y1 => ?_) (fun y1 => ?_) | refine e_if_eqN 22 13 (by decide) rfl dX10_cost_10 rfl (by omega) (fun y1 => ?_) (fun y1 => ?_) | refine e_if_eq 22 13 (by decide) rfl dX10_cost_10 (fun y1 => ?_) (fun y1 => ?_)
  · cases y1
  refine e_al0 14 rfl dX10_cost_13 ?_
  refine e_il1 15 rfl dX10_cost_14 ?_
  refine e_il2 16 rfl dX10_cost_15 ?_
  refine e_invV0 [_, _] 19 rfl dX10_cost_16 k_X10_213 mo_X10_reading rm_X10_cost_X10_reading ⟨rfl, rfl⟩ rfl rfl (by assumption) (Nat.le_of_ble_eq_true rfl) ?_
  refine c_reading hW hM1 hi (fun hno μ2 hF2 hf2 hR2 => ?_) (fun j y hj hat μ2 hF2 hf2 hR2 => ?_)
  · rw [hno] at k
    have hM2 : MI m S μ2 := hM1.scr (flS_mQ hF2) (fun f hf => hf2 f (by omega))
    refine e_goto 23 (by decide) dX10_cost_19 ?_
    refine e_is3 24 rfl dX10_cost_23 (by decide) rfl ?_
    refine e_il3 25 rfl dX10_cost_24 ?_
    refine e_if_ge 32 28 (by decide) rfl dX10_cost_25 (fun y2 => ?_) (fun y2 => ?_)
    · exact absurd y2 (by decide)
    refine e_iconst (-1) 29 rfl dX10_cost_28 ic_m1 ?_
    refine e_goto 38 (by decide) dX10_cost_29 ?_
    refine e_iret dX10_cost_38 rfl ?_
    exact k μ2 (f1.trans (mQ_MF (flS_mQ hF2))) hM2
  · rw [hat] at k
    have hM2 : MI m S μ2 := hM1.scr (flS_mQ hF2) (fun f hf => hf2 f (by omega))
    obtain ⟨hjl, hje⟩ := List.getElem?_eq_some_iff.mp hj
    have v := (hR2.at.2 j hjl).1
    rw [hje] at v
    have mk2 := hM2.1.1
    obtain ⟨pc, kc, lc⟩ := hM2.1.rowCost
    refine e_goto 23 (by decide) dX10_cost_19 ?_
    refine e_is3 24 rfl dX10_cost_23 (by decide) rfl ?_
    refine e_il3 25 rfl dX10_cost_24 ?_
    first | refine e_if_geN 32 28 (by decide) rfl dX10_cost_25 rfl (by omega) ?_ | refine e_if_ge 32 28 (by decide) rfl dX10_cost_25 (fun h => ?_) (fun h => ?_)
    refine e_al0 33 rfl dX10_cost_32 ?_
    refine e_getR 36 rfl dX10_cost_33 f_X10_111 (by assumption) (by assumption) ?_
    refine e_il3 37 rfl dX10_cost_36 ?_
    first | refine e_ialdv 38 rfl dX10_cost_37 (by assumption) (by assumption) (by first | rfl | simp only [pk_mul, nI_add]) (by omega) (by omega) (by first | assumption | (simp only [mN_sF, mK_sF, mL_sF, mF_sF, mB_sF, mA_sF, mJ_sF, mP_sF, mO_sF, mN_sB, mK_sB, mL_sB, mF_sB, mB_sB, mA_sB, mJ_sB, mP_sB, mO_sB, mN_sA, mK_sA, mL_sA, mF_sA, mB_sA, mA_sA, mJ_sA, mP_sA, mO_sA, mN_sJ, mK_sJ, mL_sJ, mF_sJ, mB_sJ, mA_sJ, mJ_sJ, mP_sJ, mO_sJ, mN_sP, mK_sP, mL_sP, mF_sP, mB_sP, mA_sP, mJ_sP, mP_sP, mO_sP, mN_sO, mK_sO, mL_sO, mF_sO, mB_sO, mA_sO, mJ_sO, mP_sO, mO_sO, up2, if_true, if_false, eq_self, ite_true, ite_false, reduceIte, Nat.add_left_cancel_iff, Nat.add_eq_left, Nat.left_eq_add, Nat.reduceEqDiff]; assumption) | (simp only [mN_sF, mK_sF, mL_sF, mF_sF, mB_sF, mA_sF, mJ_sF, mP_sF, mO_sF, mN_sB, mK_sB, mL_sB, mF_sB, mB_sB, mA_sB, mJ_sB, mP_sB, mO_sB, mN_sA, mK_sA, mL_sA, mF_sA, mB_sA, mA_sA, mJ_sA, mP_sA, mO_sA, mN_sJ, mK_sJ, mL_sJ, mF_sJ, mB_sJ, mA_sJ, mJ_sJ, mP_sJ, mO_sJ, mN_sP, mK_sP, mL_sP, mF_sP, mB_sP, mA_sP, mJ_sP, mP_sP, mO_sP, mN_sO, mK_sO, mL_sO, mF_sO, mB_sO, mA_sO, mJ_sO, mP_sO, mO_sO, up2, if_true, if_false, eq_self, ite_true, ite_false, reduceIte, Nat.add_left_cancel_iff, Nat.add_eq_left, Nat.left_eq_add, Nat.reduceEqDiff]; done)) ?_ | refine e_iald 38 rfl dX10_cost_37 (by assumption) (by assumption) (by first | rfl | simp only [pk_mul, nI_add]) (by omega) (by omega) ?_
    refine e_iret dX10_cost_38 rfl ?_
    exact k μ2 (f1.trans (mQ_MF (flS_mQ hF2))) hM2
theorem dg_shr {n v w : Nat} : (v >>> (3 * (n - 1 - w))) &&& 7 = dg n v w := by
  have := Nat.and_two_pow_sub_one_eq_mod (v >>> (3 * (n - 1 - w))) 3
  rw [show (2 : Nat) ^ 3 - 1 = 7 by decide] at this
  rw [this, Nat.shiftRight_eq_div_pow, Nat.pow_mul]
  rfl
theorem c_kindIn {m i j w : Nat} {S : Ast} {nm : Nm} {y : Rw} {T : List Rw} (hW : WF S) (hM : MI m S μ) (hi : (aN S)[i]? = some nm) (hR : mRw μ m (T.map pr2)) (hj : T[j]? = some y) (hlen : T.length ≤ 6435) (hok : ∀ x ∈ T, eOK x) (hw : w < nm.2.length) (k : K (some (.int (nI (dg nm.2.length y.2.1 w)))) μ) : Cl E M_X10_kindIn [.ref m, .int (nI i), .int (nI j), .int (nI w)] μ K := by
  have mk := hM.1.1
  have hil := (List.getElem?_eq_some_iff.mp hi).1
  have n30 := hW.2.2.2.1.1
  have hwf := hW.2.2.2.1.2 nm (List.mem_of_getElem? hi)
  have hn8 := hwf.2.2.1
  have v2 := (hM.2.2.2.2.2.1.2 i nm hi).2.1
  obtain ⟨hjl, hje⟩ := List.getElem?_eq_some_iff.mp hj
  have v := (hR.at.2 j hjl).2
  rw [hje] at v
  have hy : y.2.1 < 16777216 := (hok y (List.mem_of_getElem? hj)).2.1
  obtain ⟨pr, kr, lr⟩ := hM.1.rows
  obtain ⟨pw, kw, lw⟩ := hM.1.nWords
  refine Cl.of0 0 pn_X10 (Nat.le_of_ble_eq_true rfl) ⟨rfl, rfl⟩ rfl ?_
  refine e_al0 1 rfl dX10_kindIn_0 ?_
  refine e_getR 4 rfl dX10_kindIn_1 f_X10_108 (by assumption) (by assumption) ?_
  refine e_il2 5 rfl dX10_kindIn_4 ?_
  first | refine e_ialdv 6 rfl dX10_kindIn_5 (by assumption) (by assumption) (by first | rfl | simp only [pk_mul, nI_add]) (by omega) (by omega) (by first | assumption | (simp only [mN_sF, mK_sF, mL_sF, mF_sF, mB_sF, mA_sF, mJ_sF, mP_sF, mO_sF, mN_sB, mK_sB, mL_sB, mF_sB, mB_sB, mA_sB, mJ_sB, mP_sB, mO_sB, mN_sA, mK_sA, mL_sA, mF_sA, mB_sA, mA_sA, mJ_sA, mP_sA, mO_sA, mN_sJ, mK_sJ, mL_sJ, mF_sJ, mB_sJ, mA_sJ, mJ_sJ, mP_sJ, mO_sJ, mN_sP, mK_sP, mL_sP, mF_sP, mB_sP, mA_sP, mJ_sP, mP_sP, mO_sP, mN_sO, mK_sO, mL_sO, mF_sO, mB_sO, mA_sO, mJ_sO, mP_sO, mO_sO, up2, if_true, if_false, eq_self, ite_true, ite_false, reduceIte, Nat.add_left_cancel_iff, Nat.add_eq_left, Nat.left_eq_add, Nat.reduceEqDiff]; assumption) | (simp only [mN_sF, mK_sF, mL_sF, mF_sF, mB_sF, mA_sF, mJ_sF, mP_sF, mO_sF, mN_sB, mK_sB, mL_sB, mF_sB, mB_sB, mA_sB, mJ_sB, mP_sB, mO_sB, mN_sA, mK_sA, mL_sA, mF_sA, mB_sA, mA_sA, mJ_sA, mP_sA, mO_sA, mN_sJ, mK_sJ, mL_sJ, mF_sJ, mB_sJ, mA_sJ, mJ_sJ, mP_sJ, mO_sJ, mN_sP, mK_sP, mL_sP, mF_sP, mB_sP, mA_sP, mJ_sP, mP_sP, mO_sP, mN_sO, mK_sO, mL_sO, mF_sO, mB_sO, mA_sO, mJ_sO, mP_sO, mO_sO, up2, if_true, if_false, eq_self, ite_true, ite_false, reduceIte, Nat.add_left_cancel_iff, Nat.add_eq_left, Nat.left_eq_add, Nat.reduceEqDiff]; done)) ?_ | refine e_iald 6 rfl dX10_kindIn_5 (by assumption) (by assumption) (by first | rfl | simp only [pk_mul, nI_add]) (by omega) (by omega) ?_
  refine e_iconst (nI 3) 7 rfl dX10_kindIn_6 ic_3 ?_
  refine e_al0 8 rfl dX10_kindIn_7 ?_
  refine e_getR 11 rfl dX10_kindIn_8 f_X10_63 (by assumption) (by assumption) ?_
  refine e_il1 12 rfl dX10_kindIn_11 ?_
  first | refine e_ialdv 13 rfl dX10_kindIn_12 (by assumption) (by assumption) (by first | rfl | simp only [pk_mul, nI_add]) (by omega) (by omega) (by first | assumption | (simp only [mN_sF, mK_sF, mL_sF, mF_sF, mB_sF, mA_sF, mJ_sF, mP_sF, mO_sF, mN_sB, mK_sB, mL_sB, mF_sB, mB_sB, mA_sB, mJ_sB, mP_sB, mO_sB, mN_sA, mK_sA, mL_sA, mF_sA, mB_sA, mA_sA, mJ_sA, mP_sA, mO_sA, mN_sJ, mK_sJ, mL_sJ, mF_sJ, mB_sJ, mA_sJ, mJ_sJ, mP_sJ, mO_sJ, mN_sP, mK_sP, mL_sP, mF_sP, mB_sP, mA_sP, mJ_sP, mP_sP, mO_sP, mN_sO, mK_sO, mL_sO, mF_sO, mB_sO, mA_sO, mJ_sO, mP_sO, mO_sO, up2, if_true, if_false, eq_self, ite_true, ite_false, reduceIte, Nat.add_left_cancel_iff, Nat.add_eq_left, Nat.left_eq_add, Nat.reduceEqDiff]; assumption) | (simp only [mN_sF, mK_sF, mL_sF, mF_sF, mB_sF, mA_sF, mJ_sF, mP_sF, mO_sF, mN_sB, mK_sB, mL_sB, mF_sB, mB_sB, mA_sB, mJ_sB, mP_sB, mO_sB, mN_sA, mK_sA, mL_sA, mF_sA, mB_sA, mA_sA, mJ_sA, mP_sA, mO_sA, mN_sJ, mK_sJ, mL_sJ, mF_sJ, mB_sJ, mA_sJ, mJ_sJ, mP_sJ, mO_sJ, mN_sP, mK_sP, mL_sP, mF_sP, mB_sP, mA_sP, mJ_sP, mP_sP, mO_sP, mN_sO, mK_sO, mL_sO, mF_sO, mB_sO, mA_sO, mJ_sO, mP_sO, mO_sO, up2, if_true, if_false, eq_self, ite_true, ite_false, reduceIte, Nat.add_left_cancel_iff, Nat.add_eq_left, Nat.left_eq_add, Nat.reduceEqDiff]; done)) ?_ | refine e_iald 13 rfl dX10_kindIn_12 (by assumption) (by assumption) (by first | rfl | simp only [pk_mul, nI_add]) (by omega) (by omega) ?_
  refine e_iconst (nI 1) 14 rfl dX10_kindIn_13 ic_1 ?_
  first | refine e_isubN 15 rfl dX10_kindIn_14 rfl rfl (by omega) ?_ | refine e_isub 15 rfl dX10_kindIn_14 ?_
  refine e_il3 16 rfl dX10_kindIn_15 ?_
  first | refine e_isubN 17 rfl dX10_kindIn_16 rfl rfl (by omega) ?_ | refine e_isub 17 rfl dX10_kindIn_16 ?_
  first | refine e_imulN 18 rfl dX10_kindIn_17 rfl rfl ?_ | refine e_imul 18 rfl dX10_kindIn_17 ?_
  refine e_ishrN 19 rfl dX10_kindIn_18 rfl rfl (by omega) (by omega) ?_
  refine e_bipush (nI 7) 21 rfl dX10_kindIn_19 bc_7 ?_
  (refine e_iandN 22 rfl dX10_kindIn_21 rfl rfl ?_; rw [dg_shr])
  refine e_iret dX10_kindIn_22 rfl ?_
  exact k
theorem m_kind {m : Nat} {S : Ast} {x r w : Int32} (hW : WF S) (hM : MI m S μ) (k : ∀ μ', MF m μ μ' → MI m S μ' → K (some (.int (q_kind S x r w))) μ') : Cl E M_X10_kind [.ref m, .int x, .int r, .int w] μ K := by
  have mk0 := hM.1.1
  have hM1 := hM.thr (nI 0)
  have f1 : MF m μ (sF μ m 2 (nI 0)) := MF.thr _
  refine Cl.of0 1 pn_X10 (Nat.le_of_ble_eq_true rfl) ⟨rfl, rfl⟩ rfl ?_
  refine e_al0 1 rfl dX10_kind_0 ?_
  refine e_iconst (nI 0) 2 rfl dX10_kind_1 ic_0 ?_
  refine e_putI 5 rfl dX10_kind_2 f_X10_126 (by assumption) ?_
  generalize sF μ m 2 (nI 0) = μ1 at hM1 f1 ⊢
  have mk := hM1.1.1
  unfold q_kind at k
  refine e_al0 6 rfl dX10_kind_5 ?_
  refine e_il1 7 rfl dX10_kind_6 ?_
  refine e_invV0 [_] 10 rfl dX10_kind_7 k_X10_210 mo_X10_isName rm_X10_kind_X10_isName ⟨rfl, rfl⟩ rfl rfl (by assumption) (Nat.le_of_ble_eq_true rfl) ?_
  refine c_mIsName mk hM1.2.2.2.2.2.1.1 hW.2.2.2.1.1 ?_
  cases eN : nmx (aN S) x with
  | none =>
    rw [eN] at k
    first | refine e_if_eqB 22 13 (by decide) rfl dX10_kind_10 rfl (fun y1 => ?_) (fun y1 => ?_) | refine e_if_eqN 22 13 (by decide) rfl dX10_kind_10 rfl (by omega) (fun y1 => ?_) (fun y1 => ?_) | refine e_if_eq 22 13 (by decide) rfl dX10_kind_10 (fun y1 => ?_) (fun y1 => ?_)
    · refine e_iconst (-1) 23 rfl dX10_kind_22 ic_m1 ?_
      refine e_is4 25 rfl dX10_kind_23 (by decide) rfl ?_
      refine e_il4 27 rfl dX10_kind_25 ?_
      refine e_if_lt 44 30 (by decide) rfl dX10_kind_27 (fun y2 => ?_) (fun y2 => ?_)
      rotate_left
      · exact absurd (by decide) y2
      refine e_iconst (-1) 45 rfl dX10_kind_44 ic_m1 ?_
      refine e_goto 56 (by decide) dX10_kind_45 ?_
      refine e_iret dX10_kind_56 rfl ?_
      exact k μ1 f1 hM1
    · cases y1
  | some nm =>
  rw [eN] at k
  simp only [] at k
  obtain ⟨i, hx, hi⟩ := nmx_some eN
  subst hx
  have hil := (List.getElem?_eq_some_iff.mp hi).1
  have n30 := hW.2.2.2.1.1
  have hwf := hW.2.2.2.1.2 nm (List.mem_of_getElem? hi)
  have hn8 := hwf.2.2.1
  obtain ⟨hok, hlen⟩ := rdT_ok (nm := nm) hW hwf.2.2.1
  unfold kndR at k
  first | refine e_if_eqB 22 13 (by decide) rfl dX10_kind_10 rfl (fun y1 => ?_) (fun y1 => ?_) | refine e_if_eqN 22 13 (by decide) rfl dX10_kind_10 rfl (by omega) (fun y1 => ?_) (fun y1 => ?_) | refine e_if_eq 22 13 (by decide) rfl dX10_kind_10 (fun y1 => ?_) (fun y1 => ?_)
  · cases y1
  refine e_al0 14 rfl dX10_kind_13 ?_
  refine e_il1 15 rfl dX10_kind_14 ?_
  refine e_il2 16 rfl dX10_kind_15 ?_
  refine e_invV0 [_, _] 19 rfl dX10_kind_16 k_X10_213 mo_X10_reading rm_X10_kind_X10_reading ⟨rfl, rfl⟩ rfl rfl (by assumption) (Nat.le_of_ble_eq_true rfl) ?_
  refine c_reading hW hM1 hi (fun hno μ2 hF2 hf2 hR2 => ?_) (fun j y hj hat μ2 hF2 hf2 hR2 => ?_)
  · rw [hno] at k
    have hM2 : MI m S μ2 := hM1.scr (flS_mQ hF2) (fun f hf => hf2 f (by omega))
    refine e_goto 23 (by decide) dX10_kind_19 ?_
    refine e_is4 25 rfl dX10_kind_23 (by decide) rfl ?_
    refine e_il4 27 rfl dX10_kind_25 ?_
    refine e_if_lt 44 30 (by decide) rfl dX10_kind_27 (fun y2 => ?_) (fun y2 => ?_)
    rotate_left
    · exact absurd (by decide) y2
    refine e_iconst (-1) 45 rfl dX10_kind_44 ic_m1 ?_
    refine e_goto 56 (by decide) dX10_kind_45 ?_
    refine e_iret dX10_kind_56 rfl ?_
    exact k μ2 (f1.trans (mQ_MF (flS_mQ hF2))) hM2
  · rw [hat] at k
    have hM2 : MI m S μ2 := hM1.scr (flS_mQ hF2) (fun f hf => hf2 f (by omega))
    have k2 := k μ2 (f1.trans (mQ_MF (flS_mQ hF2))) hM2
    have hjl := (List.getElem?_eq_some_iff.mp hj).1
    have mk2 := hM2.1.1
    have v2 := (hM2.2.2.2.2.2.1.2 i nm hi).2.1
    obtain ⟨pw, kw, lw⟩ := hM2.1.nWords
    rcases iN_cases w with ⟨hw, qw⟩ | ⟨W, hW31, hw, qw⟩
    · rw [qw] at k2
      refine e_goto 23 (by decide) dX10_kind_19 ?_
      refine e_is4 25 rfl dX10_kind_23 (by decide) rfl ?_
      refine e_il4 27 rfl dX10_kind_25 ?_
      first | refine e_if_ltN 44 30 (by decide) rfl dX10_kind_27 rfl (by omega) ?_ | refine e_if_lt 44 30 (by decide) rfl dX10_kind_27 (fun h => ?_) (fun h => ?_)
      refine e_il3 31 rfl dX10_kind_30 ?_
      refine e_if_lt 44 34 (by decide) rfl dX10_kind_31 (fun y3 => ?_) (fun y3 => ?_)
      · refine e_iconst (-1) 45 rfl dX10_kind_44 ic_m1 ?_
        refine e_goto 56 (by decide) dX10_kind_45 ?_
        refine e_iret dX10_kind_56 rfl ?_
        exact k2
      · exact absurd hw y3
    subst hw
    rw [qw] at k2
    simp only [] at k2
    refine e_goto 23 (by decide) dX10_kind_19 ?_
    refine e_is4 25 rfl dX10_kind_23 (by decide) rfl ?_
    refine e_il4 27 rfl dX10_kind_25 ?_
    first | refine e_if_ltN 44 30 (by decide) rfl dX10_kind_27 rfl (by omega) ?_ | refine e_if_lt 44 30 (by decide) rfl dX10_kind_27 (fun h => ?_) (fun h => ?_)
    refine e_il3 31 rfl dX10_kind_30 ?_
    first | refine e_if_ltN 44 34 (by decide) rfl dX10_kind_31 rfl (by omega) ?_ | refine e_if_lt 44 34 (by decide) rfl dX10_kind_31 (fun h => ?_) (fun h => ?_)
    refine e_il3 35 rfl dX10_kind_34 ?_
    refine e_al0 36 rfl dX10_kind_35 ?_
    refine e_getR 39 rfl dX10_kind_36 f_X10_63 (by assumption) (by assumption) ?_
    refine e_il1 40 rfl dX10_kind_39 ?_
    first | refine e_ialdv 41 rfl dX10_kind_40 (by assumption) (by assumption) (by first | rfl | simp only [pk_mul, nI_add]) (by omega) (by omega) (by first | assumption | (simp only [mN_sF, mK_sF, mL_sF, mF_sF, mB_sF, mA_sF, mJ_sF, mP_sF, mO_sF, mN_sB, mK_sB, mL_sB, mF_sB, mB_sB, mA_sB, mJ_sB, mP_sB, mO_sB, mN_sA, mK_sA, mL_sA, mF_sA, mB_sA, mA_sA, mJ_sA, mP_sA, mO_sA, mN_sJ, mK_sJ, mL_sJ, mF_sJ, mB_sJ, mA_sJ, mJ_sJ, mP_sJ, mO_sJ, mN_sP, mK_sP, mL_sP, mF_sP, mB_sP, mA_sP, mJ_sP, mP_sP, mO_sP, mN_sO, mK_sO, mL_sO, mF_sO, mB_sO, mA_sO, mJ_sO, mP_sO, mO_sO, up2, if_true, if_false, eq_self, ite_true, ite_false, reduceIte, Nat.add_left_cancel_iff, Nat.add_eq_left, Nat.left_eq_add, Nat.reduceEqDiff]; assumption) | (simp only [mN_sF, mK_sF, mL_sF, mF_sF, mB_sF, mA_sF, mJ_sF, mP_sF, mO_sF, mN_sB, mK_sB, mL_sB, mF_sB, mB_sB, mA_sB, mJ_sB, mP_sB, mO_sB, mN_sA, mK_sA, mL_sA, mF_sA, mB_sA, mA_sA, mJ_sA, mP_sA, mO_sA, mN_sJ, mK_sJ, mL_sJ, mF_sJ, mB_sJ, mA_sJ, mJ_sJ, mP_sJ, mO_sJ, mN_sP, mK_sP, mL_sP, mF_sP, mB_sP, mA_sP, mJ_sP, mP_sP, mO_sP, mN_sO, mK_sO, mL_sO, mF_sO, mB_sO, mA_sO, mJ_sO, mP_sO, mO_sO, up2, if_true, if_false, eq_self, ite_true, ite_false, reduceIte, Nat.add_left_cancel_iff, Nat.add_eq_left, Nat.left_eq_add, Nat.reduceEqDiff]; done)) ?_ | refine e_iald 41 rfl dX10_kind_40 (by assumption) (by assumption) (by first | rfl | simp only [pk_mul, nI_add]) (by omega) (by omega) ?_
    first | refine e_cmp_ltN 48 44 (by decide) rfl dX10_kind_41 rfl rfl (by omega) (by omega) (fun y4 => ?_) (fun y4 => ?_) | refine e_cmp_lt 48 44 (by decide) rfl dX10_kind_41 (fun y4 => ?_) (fun y4 => ?_)
    rotate_left
    · rw [if_neg (by omega)] at k2
      refine e_iconst (-1) 45 rfl dX10_kind_44 ic_m1 ?_
      refine e_goto 56 (by decide) dX10_kind_45 ?_
      refine e_iret dX10_kind_56 rfl ?_
      exact k2
    rw [if_pos y4] at k2
    refine e_al0 49 rfl dX10_kind_48 ?_
    refine e_il1 50 rfl dX10_kind_49 ?_
    refine e_il4 52 rfl dX10_kind_50 ?_
    refine e_il3 53 rfl dX10_kind_52 ?_
    refine e_invV0 [_, _, _] 56 rfl dX10_kind_53 k_X10_216 mo_X10_kindIn rm_X10_kind_X10_kindIn ⟨rfl, rfl⟩ rfl rfl (by assumption) (Nat.le_of_ble_eq_true rfl) ?_
    refine c_kindIn hW hM2 hi hR2 hj hlen hok y4 ?_
    refine e_iret dX10_kind_56 rfl ?_
    exact k2
end MREAD2
