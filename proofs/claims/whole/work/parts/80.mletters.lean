/-! NameDeskModel: letters, ending -/
section MLETTERS
variable {E : En} {μ : Mm} {K : Option Value → Mm → Prop}
theorem nodup7 {l : List Nat} (h : l.Nodup) (h7 : ∀ k ∈ l, k < 7) : l.length ≤ 7 := by
  have h1 := chL_le l (List.range 7) h
  have h2 : ∀ r : List Nat, (∀ k ∈ r, k < 7) → (r.flatMap (fun k => plcF k (List.range 7) 0)).length = r.length := by
    intro r
    induction r with
    | nil => intro _; rfl
    | cons a r ih =>
      intro hr
      rw [List.flatMap_cons, List.length_append, ih (fun k hk => hr k (List.mem_cons_of_mem _ hk)), plcF_len, List.length_cons]
      have : ∀ a, a < 7 → ((List.range 7).filter (fun x => decide (x = a))).length = 1 := by decide
      rw [this a (hr a List.mem_cons_self)]
      omega
  rw [h2 l h7] at h1
  exact Nat.le_trans h1 (Nat.le_trans (List.length_filter_le _ _) (by rw [List.length_range]; exact Nat.le_refl 7))
def ltS (m : Nat) : Nat → Prop := fun q => q = m ∨ q = m + 26 ∨ q = m + 27
/-- the letters that have been read -/
def rLt (μ : Mm) (m w : Nat) (ks : List Nat) : Prop := mA μ (m + 27) w = nI ks.length ∧ Hd (fun j => mA μ (m + 26) (7 * w + j)) ks
theorem c_lettersRead {m p0 w : Nat} {l : List Nat} (hX : Mx μ m l p0) (hp0 : p0 ≤ l.length + 1) (hw : w ≤ 1)
    (kt : ∀ p ks, pLt l 7 p0 [] = .inr (p, ks) → ∀ μ', Fr (ltS m) μ μ' → (∀ f, f ≠ 29 → mF μ' m f = mF μ m f) → Mx μ' m l p → rLt μ' m w ks → (∀ u, u ≠ w → mA μ' (m + 27) u = mA μ (m + 27) u) → (∀ u, ¬ (7 * w ≤ u ∧ u < 7 * w + 7) → mA μ' (m + 26) u = mA μ (m + 26) u) → p ≤ l.length → K (some (.int (nI 1))) μ')
    (kf : ∀ f p, pLt l 7 p0 [] = .inl (f, p) → ∀ μ', Fr (ltS m) μ μ' → (∀ f, f ≠ 29 → f ≠ 18 → f ≠ 19 → mF μ' m f = mF μ m f) → Mflt μ' m f p → K (some (.int (nI 0))) μ') : Cl E M_X10_lettersRead [.ref m, .int (nI w)] μ K := by
  have Sm : ltS m m := Or.inl rfl
  have S26 : ltS m (m + 26) := Or.inr (Or.inl rfl)
  have S27 : ltS m (m + 27) := Or.inr (Or.inr rfl)
  have l4 := hX.2.2.2.2.1
  obtain ⟨R, hRe⟩ : ∃ R, R = pLt l 7 p0 [] := ⟨_, rfl⟩
  rw [← hRe] at kt kf
  have loop : ∀ (fu : Nat) (acc : List Nat) (p : Nat), acc.length + fu = 7 → ∀ μ1 l3 l4, R = pLt l fu p acc → acc.Nodup → (∀ k ∈ acc, k < 7) → (acc = [] ∨ l[p]? ≠ some 59) → Fr (ltS m) μ μ1 → (∀ f, f ≠ 29 → mF μ1 m f = mF μ m f) → Mx μ1 m l p → rLt μ1 m w acc → (∀ u, u ≠ w → mA μ1 (m + 27) u = mA μ (m + 27) u) → (∀ u, ¬ (7 * w ≤ u ∧ u < 7 * w + 7) → mA μ1 (m + 26) u = mA μ (m + 26) u) → p ≤ l.length + 1 → Ev E M_X10_lettersRead 0 0 13 [some (.ref m), some (.int (nI w)), some (.int (nI 1)), l3, l4] [] μ1 K := by
    intro fu
    induction fu with
    | zero =>
      intro acc p hfu μ1 q3 q4 hps hnd hk7 hor hF1 hf1 hX1 hR1 hu1 hv1 hpl
      have mk1 := hX1.1.1
      have h29 := hX1.2.1
      have hlt := hX1.lt
      rw [pLt_eq] at hps
      refine e_al0 14 rfl dX10_lettersRead_13 ?_
      refine e_invV0 [] 17 rfl dX10_lettersRead_14 k_X10_144 mo_X10_see rm_X10_lettersRead_X10_see ⟨rfl, rfl⟩ rfl rfl (by assumption) (Nat.le_of_ble_eq_true rfl) ?_
      refine c_see hX1 ?_
      refine e_invS0 [_] 20 rfl dX10_lettersRead_17 k_X10_148 mo_X10_kindOf rm_X10_lettersRead_X10_kindOf ⟨rfl, rfl⟩ rfl rfl (Nat.le_of_ble_eq_true rfl) ?_
      refine c_mKindOf (hlt p) ?_
      cases eK : kAt l p with
      | none =>
        have eK' : (l[p]?).bind kindOf = none := eK
        rw [eK, ] at hps
        rw [eK']
        simp only [] at hps
        rw [if_neg (fun q => by rcases hor with h | h; exact q.1 h; exact h q.2)] at hps
        refine e_is3 21 rfl dX10_lettersRead_20 (by decide) rfl ?_
        refine e_il3 22 rfl dX10_lettersRead_21 ?_
        refine e_if_ge 35 25 (by decide) rfl dX10_lettersRead_22 (fun y2 => ?_) (fun y2 => ?_)
        · exact absurd y2 (by decide)
        refine e_al0 26 rfl dX10_lettersRead_25 ?_
        refine e_iconst (nI 1) 27 rfl dX10_lettersRead_26 ic_1 ?_
        refine e_al0 28 rfl dX10_lettersRead_27 ?_
        first | refine e_getIv 31 rfl dX10_lettersRead_28 f_X10_135 (by assumption) (by first | assumption | (simp only [mN_sF, mK_sF, mL_sF, mF_sF, mB_sF, mA_sF, mJ_sF, mP_sF, mO_sF, mN_sB, mK_sB, mL_sB, mF_sB, mB_sB, mA_sB, mJ_sB, mP_sB, mO_sB, mN_sA, mK_sA, mL_sA, mF_sA, mB_sA, mA_sA, mJ_sA, mP_sA, mO_sA, mN_sJ, mK_sJ, mL_sJ, mF_sJ, mB_sJ, mA_sJ, mJ_sJ, mP_sJ, mO_sJ, mN_sP, mK_sP, mL_sP, mF_sP, mB_sP, mA_sP, mJ_sP, mP_sP, mO_sP, mN_sO, mK_sO, mL_sO, mF_sO, mB_sO, mA_sO, mJ_sO, mP_sO, mO_sO, up2, if_true, if_false, eq_self, ite_true, ite_false, reduceIte, Nat.add_left_cancel_iff, Nat.add_eq_left, Nat.left_eq_add, Nat.reduceEqDiff]; assumption) | (simp only [mN_sF, mK_sF, mL_sF, mF_sF, mB_sF, mA_sF, mJ_sF, mP_sF, mO_sF, mN_sB, mK_sB, mL_sB, mF_sB, mB_sB, mA_sB, mJ_sB, mP_sB, mO_sB, mN_sA, mK_sA, mL_sA, mF_sA, mB_sA, mA_sA, mJ_sA, mP_sA, mO_sA, mN_sJ, mK_sJ, mL_sJ, mF_sJ, mB_sJ, mA_sJ, mJ_sJ, mP_sJ, mO_sJ, mN_sP, mK_sP, mL_sP, mF_sP, mB_sP, mA_sP, mJ_sP, mP_sP, mO_sP, mN_sO, mK_sO, mL_sO, mF_sO, mB_sO, mA_sO, mJ_sO, mP_sO, mO_sO, up2, if_true, if_false, eq_self, ite_true, ite_false, reduceIte, Nat.add_left_cancel_iff, Nat.add_eq_left, Nat.left_eq_add, Nat.reduceEqDiff]; done)) ?_ | refine e_getI 31 rfl dX10_lettersRead_28 f_X10_135 (by assumption) ?_
        refine e_invV0 [_, _] 34 rfl dX10_lettersRead_31 k_X10_152 mo_X10_wrong rm_X10_lettersRead_X10_wrong ⟨rfl, rfl⟩ rfl rfl (by assumption) (Nat.le_of_ble_eq_true rfl) ?_
        refine c_wrong mk1 (fun μ2 hF2 hf2 hfl => ?_)
        refine e_zret dX10_lettersRead_34 rfl (by first | exact z0 | exact z1 | exact bI01 _ | assumption) ?_
        exact kf 1 p hps μ2 (hF1.trans (hF2.mono (fun q h => Or.inl h))) (fun f a c d => by rw [hf2 f c d]; exact hf1 f a) hfl
      | some k =>
        have eK' : (l[p]?).bind kindOf = some k := eK
        rw [eK] at hps
        rw [eK']
        simp only [] at hps
        have hk7' := (kAt_lt eK).1
        have hs : seeI (some k) = nI k := rfl
        rw [hs]
        have hin : k ∈ acc := Classical.byContradiction (fun hn => by
          have := nodup7 (l := k :: acc) (List.nodup_cons.mpr ⟨hn, hnd⟩) (fun x hx => by rcases List.mem_cons.mp hx with q | q; omega; exact hk7 x q)
          rw [List.length_cons] at this
          omega)
        rw [if_pos hin] at hps
        obtain ⟨pm, km, lm⟩ := hX1.1.rMany
        obtain ⟨pb, kb, lb⟩ := hX1.1.rBy
        have vm := hR1.1
        refine e_is3 21 rfl dX10_lettersRead_20 (by decide) rfl ?_
        refine e_il3 22 rfl dX10_lettersRead_21 ?_
        first | refine e_if_geN 35 25 (by decide) rfl dX10_lettersRead_22 rfl (by omega) ?_ | refine e_if_ge 35 25 (by decide) rfl dX10_lettersRead_22 (fun h => ?_) (fun h => ?_)
        refine e_iconst (nI 0) 36 rfl dX10_lettersRead_35 ic_0 ?_
        refine e_is4 38 rfl dX10_lettersRead_36 (by decide) rfl ?_
        have srch : ∀ (gu j : Nat), j + gu = acc.length → (∀ t, t < j → ∀ h : t < acc.length, acc[t] ≠ k) → Ev E M_X10_lettersRead 0 0 38 [some (.ref m), some (.int (nI w)), some (.int (nI 1)), some (.int (nI k)), some (.int (nI j))] [] μ1 K := by
          intro gu
          induction gu with
          | zero =>
            intro j hj hno
            exfalso
            obtain ⟨t, ht⟩ := List.getElem?_of_mem hin
            obtain ⟨ht1, ht2⟩ := List.getElem?_eq_some_iff.mp ht
            exact hno t (by omega) ht1 ht2
          | succ gu ihj =>
            intro j hj hno
            have hjl : j < acc.length := by omega
            have vb : mA μ1 (m + 26) (7 * w + j) = nI acc[j] := hR1.2.at hjl
            have hc7 := hk7 _ (List.getElem_mem hjl)
            refine e_il4 40 rfl dX10_lettersRead_38 ?_
            refine e_al0 41 rfl dX10_lettersRead_40 ?_
            refine e_getR 44 rfl dX10_lettersRead_41 f_X10_93 (by assumption) (by assumption) ?_
            refine e_il1 45 rfl dX10_lettersRead_44 ?_
            first | refine e_ialdv 46 rfl dX10_lettersRead_45 (by assumption) (by assumption) (by first | rfl | simp only [pk_mul, nI_add]) (by omega) (by omega) (by first | assumption | (simp only [mN_sF, mK_sF, mL_sF, mF_sF, mB_sF, mA_sF, mJ_sF, mP_sF, mO_sF, mN_sB, mK_sB, mL_sB, mF_sB, mB_sB, mA_sB, mJ_sB, mP_sB, mO_sB, mN_sA, mK_sA, mL_sA, mF_sA, mB_sA, mA_sA, mJ_sA, mP_sA, mO_sA, mN_sJ, mK_sJ, mL_sJ, mF_sJ, mB_sJ, mA_sJ, mJ_sJ, mP_sJ, mO_sJ, mN_sP, mK_sP, mL_sP, mF_sP, mB_sP, mA_sP, mJ_sP, mP_sP, mO_sP, mN_sO, mK_sO, mL_sO, mF_sO, mB_sO, mA_sO, mJ_sO, mP_sO, mO_sO, up2, if_true, if_false, eq_self, ite_true, ite_false, reduceIte, Nat.add_left_cancel_iff, Nat.add_eq_left, Nat.left_eq_add, Nat.reduceEqDiff]; assumption) | (simp only [mN_sF, mK_sF, mL_sF, mF_sF, mB_sF, mA_sF, mJ_sF, mP_sF, mO_sF, mN_sB, mK_sB, mL_sB, mF_sB, mB_sB, mA_sB, mJ_sB, mP_sB, mO_sB, mN_sA, mK_sA, mL_sA, mF_sA, mB_sA, mA_sA, mJ_sA, mP_sA, mO_sA, mN_sJ, mK_sJ, mL_sJ, mF_sJ, mB_sJ, mA_sJ, mJ_sJ, mP_sJ, mO_sJ, mN_sP, mK_sP, mL_sP, mF_sP, mB_sP, mA_sP, mJ_sP, mP_sP, mO_sP, mN_sO, mK_sO, mL_sO, mF_sO, mB_sO, mA_sO, mJ_sO, mP_sO, mO_sO, up2, if_true, if_false, eq_self, ite_true, ite_false, reduceIte, Nat.add_left_cancel_iff, Nat.add_eq_left, Nat.left_eq_add, Nat.reduceEqDiff]; done)) ?_ | refine e_iald 46 rfl dX10_lettersRead_45 (by assumption) (by assumption) (by first | rfl | simp only [pk_mul, nI_add]) (by omega) (by omega) ?_
            first | refine e_cmp_geN 81 49 (by decide) rfl dX10_lettersRead_46 rfl rfl (by omega) (by omega) (fun y3 => ?_) (fun y3 => ?_) | refine e_cmp_ge 81 49 (by decide) rfl dX10_lettersRead_46 (fun y3 => ?_) (fun y3 => ?_)
            · omega
            refine e_al0 50 rfl dX10_lettersRead_49 ?_
            refine e_getR 53 rfl dX10_lettersRead_50 f_X10_90 (by assumption) (by assumption) ?_
            refine e_bipush (nI 7) 55 rfl dX10_lettersRead_53 bc_7 ?_
            refine e_il1 56 rfl dX10_lettersRead_55 ?_
            first | refine e_imulN 57 rfl dX10_lettersRead_56 rfl rfl ?_ | refine e_imul 57 rfl dX10_lettersRead_56 ?_
            refine e_il4 59 rfl dX10_lettersRead_57 ?_
            first | refine e_iaddN 60 rfl dX10_lettersRead_59 rfl rfl ?_ | refine e_iadd 60 rfl dX10_lettersRead_59 ?_
            first | refine e_ialdv 61 rfl dX10_lettersRead_60 (by assumption) (by assumption) (by first | rfl | simp only [pk_mul, nI_add]) (by omega) (by omega) (by first | assumption | (simp only [mN_sF, mK_sF, mL_sF, mF_sF, mB_sF, mA_sF, mJ_sF, mP_sF, mO_sF, mN_sB, mK_sB, mL_sB, mF_sB, mB_sB, mA_sB, mJ_sB, mP_sB, mO_sB, mN_sA, mK_sA, mL_sA, mF_sA, mB_sA, mA_sA, mJ_sA, mP_sA, mO_sA, mN_sJ, mK_sJ, mL_sJ, mF_sJ, mB_sJ, mA_sJ, mJ_sJ, mP_sJ, mO_sJ, mN_sP, mK_sP, mL_sP, mF_sP, mB_sP, mA_sP, mJ_sP, mP_sP, mO_sP, mN_sO, mK_sO, mL_sO, mF_sO, mB_sO, mA_sO, mJ_sO, mP_sO, mO_sO, up2, if_true, if_false, eq_self, ite_true, ite_false, reduceIte, Nat.add_left_cancel_iff, Nat.add_eq_left, Nat.left_eq_add, Nat.reduceEqDiff]; assumption) | (simp only [mN_sF, mK_sF, mL_sF, mF_sF, mB_sF, mA_sF, mJ_sF, mP_sF, mO_sF, mN_sB, mK_sB, mL_sB, mF_sB, mB_sB, mA_sB, mJ_sB, mP_sB, mO_sB, mN_sA, mK_sA, mL_sA, mF_sA, mB_sA, mA_sA, mJ_sA, mP_sA, mO_sA, mN_sJ, mK_sJ, mL_sJ, mF_sJ, mB_sJ, mA_sJ, mJ_sJ, mP_sJ, mO_sJ, mN_sP, mK_sP, mL_sP, mF_sP, mB_sP, mA_sP, mJ_sP, mP_sP, mO_sP, mN_sO, mK_sO, mL_sO, mF_sO, mB_sO, mA_sO, mJ_sO, mP_sO, mO_sO, up2, if_true, if_false, eq_self, ite_true, ite_false, reduceIte, Nat.add_left_cancel_iff, Nat.add_eq_left, Nat.left_eq_add, Nat.reduceEqDiff]; done)) ?_ | refine e_iald 61 rfl dX10_lettersRead_60 (by assumption) (by assumption) (by first | rfl | simp only [pk_mul, nI_add]) (by omega) (by omega) ?_
            refine e_il3 62 rfl dX10_lettersRead_61 ?_
            first | refine e_cmp_neN 75 65 (by decide) rfl dX10_lettersRead_62 rfl rfl (by omega) (by omega) (fun y4 => ?_) (fun y4 => ?_) | refine e_cmp_ne 75 65 (by decide) rfl dX10_lettersRead_62 (fun y4 => ?_) (fun y4 => ?_)
            · refine e_ii4 (nI (_ + 1)) 78 rfl dX10_lettersRead_75 (ii1 _) rfl ?_
              refine e_goto 38 (by decide) dX10_lettersRead_78 ?_
              refine ihj (j + 1) (by omega) (fun t ht h => ?_)
              by_cases c : t = j
              · subst c; exact y4
              · exact hno t (by omega) h
            · refine e_al0 66 rfl dX10_lettersRead_65 ?_
              refine e_iconst (nI 3) 67 rfl dX10_lettersRead_66 ic_3 ?_
              refine e_al0 68 rfl dX10_lettersRead_67 ?_
              first | refine e_getIv 71 rfl dX10_lettersRead_68 f_X10_135 (by assumption) (by first | assumption | (simp only [mN_sF, mK_sF, mL_sF, mF_sF, mB_sF, mA_sF, mJ_sF, mP_sF, mO_sF, mN_sB, mK_sB, mL_sB, mF_sB, mB_sB, mA_sB, mJ_sB, mP_sB, mO_sB, mN_sA, mK_sA, mL_sA, mF_sA, mB_sA, mA_sA, mJ_sA, mP_sA, mO_sA, mN_sJ, mK_sJ, mL_sJ, mF_sJ, mB_sJ, mA_sJ, mJ_sJ, mP_sJ, mO_sJ, mN_sP, mK_sP, mL_sP, mF_sP, mB_sP, mA_sP, mJ_sP, mP_sP, mO_sP, mN_sO, mK_sO, mL_sO, mF_sO, mB_sO, mA_sO, mJ_sO, mP_sO, mO_sO, up2, if_true, if_false, eq_self, ite_true, ite_false, reduceIte, Nat.add_left_cancel_iff, Nat.add_eq_left, Nat.left_eq_add, Nat.reduceEqDiff]; assumption) | (simp only [mN_sF, mK_sF, mL_sF, mF_sF, mB_sF, mA_sF, mJ_sF, mP_sF, mO_sF, mN_sB, mK_sB, mL_sB, mF_sB, mB_sB, mA_sB, mJ_sB, mP_sB, mO_sB, mN_sA, mK_sA, mL_sA, mF_sA, mB_sA, mA_sA, mJ_sA, mP_sA, mO_sA, mN_sJ, mK_sJ, mL_sJ, mF_sJ, mB_sJ, mA_sJ, mJ_sJ, mP_sJ, mO_sJ, mN_sP, mK_sP, mL_sP, mF_sP, mB_sP, mA_sP, mJ_sP, mP_sP, mO_sP, mN_sO, mK_sO, mL_sO, mF_sO, mB_sO, mA_sO, mJ_sO, mP_sO, mO_sO, up2, if_true, if_false, eq_self, ite_true, ite_false, reduceIte, Nat.add_left_cancel_iff, Nat.add_eq_left, Nat.left_eq_add, Nat.reduceEqDiff]; done)) ?_ | refine e_getI 71 rfl dX10_lettersRead_68 f_X10_135 (by assumption) ?_
              refine e_invV0 [_, _] 74 rfl dX10_lettersRead_71 k_X10_152 mo_X10_wrong rm_X10_lettersRead_X10_wrong ⟨rfl, rfl⟩ rfl rfl (by assumption) (Nat.le_of_ble_eq_true rfl) ?_
              refine c_wrong mk1 (fun μ2 hF2 hf2 hfl => ?_)
              refine e_zret dX10_lettersRead_74 rfl (by first | exact z0 | exact z1 | exact bI01 _ | assumption) ?_
              exact kf 3 p hps μ2 (hF1.trans (hF2.mono (fun q h => Or.inl h))) (fun f a c d => by rw [hf2 f c d]; exact hf1 f a) hfl
        exact srch acc.length 0 (by omega) (fun t ht => by omega)
    | succ fu ih =>
      intro acc p hfu μ1 q3 q4 hps hnd hk7 hor hF1 hf1 hX1 hR1 hu1 hv1 hpl
      have mk1 := hX1.1.1
      have h29 := hX1.2.1
      have hlt := hX1.lt
      rw [pLt_eq] at hps
      refine e_al0 14 rfl dX10_lettersRead_13 ?_
      refine e_invV0 [] 17 rfl dX10_lettersRead_14 k_X10_144 mo_X10_see rm_X10_lettersRead_X10_see ⟨rfl, rfl⟩ rfl rfl (by assumption) (Nat.le_of_ble_eq_true rfl) ?_
      refine c_see hX1 ?_
      refine e_invS0 [_] 20 rfl dX10_lettersRead_17 k_X10_148 mo_X10_kindOf rm_X10_lettersRead_X10_kindOf ⟨rfl, rfl⟩ rfl rfl (Nat.le_of_ble_eq_true rfl) ?_
      refine c_mKindOf (hlt p) ?_
      cases eK : kAt l p with
      | none =>
        have eK' : (l[p]?).bind kindOf = none := eK
        rw [eK, ] at hps
        rw [eK']
        simp only [] at hps
        rw [if_neg (fun q => by rcases hor with h | h; exact q.1 h; exact h q.2)] at hps
        refine e_is3 21 rfl dX10_lettersRead_20 (by decide) rfl ?_
        refine e_il3 22 rfl dX10_lettersRead_21 ?_
        refine e_if_ge 35 25 (by decide) rfl dX10_lettersRead_22 (fun y2 => ?_) (fun y2 => ?_)
        · exact absurd y2 (by decide)
        refine e_al0 26 rfl dX10_lettersRead_25 ?_
        refine e_iconst (nI 1) 27 rfl dX10_lettersRead_26 ic_1 ?_
        refine e_al0 28 rfl dX10_lettersRead_27 ?_
        first | refine e_getIv 31 rfl dX10_lettersRead_28 f_X10_135 (by assumption) (by first | assumption | (simp only [mN_sF, mK_sF, mL_sF, mF_sF, mB_sF, mA_sF, mJ_sF, mP_sF, mO_sF, mN_sB, mK_sB, mL_sB, mF_sB, mB_sB, mA_sB, mJ_sB, mP_sB, mO_sB, mN_sA, mK_sA, mL_sA, mF_sA, mB_sA, mA_sA, mJ_sA, mP_sA, mO_sA, mN_sJ, mK_sJ, mL_sJ, mF_sJ, mB_sJ, mA_sJ, mJ_sJ, mP_sJ, mO_sJ, mN_sP, mK_sP, mL_sP, mF_sP, mB_sP, mA_sP, mJ_sP, mP_sP, mO_sP, mN_sO, mK_sO, mL_sO, mF_sO, mB_sO, mA_sO, mJ_sO, mP_sO, mO_sO, up2, if_true, if_false, eq_self, ite_true, ite_false, reduceIte, Nat.add_left_cancel_iff, Nat.add_eq_left, Nat.left_eq_add, Nat.reduceEqDiff]; assumption) | (simp only [mN_sF, mK_sF, mL_sF, mF_sF, mB_sF, mA_sF, mJ_sF, mP_sF, mO_sF, mN_sB, mK_sB, mL_sB, mF_sB, mB_sB, mA_sB, mJ_sB, mP_sB, mO_sB, mN_sA, mK_sA, mL_sA, mF_sA, mB_sA, mA_sA, mJ_sA, mP_sA, mO_sA, mN_sJ, mK_sJ, mL_sJ, mF_sJ, mB_sJ, mA_sJ, mJ_sJ, mP_sJ, mO_sJ, mN_sP, mK_sP, mL_sP, mF_sP, mB_sP, mA_sP, mJ_sP, mP_sP, mO_sP, mN_sO, mK_sO, mL_sO, mF_sO, mB_sO, mA_sO, mJ_sO, mP_sO, mO_sO, up2, if_true, if_false, eq_self, ite_true, ite_false, reduceIte, Nat.add_left_cancel_iff, Nat.add_eq_left, Nat.left_eq_add, Nat.reduceEqDiff]; done)) ?_ | refine e_getI 31 rfl dX10_lettersRead_28 f_X10_135 (by assumption) ?_
        refine e_invV0 [_, _] 34 rfl dX10_lettersRead_31 k_X10_152 mo_X10_wrong rm_X10_lettersRead_X10_wrong ⟨rfl, rfl⟩ rfl rfl (by assumption) (Nat.le_of_ble_eq_true rfl) ?_
        refine c_wrong mk1 (fun μ2 hF2 hf2 hfl => ?_)
        refine e_zret dX10_lettersRead_34 rfl (by first | exact z0 | exact z1 | exact bI01 _ | assumption) ?_
        exact kf 1 p hps μ2 (hF1.trans (hF2.mono (fun q h => Or.inl h))) (fun f a c d => by rw [hf2 f c d]; exact hf1 f a) hfl
      | some k =>
        have eK' : (l[p]?).bind kindOf = some k := eK
        rw [eK] at hps
        rw [eK']
        simp only [] at hps
        have hk7' := (kAt_lt eK).1
        have hpl2 := (kAt_lt eK).2
        have hs : seeI (some k) = nI k := rfl
        rw [hs]
        obtain ⟨pm, km, lm⟩ := hX1.1.rMany
        obtain ⟨pb, kb, lb⟩ := hX1.1.rBy
        have vm := hR1.1
        refine e_is3 21 rfl dX10_lettersRead_20 (by decide) rfl ?_
        refine e_il3 22 rfl dX10_lettersRead_21 ?_
        first | refine e_if_geN 35 25 (by decide) rfl dX10_lettersRead_22 rfl (by omega) ?_ | refine e_if_ge 35 25 (by decide) rfl dX10_lettersRead_22 (fun h => ?_) (fun h => ?_)
        refine e_iconst (nI 0) 36 rfl dX10_lettersRead_35 ic_0 ?_
        refine e_is4 38 rfl dX10_lettersRead_36 (by decide) rfl ?_
        have srch : ∀ (gu j : Nat), j + gu = acc.length → (∀ t, t < j → ∀ h : t < acc.length, acc[t] ≠ k) → Ev E M_X10_lettersRead 0 0 38 [some (.ref m), some (.int (nI w)), some (.int (nI 1)), some (.int (nI k)), some (.int (nI j))] [] μ1 K := by
          intro gu
          induction gu with
          | zero =>
            intro j hj hno
            have hnin : k ∉ acc := fun hin => by
              obtain ⟨t, ht⟩ := List.getElem?_of_mem hin
              obtain ⟨ht1, ht2⟩ := List.getElem?_eq_some_iff.mp ht
              exact hno t (by omega) ht1 ht2
            rw [if_neg hnin] at hps
            refine e_il4 40 rfl dX10_lettersRead_38 ?_
            refine e_al0 41 rfl dX10_lettersRead_40 ?_
            refine e_getR 44 rfl dX10_lettersRead_41 f_X10_93 (by assumption) (by assumption) ?_
            refine e_il1 45 rfl dX10_lettersRead_44 ?_
            first | refine e_ialdv 46 rfl dX10_lettersRead_45 (by assumption) (by assumption) (by first | rfl | simp only [pk_mul, nI_add]) (by omega) (by omega) (by first | assumption | (simp only [mN_sF, mK_sF, mL_sF, mF_sF, mB_sF, mA_sF, mJ_sF, mP_sF, mO_sF, mN_sB, mK_sB, mL_sB, mF_sB, mB_sB, mA_sB, mJ_sB, mP_sB, mO_sB, mN_sA, mK_sA, mL_sA, mF_sA, mB_sA, mA_sA, mJ_sA, mP_sA, mO_sA, mN_sJ, mK_sJ, mL_sJ, mF_sJ, mB_sJ, mA_sJ, mJ_sJ, mP_sJ, mO_sJ, mN_sP, mK_sP, mL_sP, mF_sP, mB_sP, mA_sP, mJ_sP, mP_sP, mO_sP, mN_sO, mK_sO, mL_sO, mF_sO, mB_sO, mA_sO, mJ_sO, mP_sO, mO_sO, up2, if_true, if_false, eq_self, ite_true, ite_false, reduceIte, Nat.add_left_cancel_iff, Nat.add_eq_left, Nat.left_eq_add, Nat.reduceEqDiff]; assumption) | (simp only [mN_sF, mK_sF, mL_sF, mF_sF, mB_sF, mA_sF, mJ_sF, mP_sF, mO_sF, mN_sB, mK_sB, mL_sB, mF_sB, mB_sB, mA_sB, mJ_sB, mP_sB, mO_sB, mN_sA, mK_sA, mL_sA, mF_sA, mB_sA, mA_sA, mJ_sA, mP_sA, mO_sA, mN_sJ, mK_sJ, mL_sJ, mF_sJ, mB_sJ, mA_sJ, mJ_sJ, mP_sJ, mO_sJ, mN_sP, mK_sP, mL_sP, mF_sP, mB_sP, mA_sP, mJ_sP, mP_sP, mO_sP, mN_sO, mK_sO, mL_sO, mF_sO, mB_sO, mA_sO, mJ_sO, mP_sO, mO_sO, up2, if_true, if_false, eq_self, ite_true, ite_false, reduceIte, Nat.add_left_cancel_iff, Nat.add_eq_left, Nat.left_eq_add, Nat.reduceEqDiff]; done)) ?_ | refine e_iald 46 rfl dX10_lettersRead_45 (by assumption) (by assumption) (by first | rfl | simp only [pk_mul, nI_add]) (by omega) (by omega) ?_
            first | refine e_cmp_geN 81 49 (by decide) rfl dX10_lettersRead_46 rfl rfl (by omega) (by omega) (fun y3 => ?_) (fun y3 => ?_) | refine e_cmp_ge 81 49 (by decide) rfl dX10_lettersRead_46 (fun y3 => ?_) (fun y3 => ?_)
            rotate_left
            · omega
            refine e_al0 82 rfl dX10_lettersRead_81 ?_
            refine e_getR 85 rfl dX10_lettersRead_82 f_X10_90 (by assumption) (by assumption) ?_
            refine e_bipush (nI 7) 87 rfl dX10_lettersRead_85 bc_7 ?_
            refine e_il1 88 rfl dX10_lettersRead_87 ?_
            first | refine e_imulN 89 rfl dX10_lettersRead_88 rfl rfl ?_ | refine e_imul 89 rfl dX10_lettersRead_88 ?_
            refine e_al0 90 rfl dX10_lettersRead_89 ?_
            refine e_getR 93 rfl dX10_lettersRead_90 f_X10_93 (by assumption) (by assumption) ?_
            refine e_il1 94 rfl dX10_lettersRead_93 ?_
            first | refine e_ialdv 95 rfl dX10_lettersRead_94 (by assumption) (by assumption) (by first | rfl | simp only [pk_mul, nI_add]) (by omega) (by omega) (by first | assumption | (simp only [mN_sF, mK_sF, mL_sF, mF_sF, mB_sF, mA_sF, mJ_sF, mP_sF, mO_sF, mN_sB, mK_sB, mL_sB, mF_sB, mB_sB, mA_sB, mJ_sB, mP_sB, mO_sB, mN_sA, mK_sA, mL_sA, mF_sA, mB_sA, mA_sA, mJ_sA, mP_sA, mO_sA, mN_sJ, mK_sJ, mL_sJ, mF_sJ, mB_sJ, mA_sJ, mJ_sJ, mP_sJ, mO_sJ, mN_sP, mK_sP, mL_sP, mF_sP, mB_sP, mA_sP, mJ_sP, mP_sP, mO_sP, mN_sO, mK_sO, mL_sO, mF_sO, mB_sO, mA_sO, mJ_sO, mP_sO, mO_sO, up2, if_true, if_false, eq_self, ite_true, ite_false, reduceIte, Nat.add_left_cancel_iff, Nat.add_eq_left, Nat.left_eq_add, Nat.reduceEqDiff]; assumption) | (simp only [mN_sF, mK_sF, mL_sF, mF_sF, mB_sF, mA_sF, mJ_sF, mP_sF, mO_sF, mN_sB, mK_sB, mL_sB, mF_sB, mB_sB, mA_sB, mJ_sB, mP_sB, mO_sB, mN_sA, mK_sA, mL_sA, mF_sA, mB_sA, mA_sA, mJ_sA, mP_sA, mO_sA, mN_sJ, mK_sJ, mL_sJ, mF_sJ, mB_sJ, mA_sJ, mJ_sJ, mP_sJ, mO_sJ, mN_sP, mK_sP, mL_sP, mF_sP, mB_sP, mA_sP, mJ_sP, mP_sP, mO_sP, mN_sO, mK_sO, mL_sO, mF_sO, mB_sO, mA_sO, mJ_sO, mP_sO, mO_sO, up2, if_true, if_false, eq_self, ite_true, ite_false, reduceIte, Nat.add_left_cancel_iff, Nat.add_eq_left, Nat.left_eq_add, Nat.reduceEqDiff]; done)) ?_ | refine e_iald 95 rfl dX10_lettersRead_94 (by assumption) (by assumption) (by first | rfl | simp only [pk_mul, nI_add]) (by omega) (by omega) ?_
            first | refine e_iaddN 96 rfl dX10_lettersRead_95 rfl rfl ?_ | refine e_iadd 96 rfl dX10_lettersRead_95 ?_
            refine e_il3 97 rfl dX10_lettersRead_96 ?_
            refine e_iast 98 rfl dX10_lettersRead_97 (by assumption) (by assumption) (by first | rfl | simp only [pk_mul, nI_add]) (by omega) (by omega) ?_
            have km2 : mK (sA μ1 (m + 26) (7 * w + acc.length) (nI k)) (m + 27) = 13 := km
            have lm2 : mL (sA μ1 (m + 26) (7 * w + acc.length) (nI k)) (m + 27) = 2 := lm
            have vm2 : mA (sA μ1 (m + 26) (7 * w + acc.length) (nI k)) (m + 27) w = nI acc.length := by show up2 _ (m + 26) _ _ (m + 27) w = _; rw [up2_a (by omega)]; exact vm
            refine e_al0 99 rfl dX10_lettersRead_98 ?_
            refine e_getR 102 rfl dX10_lettersRead_99 f_X10_93 (by assumption) (by assumption) ?_
            refine e_il1 103 rfl dX10_lettersRead_102 ?_
            refine e_dup2 104 rfl dX10_lettersRead_103 rfl rfl ?_
            first | refine e_ialdv 105 rfl dX10_lettersRead_104 (by assumption) (by assumption) (by first | rfl | simp only [pk_mul, nI_add]) (by omega) (by omega) (by first | assumption | (simp only [mN_sF, mK_sF, mL_sF, mF_sF, mB_sF, mA_sF, mJ_sF, mP_sF, mO_sF, mN_sB, mK_sB, mL_sB, mF_sB, mB_sB, mA_sB, mJ_sB, mP_sB, mO_sB, mN_sA, mK_sA, mL_sA, mF_sA, mB_sA, mA_sA, mJ_sA, mP_sA, mO_sA, mN_sJ, mK_sJ, mL_sJ, mF_sJ, mB_sJ, mA_sJ, mJ_sJ, mP_sJ, mO_sJ, mN_sP, mK_sP, mL_sP, mF_sP, mB_sP, mA_sP, mJ_sP, mP_sP, mO_sP, mN_sO, mK_sO, mL_sO, mF_sO, mB_sO, mA_sO, mJ_sO, mP_sO, mO_sO, up2, if_true, if_false, eq_self, ite_true, ite_false, reduceIte, Nat.add_left_cancel_iff, Nat.add_eq_left, Nat.left_eq_add, Nat.reduceEqDiff]; assumption) | (simp only [mN_sF, mK_sF, mL_sF, mF_sF, mB_sF, mA_sF, mJ_sF, mP_sF, mO_sF, mN_sB, mK_sB, mL_sB, mF_sB, mB_sB, mA_sB, mJ_sB, mP_sB, mO_sB, mN_sA, mK_sA, mL_sA, mF_sA, mB_sA, mA_sA, mJ_sA, mP_sA, mO_sA, mN_sJ, mK_sJ, mL_sJ, mF_sJ, mB_sJ, mA_sJ, mJ_sJ, mP_sJ, mO_sJ, mN_sP, mK_sP, mL_sP, mF_sP, mB_sP, mA_sP, mJ_sP, mP_sP, mO_sP, mN_sO, mK_sO, mL_sO, mF_sO, mB_sO, mA_sO, mJ_sO, mP_sO, mO_sO, up2, if_true, if_false, eq_self, ite_true, ite_false, reduceIte, Nat.add_left_cancel_iff, Nat.add_eq_left, Nat.left_eq_add, Nat.reduceEqDiff]; done)) ?_ | refine e_iald 105 rfl dX10_lettersRead_104 (by assumption) (by assumption) (by first | rfl | simp only [pk_mul, nI_add]) (by omega) (by omega) ?_
            refine e_iconst (nI 1) 106 rfl dX10_lettersRead_105 ic_1 ?_
            first | refine e_iaddN 107 rfl dX10_lettersRead_106 rfl rfl ?_ | refine e_iadd 107 rfl dX10_lettersRead_106 ?_
            refine e_iast 108 rfl dX10_lettersRead_107 (by assumption) (by assumption) (by first | rfl | simp only [pk_mul, nI_add]) (by omega) (by omega) ?_
            have hF3 : Fr (fun q => q = m + 26 ∨ q = m + 27) μ1 (sA (sA μ1 (m + 26) (7 * w + acc.length) (nI k)) (m + 27) w (nI (acc.length + 1))) := ((Fr.rf (S := fun q => q = m + 26 ∨ q = m + 27)).sA (Or.inl rfl) _ _).sA (Or.inr rfl) _ _
            have a26 : ∀ u, mA (sA (sA μ1 (m + 26) (7 * w + acc.length) (nI k)) (m + 27) w (nI (acc.length + 1))) (m + 26) u = if u = 7 * w + acc.length then nI k else mA μ1 (m + 26) u := fun u => by
              show up2 (up2 _ (m + 26) _ _) (m + 27) _ _ (m + 26) u = _
              rw [up2_a (by omega)]
              by_cases c : u = 7 * w + acc.length
              · rw [if_pos c, c, up2_s]
              · rw [if_neg c, up2_k c]
            have a27 : ∀ u, mA (sA (sA μ1 (m + 26) (7 * w + acc.length) (nI k)) (m + 27) w (nI (acc.length + 1))) (m + 27) u = if u = w then nI (acc.length + 1) else mA μ1 (m + 27) u := fun u => by
              show up2 (up2 _ (m + 26) _ _) (m + 27) _ _ (m + 27) u = _
              by_cases c : u = w
              · rw [if_pos c, c, up2_s]
              · rw [if_neg c, up2_k c, up2_a (by omega)]
            clear km2 lm2 vm2
            generalize sA (sA μ1 (m + 26) (7 * w + acc.length) (nI k)) (m + 27) w (nI (acc.length + 1)) = μ3 at hF3 a26 a27 ⊢
            have fm3 : mF μ3 m = mF μ1 m := (hF3.2.2.2.2.2 m (by omega)).1
            have hX3 : Mx μ3 m l p := hX1.fr hF3 (by rw [fm3]) (by rw [fm3]) (by omega)
            have mk3 := hX3.1.1
            have h293 := hX3.2.1
            have hR3 : rLt μ3 m w (acc ++ [k]) := by
              refine ⟨by rw [a27, if_pos rfl, List.length_append]; rfl, hR1.2.push (fun i hi => ?_) ?_⟩
              · rw [a26, if_neg (by omega)]
              · rw [a26, if_pos rfl]
            have hX4 := hX3.to (p' := p + 1) (by omega)
            refine e_al0 109 rfl dX10_lettersRead_108 ?_
            refine e_dup 110 rfl dX10_lettersRead_109 rfl ?_
            first | refine e_getIv 113 rfl dX10_lettersRead_110 f_X10_135 (by assumption) (by first | assumption | (simp only [mN_sF, mK_sF, mL_sF, mF_sF, mB_sF, mA_sF, mJ_sF, mP_sF, mO_sF, mN_sB, mK_sB, mL_sB, mF_sB, mB_sB, mA_sB, mJ_sB, mP_sB, mO_sB, mN_sA, mK_sA, mL_sA, mF_sA, mB_sA, mA_sA, mJ_sA, mP_sA, mO_sA, mN_sJ, mK_sJ, mL_sJ, mF_sJ, mB_sJ, mA_sJ, mJ_sJ, mP_sJ, mO_sJ, mN_sP, mK_sP, mL_sP, mF_sP, mB_sP, mA_sP, mJ_sP, mP_sP, mO_sP, mN_sO, mK_sO, mL_sO, mF_sO, mB_sO, mA_sO, mJ_sO, mP_sO, mO_sO, up2, if_true, if_false, eq_self, ite_true, ite_false, reduceIte, Nat.add_left_cancel_iff, Nat.add_eq_left, Nat.left_eq_add, Nat.reduceEqDiff]; assumption) | (simp only [mN_sF, mK_sF, mL_sF, mF_sF, mB_sF, mA_sF, mJ_sF, mP_sF, mO_sF, mN_sB, mK_sB, mL_sB, mF_sB, mB_sB, mA_sB, mJ_sB, mP_sB, mO_sB, mN_sA, mK_sA, mL_sA, mF_sA, mB_sA, mA_sA, mJ_sA, mP_sA, mO_sA, mN_sJ, mK_sJ, mL_sJ, mF_sJ, mB_sJ, mA_sJ, mJ_sJ, mP_sJ, mO_sJ, mN_sP, mK_sP, mL_sP, mF_sP, mB_sP, mA_sP, mJ_sP, mP_sP, mO_sP, mN_sO, mK_sO, mL_sO, mF_sO, mB_sO, mA_sO, mJ_sO, mP_sO, mO_sO, up2, if_true, if_false, eq_self, ite_true, ite_false, reduceIte, Nat.add_left_cancel_iff, Nat.add_eq_left, Nat.left_eq_add, Nat.reduceEqDiff]; done)) ?_ | refine e_getI 113 rfl dX10_lettersRead_110 f_X10_135 (by assumption) ?_
            refine e_iconst (nI 1) 114 rfl dX10_lettersRead_113 ic_1 ?_
            first | refine e_iaddN 115 rfl dX10_lettersRead_114 rfl rfl ?_ | refine e_iadd 115 rfl dX10_lettersRead_114 ?_
            refine e_putI 118 rfl dX10_lettersRead_115 f_X10_135 (by assumption) ?_
            have hF4 : Fr (ltS m) μ (sF μ3 m 29 (nI (p + 1))) := (hF1.trans (hF3.mono (fun q h => by rcases h with h | h; exact Or.inr (Or.inl h); exact Or.inr (Or.inr h)))).sF Sm _ _
            have hf4 : ∀ f, f ≠ 29 → mF (sF μ3 m 29 (nI (p + 1))) m f = mF μ m f := fun f a => by
              show up2 _ m 29 _ m f = _
              rw [up2_k a, fm3]; exact hf1 f a
            have hR4 : rLt (sF μ3 m 29 (nI (p + 1))) m w (acc ++ [k]) := by unfold rLt; rw [mA_sF]; exact hR3
            have hu4 : ∀ u, u ≠ w → mA (sF μ3 m 29 (nI (p + 1))) (m + 27) u = mA μ (m + 27) u := fun u hu => by rw [mA_sF, a27, if_neg hu]; exact hu1 u hu
            have hv4 : ∀ u, ¬ (7 * w ≤ u ∧ u < 7 * w + 7) → mA (sF μ3 m 29 (nI (p + 1))) (m + 26) u = mA μ (m + 26) u := fun u hu => by rw [mA_sF, a26, if_neg (by omega)]; exact hv1 u hu
            generalize sF μ3 m 29 (nI (p + 1)) = μ4 at hX4 hF4 hf4 hR4 hu4 hv4 ⊢
            have mk4 := hX4.1.1
            have h294 := hX4.2.1
            have e59 := seeI_eq (hlt (p + 1)) (d := 59) (by decide)
            refine e_al0 119 rfl dX10_lettersRead_118 ?_
            refine e_invV0 [] 122 rfl dX10_lettersRead_119 k_X10_144 mo_X10_see rm_X10_lettersRead_X10_see ⟨rfl, rfl⟩ rfl rfl (by assumption) (Nat.le_of_ble_eq_true rfl) ?_
            refine c_see hX4 ?_
            refine e_bipush (nI 59) 124 rfl dX10_lettersRead_122 bc_59 ?_
            refine e_cmp_eq 131 127 (by decide) rfl dX10_lettersRead_124 (fun y5 => ?_) (fun y5 => ?_)
            · have h59 := e59.mp y5
              have hp2 := (List.getElem?_eq_some_iff.mp h59).1
              rw [pLt_eq] at hps
              have hkn : kAt l (p + 1) = none := by unfold kAt; rw [h59]; rfl
              rw [hkn] at hps
              simp only [] at hps
              rw [if_pos ⟨by simp, h59⟩] at hps
              have hX7 := hX4.to (p' := p + 1 + 1) (by omega)
              refine e_iconst (nI 0) 132 rfl dX10_lettersRead_131 ic_0 ?_
              refine e_is2 133 rfl dX10_lettersRead_132 (by decide) rfl ?_
              refine e_goto 9 (by decide) dX10_lettersRead_133 ?_
              refine e_il2 10 rfl dX10_lettersRead_9 ?_
              first | refine e_if_eqB 136 13 (by decide) rfl dX10_lettersRead_10 rfl (fun y6 => ?_) (fun y6 => ?_) | refine e_if_eqN 136 13 (by decide) rfl dX10_lettersRead_10 rfl (by omega) (fun y6 => ?_) (fun y6 => ?_) | refine e_if_eq 136 13 (by decide) rfl dX10_lettersRead_10 (fun y6 => ?_) (fun y6 => ?_)
              rotate_left
              · exact absurd y6 (by decide)
              refine e_al0 137 rfl dX10_lettersRead_136 ?_
              refine e_dup 138 rfl dX10_lettersRead_137 rfl ?_
              first | refine e_getIv 141 rfl dX10_lettersRead_138 f_X10_135 (by assumption) (by first | assumption | (simp only [mN_sF, mK_sF, mL_sF, mF_sF, mB_sF, mA_sF, mJ_sF, mP_sF, mO_sF, mN_sB, mK_sB, mL_sB, mF_sB, mB_sB, mA_sB, mJ_sB, mP_sB, mO_sB, mN_sA, mK_sA, mL_sA, mF_sA, mB_sA, mA_sA, mJ_sA, mP_sA, mO_sA, mN_sJ, mK_sJ, mL_sJ, mF_sJ, mB_sJ, mA_sJ, mJ_sJ, mP_sJ, mO_sJ, mN_sP, mK_sP, mL_sP, mF_sP, mB_sP, mA_sP, mJ_sP, mP_sP, mO_sP, mN_sO, mK_sO, mL_sO, mF_sO, mB_sO, mA_sO, mJ_sO, mP_sO, mO_sO, up2, if_true, if_false, eq_self, ite_true, ite_false, reduceIte, Nat.add_left_cancel_iff, Nat.add_eq_left, Nat.left_eq_add, Nat.reduceEqDiff]; assumption) | (simp only [mN_sF, mK_sF, mL_sF, mF_sF, mB_sF, mA_sF, mJ_sF, mP_sF, mO_sF, mN_sB, mK_sB, mL_sB, mF_sB, mB_sB, mA_sB, mJ_sB, mP_sB, mO_sB, mN_sA, mK_sA, mL_sA, mF_sA, mB_sA, mA_sA, mJ_sA, mP_sA, mO_sA, mN_sJ, mK_sJ, mL_sJ, mF_sJ, mB_sJ, mA_sJ, mJ_sJ, mP_sJ, mO_sJ, mN_sP, mK_sP, mL_sP, mF_sP, mB_sP, mA_sP, mJ_sP, mP_sP, mO_sP, mN_sO, mK_sO, mL_sO, mF_sO, mB_sO, mA_sO, mJ_sO, mP_sO, mO_sO, up2, if_true, if_false, eq_self, ite_true, ite_false, reduceIte, Nat.add_left_cancel_iff, Nat.add_eq_left, Nat.left_eq_add, Nat.reduceEqDiff]; done)) ?_ | refine e_getI 141 rfl dX10_lettersRead_138 f_X10_135 (by assumption) ?_
              refine e_iconst (nI 1) 142 rfl dX10_lettersRead_141 ic_1 ?_
              first | refine e_iaddN 143 rfl dX10_lettersRead_142 rfl rfl ?_ | refine e_iadd 143 rfl dX10_lettersRead_142 ?_
              refine e_putI 146 rfl dX10_lettersRead_143 f_X10_135 (by assumption) ?_
              refine e_iconst (nI 1) 147 rfl dX10_lettersRead_146 ic_1 ?_
              refine e_zret dX10_lettersRead_147 rfl (by first | exact z0 | exact z1 | exact bI01 _ | assumption) ?_
              refine kt (p + 1 + 1) _ hps _ (hF4.sF Sm _ _) (fun f a => ?_) hX7 (by unfold rLt; rw [mA_sF]; exact hR4) (by rw [mA_sF]; exact hu4) (by rw [mA_sF]; exact hv4) (by omega)
              show up2 _ m 29 _ m f = _
              rw [up2_k a]; exact hf4 f a
            · refine e_iconst (nI 1) 128 rfl dX10_lettersRead_127 ic_1 ?_
              refine e_goto 132 (by decide) dX10_lettersRead_128 ?_
              refine e_is2 133 rfl dX10_lettersRead_132 (by decide) rfl ?_
              refine e_goto 9 (by decide) dX10_lettersRead_133 ?_
              refine e_il2 10 rfl dX10_lettersRead_9 ?_
              first | refine e_if_eqB 136 13 (by decide) rfl dX10_lettersRead_10 rfl (fun y6 => ?_) (fun y6 => ?_) | refine e_if_eqN 136 13 (by decide) rfl dX10_lettersRead_10 rfl (by omega) (fun y6 => ?_) (fun y6 => ?_) | refine e_if_eq 136 13 (by decide) rfl dX10_lettersRead_10 (fun y6 => ?_) (fun y6 => ?_)
              · exact absurd y6 (by decide)
              refine ih (acc ++ [k]) (p + 1) (by rw [List.length_append, List.length_singleton]; omega) μ4 _ _ hps ?_ (fun x hx => ?_) (Or.inr (fun q => y5 (e59.mpr q))) hF4 hf4 hX4 hR4 hu4 hv4 (by omega)
              · rw [List.nodup_append]
                exact ⟨hnd, by simp, fun x hx y hy => by simp at hy; subst hy; exact fun e => hnin (e ▸ hx)⟩
              · rcases List.mem_append.mp hx with q | q
                · exact hk7 x q
                · simp at q; omega
          | succ gu ihj =>
            intro j hj hno
            have hjl : j < acc.length := by omega
            have vb : mA μ1 (m + 26) (7 * w + j) = nI acc[j] := hR1.2.at hjl
            have hc7 := hk7 _ (List.getElem_mem hjl)
            refine e_il4 40 rfl dX10_lettersRead_38 ?_
            refine e_al0 41 rfl dX10_lettersRead_40 ?_
            refine e_getR 44 rfl dX10_lettersRead_41 f_X10_93 (by assumption) (by assumption) ?_
            refine e_il1 45 rfl dX10_lettersRead_44 ?_
            first | refine e_ialdv 46 rfl dX10_lettersRead_45 (by assumption) (by assumption) (by first | rfl | simp only [pk_mul, nI_add]) (by omega) (by omega) (by first | assumption | (simp only [mN_sF, mK_sF, mL_sF, mF_sF, mB_sF, mA_sF, mJ_sF, mP_sF, mO_sF, mN_sB, mK_sB, mL_sB, mF_sB, mB_sB, mA_sB, mJ_sB, mP_sB, mO_sB, mN_sA, mK_sA, mL_sA, mF_sA, mB_sA, mA_sA, mJ_sA, mP_sA, mO_sA, mN_sJ, mK_sJ, mL_sJ, mF_sJ, mB_sJ, mA_sJ, mJ_sJ, mP_sJ, mO_sJ, mN_sP, mK_sP, mL_sP, mF_sP, mB_sP, mA_sP, mJ_sP, mP_sP, mO_sP, mN_sO, mK_sO, mL_sO, mF_sO, mB_sO, mA_sO, mJ_sO, mP_sO, mO_sO, up2, if_true, if_false, eq_self, ite_true, ite_false, reduceIte, Nat.add_left_cancel_iff, Nat.add_eq_left, Nat.left_eq_add, Nat.reduceEqDiff]; assumption) | (simp only [mN_sF, mK_sF, mL_sF, mF_sF, mB_sF, mA_sF, mJ_sF, mP_sF, mO_sF, mN_sB, mK_sB, mL_sB, mF_sB, mB_sB, mA_sB, mJ_sB, mP_sB, mO_sB, mN_sA, mK_sA, mL_sA, mF_sA, mB_sA, mA_sA, mJ_sA, mP_sA, mO_sA, mN_sJ, mK_sJ, mL_sJ, mF_sJ, mB_sJ, mA_sJ, mJ_sJ, mP_sJ, mO_sJ, mN_sP, mK_sP, mL_sP, mF_sP, mB_sP, mA_sP, mJ_sP, mP_sP, mO_sP, mN_sO, mK_sO, mL_sO, mF_sO, mB_sO, mA_sO, mJ_sO, mP_sO, mO_sO, up2, if_true, if_false, eq_self, ite_true, ite_false, reduceIte, Nat.add_left_cancel_iff, Nat.add_eq_left, Nat.left_eq_add, Nat.reduceEqDiff]; done)) ?_ | refine e_iald 46 rfl dX10_lettersRead_45 (by assumption) (by assumption) (by first | rfl | simp only [pk_mul, nI_add]) (by omega) (by omega) ?_
            first | refine e_cmp_geN 81 49 (by decide) rfl dX10_lettersRead_46 rfl rfl (by omega) (by omega) (fun y3 => ?_) (fun y3 => ?_) | refine e_cmp_ge 81 49 (by decide) rfl dX10_lettersRead_46 (fun y3 => ?_) (fun y3 => ?_)
            · omega
            refine e_al0 50 rfl dX10_lettersRead_49 ?_
            refine e_getR 53 rfl dX10_lettersRead_50 f_X10_90 (by assumption) (by assumption) ?_
            refine e_bipush (nI 7) 55 rfl dX10_lettersRead_53 bc_7 ?_
            refine e_il1 56 rfl dX10_lettersRead_55 ?_
            first | refine e_imulN 57 rfl dX10_lettersRead_56 rfl rfl ?_ | refine e_imul 57 rfl dX10_lettersRead_56 ?_
            refine e_il4 59 rfl dX10_lettersRead_57 ?_
            first | refine e_iaddN 60 rfl dX10_lettersRead_59 rfl rfl ?_ | refine e_iadd 60 rfl dX10_lettersRead_59 ?_
            first | refine e_ialdv 61 rfl dX10_lettersRead_60 (by assumption) (by assumption) (by first | rfl | simp only [pk_mul, nI_add]) (by omega) (by omega) (by first | assumption | (simp only [mN_sF, mK_sF, mL_sF, mF_sF, mB_sF, mA_sF, mJ_sF, mP_sF, mO_sF, mN_sB, mK_sB, mL_sB, mF_sB, mB_sB, mA_sB, mJ_sB, mP_sB, mO_sB, mN_sA, mK_sA, mL_sA, mF_sA, mB_sA, mA_sA, mJ_sA, mP_sA, mO_sA, mN_sJ, mK_sJ, mL_sJ, mF_sJ, mB_sJ, mA_sJ, mJ_sJ, mP_sJ, mO_sJ, mN_sP, mK_sP, mL_sP, mF_sP, mB_sP, mA_sP, mJ_sP, mP_sP, mO_sP, mN_sO, mK_sO, mL_sO, mF_sO, mB_sO, mA_sO, mJ_sO, mP_sO, mO_sO, up2, if_true, if_false, eq_self, ite_true, ite_false, reduceIte, Nat.add_left_cancel_iff, Nat.add_eq_left, Nat.left_eq_add, Nat.reduceEqDiff]; assumption) | (simp only [mN_sF, mK_sF, mL_sF, mF_sF, mB_sF, mA_sF, mJ_sF, mP_sF, mO_sF, mN_sB, mK_sB, mL_sB, mF_sB, mB_sB, mA_sB, mJ_sB, mP_sB, mO_sB, mN_sA, mK_sA, mL_sA, mF_sA, mB_sA, mA_sA, mJ_sA, mP_sA, mO_sA, mN_sJ, mK_sJ, mL_sJ, mF_sJ, mB_sJ, mA_sJ, mJ_sJ, mP_sJ, mO_sJ, mN_sP, mK_sP, mL_sP, mF_sP, mB_sP, mA_sP, mJ_sP, mP_sP, mO_sP, mN_sO, mK_sO, mL_sO, mF_sO, mB_sO, mA_sO, mJ_sO, mP_sO, mO_sO, up2, if_true, if_false, eq_self, ite_true, ite_false, reduceIte, Nat.add_left_cancel_iff, Nat.add_eq_left, Nat.left_eq_add, Nat.reduceEqDiff]; done)) ?_ | refine e_iald 61 rfl dX10_lettersRead_60 (by assumption) (by assumption) (by first | rfl | simp only [pk_mul, nI_add]) (by omega) (by omega) ?_
            refine e_il3 62 rfl dX10_lettersRead_61 ?_
            first | refine e_cmp_neN 75 65 (by decide) rfl dX10_lettersRead_62 rfl rfl (by omega) (by omega) (fun y4 => ?_) (fun y4 => ?_) | refine e_cmp_ne 75 65 (by decide) rfl dX10_lettersRead_62 (fun y4 => ?_) (fun y4 => ?_)
            · refine e_ii4 (nI (_ + 1)) 78 rfl dX10_lettersRead_75 (ii1 _) rfl ?_
              refine e_goto 38 (by decide) dX10_lettersRead_78 ?_
              refine ihj (j + 1) (by omega) (fun t ht h => ?_)
              by_cases c : t = j
              · subst c; exact y4
              · exact hno t (by omega) h
            · rw [if_pos (by rw [← y4]; exact List.getElem_mem hjl)] at hps
              refine e_al0 66 rfl dX10_lettersRead_65 ?_
              refine e_iconst (nI 3) 67 rfl dX10_lettersRead_66 ic_3 ?_
              refine e_al0 68 rfl dX10_lettersRead_67 ?_
              first | refine e_getIv 71 rfl dX10_lettersRead_68 f_X10_135 (by assumption) (by first | assumption | (simp only [mN_sF, mK_sF, mL_sF, mF_sF, mB_sF, mA_sF, mJ_sF, mP_sF, mO_sF, mN_sB, mK_sB, mL_sB, mF_sB, mB_sB, mA_sB, mJ_sB, mP_sB, mO_sB, mN_sA, mK_sA, mL_sA, mF_sA, mB_sA, mA_sA, mJ_sA, mP_sA, mO_sA, mN_sJ, mK_sJ, mL_sJ, mF_sJ, mB_sJ, mA_sJ, mJ_sJ, mP_sJ, mO_sJ, mN_sP, mK_sP, mL_sP, mF_sP, mB_sP, mA_sP, mJ_sP, mP_sP, mO_sP, mN_sO, mK_sO, mL_sO, mF_sO, mB_sO, mA_sO, mJ_sO, mP_sO, mO_sO, up2, if_true, if_false, eq_self, ite_true, ite_false, reduceIte, Nat.add_left_cancel_iff, Nat.add_eq_left, Nat.left_eq_add, Nat.reduceEqDiff]; assumption) | (simp only [mN_sF, mK_sF, mL_sF, mF_sF, mB_sF, mA_sF, mJ_sF, mP_sF, mO_sF, mN_sB, mK_sB, mL_sB, mF_sB, mB_sB, mA_sB, mJ_sB, mP_sB, mO_sB, mN_sA, mK_sA, mL_sA, mF_sA, mB_sA, mA_sA, mJ_sA, mP_sA, mO_sA, mN_sJ, mK_sJ, mL_sJ, mF_sJ, mB_sJ, mA_sJ, mJ_sJ, mP_sJ, mO_sJ, mN_sP, mK_sP, mL_sP, mF_sP, mB_sP, mA_sP, mJ_sP, mP_sP, mO_sP, mN_sO, mK_sO, mL_sO, mF_sO, mB_sO, mA_sO, mJ_sO, mP_sO, mO_sO, up2, if_true, if_false, eq_self, ite_true, ite_false, reduceIte, Nat.add_left_cancel_iff, Nat.add_eq_left, Nat.left_eq_add, Nat.reduceEqDiff]; done)) ?_ | refine e_getI 71 rfl dX10_lettersRead_68 f_X10_135 (by assumption) ?_
              refine e_invV0 [_, _] 74 rfl dX10_lettersRead_71 k_X10_152 mo_X10_wrong rm_X10_lettersRead_X10_wrong ⟨rfl, rfl⟩ rfl rfl (by assumption) (Nat.le_of_ble_eq_true rfl) ?_
              refine c_wrong mk1 (fun μ2 hF2 hf2 hfl => ?_)
              refine e_zret dX10_lettersRead_74 rfl (by first | exact z0 | exact z1 | exact bI01 _ | assumption) ?_
              exact kf 3 p hps μ2 (hF1.trans (hF2.mono (fun q h => Or.inl h))) (fun f a c d => by rw [hf2 f c d]; exact hf1 f a) hfl
        exact srch acc.length 0 (by omega) (fun t ht => by omega)
  have mk0 := hX.1.1
  obtain ⟨pm, km, lm⟩ := hX.1.rMany
  have hX1 : Mx (sA μ (m + 27) w (nI 0)) m l p0 := hX.fr ((Fr.rf (S := fun q => q = m + 27)).sA rfl w (nI 0)) rfl rfl (by omega)
  refine Cl.of0 3 pn_X10 (Nat.le_of_ble_eq_true rfl) ⟨rfl, rfl⟩ rfl ?_
  refine e_al0 1 rfl dX10_lettersRead_0 ?_
  refine e_getR 4 rfl dX10_lettersRead_1 f_X10_93 (by assumption) (by assumption) ?_
  refine e_il1 5 rfl dX10_lettersRead_4 ?_
  refine e_iconst (nI 0) 6 rfl dX10_lettersRead_5 ic_0 ?_
  refine e_iast 7 rfl dX10_lettersRead_6 (by assumption) (by assumption) (by first | rfl | simp only [pk_mul, nI_add]) (by omega) (by omega) ?_
  refine e_iconst (nI 1) 8 rfl dX10_lettersRead_7 ic_1 ?_
  refine e_is2 9 rfl dX10_lettersRead_8 (by decide) rfl ?_
  refine e_il2 10 rfl dX10_lettersRead_9 ?_
  first | refine e_if_eqB 136 13 (by decide) rfl dX10_lettersRead_10 rfl (fun y1 => ?_) (fun y1 => ?_) | refine e_if_eqN 136 13 (by decide) rfl dX10_lettersRead_10 rfl (by omega) (fun y1 => ?_) (fun y1 => ?_) | refine e_if_eq 136 13 (by decide) rfl dX10_lettersRead_10 (fun y1 => ?_) (fun y1 => ?_)
  · exact absurd y1 (by decide)
  refine loop 7 [] p0 rfl _ _ _ hRe List.nodup_nil (fun k hk => by simp at hk) (Or.inl rfl) ((Fr.rf (S := ltS m)).sA S27 w (nI 0)) (fun f a => rfl) hX1 ⟨?_, Hd.nil⟩ (fun u hu => ?_) (fun u hu => ?_) hp0
  · show up2 _ (m + 27) _ _ (m + 27) _ = _
    rw [up2_s]; rfl
  · show up2 _ (m + 27) _ _ (m + 27) _ = _
    rw [up2_k hu]
  · show up2 _ (m + 27) _ _ (m + 26) _ = _
    rw [up2_a (by omega)]
def pTail (l : List Nat) (p : Nat) : (Nat × Nat) ⊕ List Nat := match pEnd l p with
  | .inl e => .inl e
  | .inr (p4, en) => if l[p4]? = some 46 then (if p4 + 1 < l.length then .inl (1, p4 + 1) else .inr en) else .inl (1, p4)
def enS (m : Nat) : Nat → Prop := fun q => q = m ∨ q = m + 28
theorem c_endingRead {m p0 : Nat} {l : List Nat} (hX : Mx μ m l p0) (hp0 : p0 ≤ l.length)
    (kt : ∀ en, pTail l p0 = .inr en → ∀ μ', Fr (enS m) μ μ' → (∀ f, f ≠ 29 → f ≠ 36 → mF μ' m f = mF μ m f) → Mg μ' m → mF μ' m 36 = nI en.length → Hd (mA μ' (m + 28)) en → en.length ≤ 6 → K (some (.int (nI 1))) μ')
    (kf : ∀ f p, pTail l p0 = .inl (f, p) → ∀ μ', Fr (enS m) μ μ' → (∀ f, f ≠ 29 → f ≠ 36 → f ≠ 18 → f ≠ 19 → mF μ' m f = mF μ m f) → Mflt μ' m f p → K (some (.int (nI 0))) μ') : Cl E M_X10_endingRead [.ref m] μ K := by
  have Sm : enS m m := Or.inl rfl
  have S28 : enS m (m + 28) := Or.inr rfl
  have l4 := hX.2.2.2.2.1
  have hlt := hX.lt
  obtain ⟨R, hRe⟩ : ∃ R, R = pTail l p0 := ⟨_, rfl⟩
  rw [← hRe] at kt kf
  -- the end
  have fin : ∀ p en μ1 l1 l2, R = (if l[p]? = some 46 then (if p + 1 < l.length then .inl (1, p + 1) else .inr en) else .inl (1, p)) → p ≤ l.length → en.length ≤ 6 → Fr (enS m) μ μ1 → (∀ f, f ≠ 29 → f ≠ 36 → mF μ1 m f = mF μ m f) → Mx μ1 m l p → mF μ1 m 36 = nI en.length → Hd (mA μ1 (m + 28)) en → Ev E M_X10_endingRead 0 0 127 [some (.ref m), l1, l2] [] μ1 K := by
    intro p en μ1 l1 l2 hps hpl he6 hF1 hf1 hX1 h36 hH1
    have mk1 := hX1.1.1
    have h29 := hX1.2.1
    have e46 := seeI_eq (hlt p) (d := 46) (by decide)
    refine e_al0 128 rfl dX10_endingRead_127 ?_
    refine e_invV0 [] 131 rfl dX10_endingRead_128 k_X10_144 mo_X10_see rm_X10_endingRead_X10_see ⟨rfl, rfl⟩ rfl rfl (by assumption) (Nat.le_of_ble_eq_true rfl) ?_
    refine c_see hX1 ?_
    refine e_bipush (nI 46) 133 rfl dX10_endingRead_131 bc_46 ?_
    refine e_cmp_eq 146 136 (by decide) rfl dX10_endingRead_133 (fun y1 => ?_) (fun y1 => ?_)
    rotate_left
    · rw [if_neg (fun q => y1 (e46.mpr q))] at hps
      refine e_al0 137 rfl dX10_endingRead_136 ?_
      refine e_iconst (nI 1) 138 rfl dX10_endingRead_137 ic_1 ?_
      refine e_al0 139 rfl dX10_endingRead_138 ?_
      first | refine e_getIv 142 rfl dX10_endingRead_139 f_X10_135 (by assumption) (by first | assumption | (simp only [mN_sF, mK_sF, mL_sF, mF_sF, mB_sF, mA_sF, mJ_sF, mP_sF, mO_sF, mN_sB, mK_sB, mL_sB, mF_sB, mB_sB, mA_sB, mJ_sB, mP_sB, mO_sB, mN_sA, mK_sA, mL_sA, mF_sA, mB_sA, mA_sA, mJ_sA, mP_sA, mO_sA, mN_sJ, mK_sJ, mL_sJ, mF_sJ, mB_sJ, mA_sJ, mJ_sJ, mP_sJ, mO_sJ, mN_sP, mK_sP, mL_sP, mF_sP, mB_sP, mA_sP, mJ_sP, mP_sP, mO_sP, mN_sO, mK_sO, mL_sO, mF_sO, mB_sO, mA_sO, mJ_sO, mP_sO, mO_sO, up2, if_true, if_false, eq_self, ite_true, ite_false, reduceIte, Nat.add_left_cancel_iff, Nat.add_eq_left, Nat.left_eq_add, Nat.reduceEqDiff]; assumption) | (simp only [mN_sF, mK_sF, mL_sF, mF_sF, mB_sF, mA_sF, mJ_sF, mP_sF, mO_sF, mN_sB, mK_sB, mL_sB, mF_sB, mB_sB, mA_sB, mJ_sB, mP_sB, mO_sB, mN_sA, mK_sA, mL_sA, mF_sA, mB_sA, mA_sA, mJ_sA, mP_sA, mO_sA, mN_sJ, mK_sJ, mL_sJ, mF_sJ, mB_sJ, mA_sJ, mJ_sJ, mP_sJ, mO_sJ, mN_sP, mK_sP, mL_sP, mF_sP, mB_sP, mA_sP, mJ_sP, mP_sP, mO_sP, mN_sO, mK_sO, mL_sO, mF_sO, mB_sO, mA_sO, mJ_sO, mP_sO, mO_sO, up2, if_true, if_false, eq_self, ite_true, ite_false, reduceIte, Nat.add_left_cancel_iff, Nat.add_eq_left, Nat.left_eq_add, Nat.reduceEqDiff]; done)) ?_ | refine e_getI 142 rfl dX10_endingRead_139 f_X10_135 (by assumption) ?_
      refine e_invV0 [_, _] 145 rfl dX10_endingRead_142 k_X10_152 mo_X10_wrong rm_X10_endingRead_X10_wrong ⟨rfl, rfl⟩ rfl rfl (by assumption) (Nat.le_of_ble_eq_true rfl) ?_
      refine c_wrong mk1 (fun μ2 hF2 hf2 hfl => ?_)
      refine e_zret dX10_endingRead_145 rfl (by first | exact z0 | exact z1 | exact bI01 _ | assumption) ?_
      exact kf 1 p hps μ2 (hF1.trans (hF2.mono (fun q h => Or.inl h))) (fun f a b c d => by rw [hf2 f c d]; exact hf1 f a b) hfl
    have h46 := e46.mp y1
    have hp2 := (List.getElem?_eq_some_iff.mp h46).1
    rw [if_pos h46] at hps
    have hX2 := hX1.to (p' := p + 1) (by omega)
    refine e_al0 147 rfl dX10_endingRead_146 ?_
    refine e_dup 148 rfl dX10_endingRead_147 rfl ?_
    first | refine e_getIv 151 rfl dX10_endingRead_148 f_X10_135 (by assumption) (by first | assumption | (simp only [mN_sF, mK_sF, mL_sF, mF_sF, mB_sF, mA_sF, mJ_sF, mP_sF, mO_sF, mN_sB, mK_sB, mL_sB, mF_sB, mB_sB, mA_sB, mJ_sB, mP_sB, mO_sB, mN_sA, mK_sA, mL_sA, mF_sA, mB_sA, mA_sA, mJ_sA, mP_sA, mO_sA, mN_sJ, mK_sJ, mL_sJ, mF_sJ, mB_sJ, mA_sJ, mJ_sJ, mP_sJ, mO_sJ, mN_sP, mK_sP, mL_sP, mF_sP, mB_sP, mA_sP, mJ_sP, mP_sP, mO_sP, mN_sO, mK_sO, mL_sO, mF_sO, mB_sO, mA_sO, mJ_sO, mP_sO, mO_sO, up2, if_true, if_false, eq_self, ite_true, ite_false, reduceIte, Nat.add_left_cancel_iff, Nat.add_eq_left, Nat.left_eq_add, Nat.reduceEqDiff]; assumption) | (simp only [mN_sF, mK_sF, mL_sF, mF_sF, mB_sF, mA_sF, mJ_sF, mP_sF, mO_sF, mN_sB, mK_sB, mL_sB, mF_sB, mB_sB, mA_sB, mJ_sB, mP_sB, mO_sB, mN_sA, mK_sA, mL_sA, mF_sA, mB_sA, mA_sA, mJ_sA, mP_sA, mO_sA, mN_sJ, mK_sJ, mL_sJ, mF_sJ, mB_sJ, mA_sJ, mJ_sJ, mP_sJ, mO_sJ, mN_sP, mK_sP, mL_sP, mF_sP, mB_sP, mA_sP, mJ_sP, mP_sP, mO_sP, mN_sO, mK_sO, mL_sO, mF_sO, mB_sO, mA_sO, mJ_sO, mP_sO, mO_sO, up2, if_true, if_false, eq_self, ite_true, ite_false, reduceIte, Nat.add_left_cancel_iff, Nat.add_eq_left, Nat.left_eq_add, Nat.reduceEqDiff]; done)) ?_ | refine e_getI 151 rfl dX10_endingRead_148 f_X10_135 (by assumption) ?_
    refine e_iconst (nI 1) 152 rfl dX10_endingRead_151 ic_1 ?_
    first | refine e_iaddN 153 rfl dX10_endingRead_152 rfl rfl ?_ | refine e_iadd 153 rfl dX10_endingRead_152 ?_
    refine e_putI 156 rfl dX10_endingRead_153 f_X10_135 (by assumption) ?_
    have hF2 := hF1.sF Sm 29 (nI (p + 1))
    have hf2 : ∀ f, f ≠ 29 → f ≠ 36 → mF (sF μ1 m 29 (nI (p + 1))) m f = mF μ m f := fun f a b => by
      show up2 _ m 29 _ m f = _
      rw [up2_k a]; exact hf1 f a b
    have h362 : mF (sF μ1 m 29 (nI (p + 1))) m 36 = nI en.length := by simp only [mN_sF, mK_sF, mL_sF, mF_sF, mB_sF, mA_sF, mJ_sF, mP_sF, mO_sF, mN_sB, mK_sB, mL_sB, mF_sB, mB_sB, mA_sB, mJ_sB, mP_sB, mO_sB, mN_sA, mK_sA, mL_sA, mF_sA, mB_sA, mA_sA, mJ_sA, mP_sA, mO_sA, mN_sJ, mK_sJ, mL_sJ, mF_sJ, mB_sJ, mA_sJ, mJ_sJ, mP_sJ, mO_sJ, mN_sP, mK_sP, mL_sP, mF_sP, mB_sP, mA_sP, mJ_sP, mP_sP, mO_sP, mN_sO, mK_sO, mL_sO, mF_sO, mB_sO, mA_sO, mJ_sO, mP_sO, mO_sO, up2, if_true, if_false, eq_self, ite_true, ite_false, reduceIte, Nat.add_left_cancel_iff, Nat.add_eq_left, Nat.left_eq_add, Nat.reduceEqDiff]; exact h36
    have hH2 : Hd (mA (sF μ1 m 29 (nI (p + 1))) (m + 28)) en := by rw [mA_sF]; exact hH1
    generalize sF μ1 m 29 (nI (p + 1)) = μ2 at hX2 hF2 hf2 h362 hH2 ⊢
    have mk2 := hX2.1.1
    have h292 := hX2.2.1
    have h302 := hX2.2.2.1
    refine e_al0 157 rfl dX10_endingRead_156 ?_
    first | refine e_getIv 160 rfl dX10_endingRead_157 f_X10_135 (by assumption) (by first | assumption | (simp only [mN_sF, mK_sF, mL_sF, mF_sF, mB_sF, mA_sF, mJ_sF, mP_sF, mO_sF, mN_sB, mK_sB, mL_sB, mF_sB, mB_sB, mA_sB, mJ_sB, mP_sB, mO_sB, mN_sA, mK_sA, mL_sA, mF_sA, mB_sA, mA_sA, mJ_sA, mP_sA, mO_sA, mN_sJ, mK_sJ, mL_sJ, mF_sJ, mB_sJ, mA_sJ, mJ_sJ, mP_sJ, mO_sJ, mN_sP, mK_sP, mL_sP, mF_sP, mB_sP, mA_sP, mJ_sP, mP_sP, mO_sP, mN_sO, mK_sO, mL_sO, mF_sO, mB_sO, mA_sO, mJ_sO, mP_sO, mO_sO, up2, if_true, if_false, eq_self, ite_true, ite_false, reduceIte, Nat.add_left_cancel_iff, Nat.add_eq_left, Nat.left_eq_add, Nat.reduceEqDiff]; assumption) | (simp only [mN_sF, mK_sF, mL_sF, mF_sF, mB_sF, mA_sF, mJ_sF, mP_sF, mO_sF, mN_sB, mK_sB, mL_sB, mF_sB, mB_sB, mA_sB, mJ_sB, mP_sB, mO_sB, mN_sA, mK_sA, mL_sA, mF_sA, mB_sA, mA_sA, mJ_sA, mP_sA, mO_sA, mN_sJ, mK_sJ, mL_sJ, mF_sJ, mB_sJ, mA_sJ, mJ_sJ, mP_sJ, mO_sJ, mN_sP, mK_sP, mL_sP, mF_sP, mB_sP, mA_sP, mJ_sP, mP_sP, mO_sP, mN_sO, mK_sO, mL_sO, mF_sO, mB_sO, mA_sO, mJ_sO, mP_sO, mO_sO, up2, if_true, if_false, eq_self, ite_true, ite_false, reduceIte, Nat.add_left_cancel_iff, Nat.add_eq_left, Nat.left_eq_add, Nat.reduceEqDiff]; done)) ?_ | refine e_getI 160 rfl dX10_endingRead_157 f_X10_135 (by assumption) ?_
    refine e_al0 161 rfl dX10_endingRead_160 ?_
    first | refine e_getIv 164 rfl dX10_endingRead_161 f_X10_138 (by assumption) (by first | assumption | (simp only [mN_sF, mK_sF, mL_sF, mF_sF, mB_sF, mA_sF, mJ_sF, mP_sF, mO_sF, mN_sB, mK_sB, mL_sB, mF_sB, mB_sB, mA_sB, mJ_sB, mP_sB, mO_sB, mN_sA, mK_sA, mL_sA, mF_sA, mB_sA, mA_sA, mJ_sA, mP_sA, mO_sA, mN_sJ, mK_sJ, mL_sJ, mF_sJ, mB_sJ, mA_sJ, mJ_sJ, mP_sJ, mO_sJ, mN_sP, mK_sP, mL_sP, mF_sP, mB_sP, mA_sP, mJ_sP, mP_sP, mO_sP, mN_sO, mK_sO, mL_sO, mF_sO, mB_sO, mA_sO, mJ_sO, mP_sO, mO_sO, up2, if_true, if_false, eq_self, ite_true, ite_false, reduceIte, Nat.add_left_cancel_iff, Nat.add_eq_left, Nat.left_eq_add, Nat.reduceEqDiff]; assumption) | (simp only [mN_sF, mK_sF, mL_sF, mF_sF, mB_sF, mA_sF, mJ_sF, mP_sF, mO_sF, mN_sB, mK_sB, mL_sB, mF_sB, mB_sB, mA_sB, mJ_sB, mP_sB, mO_sB, mN_sA, mK_sA, mL_sA, mF_sA, mB_sA, mA_sA, mJ_sA, mP_sA, mO_sA, mN_sJ, mK_sJ, mL_sJ, mF_sJ, mB_sJ, mA_sJ, mJ_sJ, mP_sJ, mO_sJ, mN_sP, mK_sP, mL_sP, mF_sP, mB_sP, mA_sP, mJ_sP, mP_sP, mO_sP, mN_sO, mK_sO, mL_sO, mF_sO, mB_sO, mA_sO, mJ_sO, mP_sO, mO_sO, up2, if_true, if_false, eq_self, ite_true, ite_false, reduceIte, Nat.add_left_cancel_iff, Nat.add_eq_left, Nat.left_eq_add, Nat.reduceEqDiff]; done)) ?_ | refine e_getI 164 rfl dX10_endingRead_161 f_X10_138 (by assumption) ?_
    first | refine e_cmp_eqN 179 167 (by decide) rfl dX10_endingRead_164 rfl rfl (by omega) (by omega) (fun y2 => ?_) (fun y2 => ?_) | refine e_cmp_eq 179 167 (by decide) rfl dX10_endingRead_164 (fun y2 => ?_) (fun y2 => ?_)
    · rw [if_neg (by omega)] at hps
      refine e_iconst (nI 1) 180 rfl dX10_endingRead_179 ic_1 ?_
      refine e_goto 184 (by decide) dX10_endingRead_180 ?_
      refine e_zret dX10_endingRead_184 rfl (by first | exact z0 | exact z1 | exact bI01 _ | assumption) ?_
      exact kt en hps μ2 hF2 hf2 hX2.1 h362 hH2 he6
    · rw [if_pos (by omega)] at hps
      refine e_al0 168 rfl dX10_endingRead_167 ?_
      refine e_iconst (nI 1) 169 rfl dX10_endingRead_168 ic_1 ?_
      refine e_al0 170 rfl dX10_endingRead_169 ?_
      first | refine e_getIv 173 rfl dX10_endingRead_170 f_X10_135 (by assumption) (by first | assumption | (simp only [mN_sF, mK_sF, mL_sF, mF_sF, mB_sF, mA_sF, mJ_sF, mP_sF, mO_sF, mN_sB, mK_sB, mL_sB, mF_sB, mB_sB, mA_sB, mJ_sB, mP_sB, mO_sB, mN_sA, mK_sA, mL_sA, mF_sA, mB_sA, mA_sA, mJ_sA, mP_sA, mO_sA, mN_sJ, mK_sJ, mL_sJ, mF_sJ, mB_sJ, mA_sJ, mJ_sJ, mP_sJ, mO_sJ, mN_sP, mK_sP, mL_sP, mF_sP, mB_sP, mA_sP, mJ_sP, mP_sP, mO_sP, mN_sO, mK_sO, mL_sO, mF_sO, mB_sO, mA_sO, mJ_sO, mP_sO, mO_sO, up2, if_true, if_false, eq_self, ite_true, ite_false, reduceIte, Nat.add_left_cancel_iff, Nat.add_eq_left, Nat.left_eq_add, Nat.reduceEqDiff]; assumption) | (simp only [mN_sF, mK_sF, mL_sF, mF_sF, mB_sF, mA_sF, mJ_sF, mP_sF, mO_sF, mN_sB, mK_sB, mL_sB, mF_sB, mB_sB, mA_sB, mJ_sB, mP_sB, mO_sB, mN_sA, mK_sA, mL_sA, mF_sA, mB_sA, mA_sA, mJ_sA, mP_sA, mO_sA, mN_sJ, mK_sJ, mL_sJ, mF_sJ, mB_sJ, mA_sJ, mJ_sJ, mP_sJ, mO_sJ, mN_sP, mK_sP, mL_sP, mF_sP, mB_sP, mA_sP, mJ_sP, mP_sP, mO_sP, mN_sO, mK_sO, mL_sO, mF_sO, mB_sO, mA_sO, mJ_sO, mP_sO, mO_sO, up2, if_true, if_false, eq_self, ite_true, ite_false, reduceIte, Nat.add_left_cancel_iff, Nat.add_eq_left, Nat.left_eq_add, Nat.reduceEqDiff]; done)) ?_ | refine e_getI 173 rfl dX10_endingRead_170 f_X10_135 (by assumption) ?_
      refine e_invV0 [_, _] 176 rfl dX10_endingRead_173 k_X10_152 mo_X10_wrong rm_X10_endingRead_X10_wrong ⟨rfl, rfl⟩ rfl rfl (by assumption) (Nat.le_of_ble_eq_true rfl) ?_
      refine c_wrong mk2 (fun μ3 hF3 hf3 hfl => ?_)
      first | refine e_if_eqB 183 179 (by decide) rfl dX10_endingRead_176 rfl (fun y3 => ?_) (fun y3 => ?_) | refine e_if_eqN 183 179 (by decide) rfl dX10_endingRead_176 rfl (by omega) (fun y3 => ?_) (fun y3 => ?_) | refine e_if_eq 183 179 (by decide) rfl dX10_endingRead_176 (fun y3 => ?_) (fun y3 => ?_)
      rotate_left
      · exact absurd y3 (by decide)
      refine e_iconst (nI 0) 184 rfl dX10_endingRead_183 ic_0 ?_
      refine e_zret dX10_endingRead_184 rfl (by first | exact z0 | exact z1 | exact bI01 _ | assumption) ?_
      exact kf 1 (p + 1) hps μ3 (hF2.trans (hF3.mono (fun q h => Or.inl h))) (fun f a b c d => by rw [hf3 f c d]; exact hf2 f a b) hfl
  have loop : ∀ (fu : Nat) (acc : List Nat) (p : Nat), acc.length + fu = 6 → ∀ μ1 l2, R = (match pEn l fu p acc with | .inl e => .inl e | .inr (p4, en) => if l[p4]? = some 46 then (if p4 + 1 < l.length then .inl (1, p4 + 1) else .inr en) else .inl (1, p4)) → p ≤ l.length → (acc = [] ∨ l[p]? ≠ some 46) → Fr (enS m) μ μ1 → (∀ f, f ≠ 29 → f ≠ 36 → mF μ1 m f = mF μ m f) → Mx μ1 m l p → mF μ1 m 36 = nI acc.length → Hd (mA μ1 (m + 28)) acc → Ev E M_X10_endingRead 0 0 33 [some (.ref m), some (.int (nI 1)), l2] [] μ1 K := by
    intro fu
    induction fu with
    | zero =>
      intro acc p hfu μ1 q2 hps hpl hor hF1 hf1 hX1 h36 hH1
      have mk1 := hX1.1.1
      have h29 := hX1.2.1
      rw [pEn_eq] at hps
      refine e_al0 34 rfl dX10_endingRead_33 ?_
      refine e_invV0 [] 37 rfl dX10_endingRead_34 k_X10_144 mo_X10_see rm_X10_endingRead_X10_see ⟨rfl, rfl⟩ rfl rfl (by assumption) (Nat.le_of_ble_eq_true rfl) ?_
      refine c_see hX1 ?_
      have hsm := see_sm (l := l) (p := p) (fun c hc => hlt p c hc)
      cases eS : smAt l p with
      | none =>
        rw [eS] at hps hsm
        have hnot : ¬ (nI 97 ≤ seeI l[p]? ∧ seeI l[p]? ≤ nI 122) := fun q => by have := hsm.mp q; cases this
        have hps2 : R = .inl (1, p) := by
          rcases hor with h | h
          · rw [h] at hps; simpa using hps
          · by_cases c : acc = []
            · rw [c] at hps; simpa using hps
            · simp only [] at hps
              rw [if_pos c] at hps
              simp only [] at hps
              rw [if_neg h] at hps
              exact hps
        have wr : Ev E M_X10_endingRead 0 0 50 [some (.ref m), some (.int (nI 1)), some (.int (seeI l[p]?))] [] μ1 K := by
          refine e_al0 51 rfl dX10_endingRead_50 ?_
          refine e_iconst (nI 1) 52 rfl dX10_endingRead_51 ic_1 ?_
          refine e_al0 53 rfl dX10_endingRead_52 ?_
          first | refine e_getIv 56 rfl dX10_endingRead_53 f_X10_135 (by assumption) (by first | assumption | (simp only [mN_sF, mK_sF, mL_sF, mF_sF, mB_sF, mA_sF, mJ_sF, mP_sF, mO_sF, mN_sB, mK_sB, mL_sB, mF_sB, mB_sB, mA_sB, mJ_sB, mP_sB, mO_sB, mN_sA, mK_sA, mL_sA, mF_sA, mB_sA, mA_sA, mJ_sA, mP_sA, mO_sA, mN_sJ, mK_sJ, mL_sJ, mF_sJ, mB_sJ, mA_sJ, mJ_sJ, mP_sJ, mO_sJ, mN_sP, mK_sP, mL_sP, mF_sP, mB_sP, mA_sP, mJ_sP, mP_sP, mO_sP, mN_sO, mK_sO, mL_sO, mF_sO, mB_sO, mA_sO, mJ_sO, mP_sO, mO_sO, up2, if_true, if_false, eq_self, ite_true, ite_false, reduceIte, Nat.add_left_cancel_iff, Nat.add_eq_left, Nat.left_eq_add, Nat.reduceEqDiff]; assumption) | (simp only [mN_sF, mK_sF, mL_sF, mF_sF, mB_sF, mA_sF, mJ_sF, mP_sF, mO_sF, mN_sB, mK_sB, mL_sB, mF_sB, mB_sB, mA_sB, mJ_sB, mP_sB, mO_sB, mN_sA, mK_sA, mL_sA, mF_sA, mB_sA, mA_sA, mJ_sA, mP_sA, mO_sA, mN_sJ, mK_sJ, mL_sJ, mF_sJ, mB_sJ, mA_sJ, mJ_sJ, mP_sJ, mO_sJ, mN_sP, mK_sP, mL_sP, mF_sP, mB_sP, mA_sP, mJ_sP, mP_sP, mO_sP, mN_sO, mK_sO, mL_sO, mF_sO, mB_sO, mA_sO, mJ_sO, mP_sO, mO_sO, up2, if_true, if_false, eq_self, ite_true, ite_false, reduceIte, Nat.add_left_cancel_iff, Nat.add_eq_left, Nat.left_eq_add, Nat.reduceEqDiff]; done)) ?_ | refine e_getI 56 rfl dX10_endingRead_53 f_X10_135 (by assumption) ?_
          refine e_invV0 [_, _] 59 rfl dX10_endingRead_56 k_X10_152 mo_X10_wrong rm_X10_endingRead_X10_wrong ⟨rfl, rfl⟩ rfl rfl (by assumption) (Nat.le_of_ble_eq_true rfl) ?_
          refine c_wrong mk1 (fun μ2 hF2 hf2 hfl => ?_)
          refine e_zret dX10_endingRead_59 rfl (by first | exact z0 | exact z1 | exact bI01 _ | assumption) ?_
          exact kf 1 p hps2 μ2 (hF1.trans (hF2.mono (fun q h => Or.inl h))) (fun f a b c d => by rw [hf2 f c d]; exact hf1 f a b) hfl
        refine e_is2 38 rfl dX10_endingRead_37 (by decide) rfl ?_
        refine e_il2 39 rfl dX10_endingRead_38 ?_
        refine e_bipush (nI 97) 41 rfl dX10_endingRead_39 bc_97 ?_
        refine e_cmp_lt 50 44 (by decide) rfl dX10_endingRead_41 (fun y2 => ?_) (fun y2 => ?_)
        · exact wr
        refine e_il2 45 rfl dX10_endingRead_44 ?_
        refine e_bipush (nI 122) 47 rfl dX10_endingRead_45 bc_122 ?_
        refine e_cmp_le 60 50 (by decide) rfl dX10_endingRead_47 (fun y3 => ?_) (fun y3 => ?_)
        · exact absurd ⟨Int32.not_lt.mp y2, y3⟩ hnot
        · exact wr
      | some c =>
        rw [eS] at hps hsm
        simp only [] at hps
        obtain ⟨r1, r2⟩ := hsm.mpr rfl
        have h36' : mF μ1 m 36 = nI 6 := by rw [h36, show acc.length = 6 by omega]
        refine e_is2 38 rfl dX10_endingRead_37 (by decide) rfl ?_
        refine e_il2 39 rfl dX10_endingRead_38 ?_
        refine e_bipush (nI 97) 41 rfl dX10_endingRead_39 bc_97 ?_
        refine e_cmp_lt 50 44 (by decide) rfl dX10_endingRead_41 (fun y2 => ?_) (fun y2 => ?_)
        · exact absurd r1 (Int32.not_le.mpr y2)
        refine e_il2 45 rfl dX10_endingRead_44 ?_
        refine e_bipush (nI 122) 47 rfl dX10_endingRead_45 bc_122 ?_
        refine e_cmp_le 60 50 (by decide) rfl dX10_endingRead_47 (fun y3 => ?_) (fun y3 => ?_)
        rotate_left
        · exact absurd r2 y3
        refine e_al0 61 rfl dX10_endingRead_60 ?_
        first | refine e_getIv 64 rfl dX10_endingRead_61 f_X10_156 (by assumption) (by first | assumption | (simp only [mN_sF, mK_sF, mL_sF, mF_sF, mB_sF, mA_sF, mJ_sF, mP_sF, mO_sF, mN_sB, mK_sB, mL_sB, mF_sB, mB_sB, mA_sB, mJ_sB, mP_sB, mO_sB, mN_sA, mK_sA, mL_sA, mF_sA, mB_sA, mA_sA, mJ_sA, mP_sA, mO_sA, mN_sJ, mK_sJ, mL_sJ, mF_sJ, mB_sJ, mA_sJ, mJ_sJ, mP_sJ, mO_sJ, mN_sP, mK_sP, mL_sP, mF_sP, mB_sP, mA_sP, mJ_sP, mP_sP, mO_sP, mN_sO, mK_sO, mL_sO, mF_sO, mB_sO, mA_sO, mJ_sO, mP_sO, mO_sO, up2, if_true, if_false, eq_self, ite_true, ite_false, reduceIte, Nat.add_left_cancel_iff, Nat.add_eq_left, Nat.left_eq_add, Nat.reduceEqDiff]; assumption) | (simp only [mN_sF, mK_sF, mL_sF, mF_sF, mB_sF, mA_sF, mJ_sF, mP_sF, mO_sF, mN_sB, mK_sB, mL_sB, mF_sB, mB_sB, mA_sB, mJ_sB, mP_sB, mO_sB, mN_sA, mK_sA, mL_sA, mF_sA, mB_sA, mA_sA, mJ_sA, mP_sA, mO_sA, mN_sJ, mK_sJ, mL_sJ, mF_sJ, mB_sJ, mA_sJ, mJ_sJ, mP_sJ, mO_sJ, mN_sP, mK_sP, mL_sP, mF_sP, mB_sP, mA_sP, mJ_sP, mP_sP, mO_sP, mN_sO, mK_sO, mL_sO, mF_sO, mB_sO, mA_sO, mJ_sO, mP_sO, mO_sO, up2, if_true, if_false, eq_self, ite_true, ite_false, reduceIte, Nat.add_left_cancel_iff, Nat.add_eq_left, Nat.left_eq_add, Nat.reduceEqDiff]; done)) ?_ | refine e_getI 64 rfl dX10_endingRead_61 f_X10_156 (by assumption) ?_
        refine e_bipush (nI 6) 66 rfl dX10_endingRead_64 bc_6 ?_
        first | refine e_cmp_neN 79 69 (by decide) rfl dX10_endingRead_66 rfl rfl (by omega) (by omega) (fun y4 => ?_) (fun y4 => ?_) | refine e_cmp_ne 79 69 (by decide) rfl dX10_endingRead_66 (fun y4 => ?_) (fun y4 => ?_)
        · exact absurd rfl y4
        refine e_al0 70 rfl dX10_endingRead_69 ?_
        refine e_iconst (nI 2) 71 rfl dX10_endingRead_70 ic_2 ?_
        refine e_al0 72 rfl dX10_endingRead_71 ?_
        first | refine e_getIv 75 rfl dX10_endingRead_72 f_X10_135 (by assumption) (by first | assumption | (simp only [mN_sF, mK_sF, mL_sF, mF_sF, mB_sF, mA_sF, mJ_sF, mP_sF, mO_sF, mN_sB, mK_sB, mL_sB, mF_sB, mB_sB, mA_sB, mJ_sB, mP_sB, mO_sB, mN_sA, mK_sA, mL_sA, mF_sA, mB_sA, mA_sA, mJ_sA, mP_sA, mO_sA, mN_sJ, mK_sJ, mL_sJ, mF_sJ, mB_sJ, mA_sJ, mJ_sJ, mP_sJ, mO_sJ, mN_sP, mK_sP, mL_sP, mF_sP, mB_sP, mA_sP, mJ_sP, mP_sP, mO_sP, mN_sO, mK_sO, mL_sO, mF_sO, mB_sO, mA_sO, mJ_sO, mP_sO, mO_sO, up2, if_true, if_false, eq_self, ite_true, ite_false, reduceIte, Nat.add_left_cancel_iff, Nat.add_eq_left, Nat.left_eq_add, Nat.reduceEqDiff]; assumption) | (simp only [mN_sF, mK_sF, mL_sF, mF_sF, mB_sF, mA_sF, mJ_sF, mP_sF, mO_sF, mN_sB, mK_sB, mL_sB, mF_sB, mB_sB, mA_sB, mJ_sB, mP_sB, mO_sB, mN_sA, mK_sA, mL_sA, mF_sA, mB_sA, mA_sA, mJ_sA, mP_sA, mO_sA, mN_sJ, mK_sJ, mL_sJ, mF_sJ, mB_sJ, mA_sJ, mJ_sJ, mP_sJ, mO_sJ, mN_sP, mK_sP, mL_sP, mF_sP, mB_sP, mA_sP, mJ_sP, mP_sP, mO_sP, mN_sO, mK_sO, mL_sO, mF_sO, mB_sO, mA_sO, mJ_sO, mP_sO, mO_sO, up2, if_true, if_false, eq_self, ite_true, ite_false, reduceIte, Nat.add_left_cancel_iff, Nat.add_eq_left, Nat.left_eq_add, Nat.reduceEqDiff]; done)) ?_ | refine e_getI 75 rfl dX10_endingRead_72 f_X10_135 (by assumption) ?_
        refine e_invV0 [_, _] 78 rfl dX10_endingRead_75 k_X10_152 mo_X10_wrong rm_X10_endingRead_X10_wrong ⟨rfl, rfl⟩ rfl rfl (by assumption) (Nat.le_of_ble_eq_true rfl) ?_
        refine c_wrong mk1 (fun μ2 hF2 hf2 hfl => ?_)
        refine e_zret dX10_endingRead_78 rfl (by first | exact z0 | exact z1 | exact bI01 _ | assumption) ?_
        exact kf 2 p hps μ2 (hF1.trans (hF2.mono (fun q h => Or.inl h))) (fun f a b c d => by rw [hf2 f c d]; exact hf1 f a b) hfl
    | succ fu ih =>
      intro acc p hfu μ1 q2 hps hpl hor hF1 hf1 hX1 h36 hH1
      have mk1 := hX1.1.1
      have h29 := hX1.2.1
      rw [pEn_eq] at hps
      refine e_al0 34 rfl dX10_endingRead_33 ?_
      refine e_invV0 [] 37 rfl dX10_endingRead_34 k_X10_144 mo_X10_see rm_X10_endingRead_X10_see ⟨rfl, rfl⟩ rfl rfl (by assumption) (Nat.le_of_ble_eq_true rfl) ?_
      refine c_see hX1 ?_
      have hsm := see_sm (l := l) (p := p) (fun c hc => hlt p c hc)
      cases eS : smAt l p with
      | none =>
        rw [eS] at hps hsm
        have hnot : ¬ (nI 97 ≤ seeI l[p]? ∧ seeI l[p]? ≤ nI 122) := fun q => by have := hsm.mp q; cases this
        have hps2 : R = .inl (1, p) := by
          rcases hor with h | h
          · rw [h] at hps; simpa using hps
          · by_cases c : acc = []
            · rw [c] at hps; simpa using hps
            · simp only [] at hps
              rw [if_pos c] at hps
              simp only [] at hps
              rw [if_neg h] at hps
              exact hps
        have wr : Ev E M_X10_endingRead 0 0 50 [some (.ref m), some (.int (nI 1)), some (.int (seeI l[p]?))] [] μ1 K := by
          refine e_al0 51 rfl dX10_endingRead_50 ?_
          refine e_iconst (nI 1) 52 rfl dX10_endingRead_51 ic_1 ?_
          refine e_al0 53 rfl dX10_endingRead_52 ?_
          first | refine e_getIv 56 rfl dX10_endingRead_53 f_X10_135 (by assumption) (by first | assumption | (simp only [mN_sF, mK_sF, mL_sF, mF_sF, mB_sF, mA_sF, mJ_sF, mP_sF, mO_sF, mN_sB, mK_sB, mL_sB, mF_sB, mB_sB, mA_sB, mJ_sB, mP_sB, mO_sB, mN_sA, mK_sA, mL_sA, mF_sA, mB_sA, mA_sA, mJ_sA, mP_sA, mO_sA, mN_sJ, mK_sJ, mL_sJ, mF_sJ, mB_sJ, mA_sJ, mJ_sJ, mP_sJ, mO_sJ, mN_sP, mK_sP, mL_sP, mF_sP, mB_sP, mA_sP, mJ_sP, mP_sP, mO_sP, mN_sO, mK_sO, mL_sO, mF_sO, mB_sO, mA_sO, mJ_sO, mP_sO, mO_sO, up2, if_true, if_false, eq_self, ite_true, ite_false, reduceIte, Nat.add_left_cancel_iff, Nat.add_eq_left, Nat.left_eq_add, Nat.reduceEqDiff]; assumption) | (simp only [mN_sF, mK_sF, mL_sF, mF_sF, mB_sF, mA_sF, mJ_sF, mP_sF, mO_sF, mN_sB, mK_sB, mL_sB, mF_sB, mB_sB, mA_sB, mJ_sB, mP_sB, mO_sB, mN_sA, mK_sA, mL_sA, mF_sA, mB_sA, mA_sA, mJ_sA, mP_sA, mO_sA, mN_sJ, mK_sJ, mL_sJ, mF_sJ, mB_sJ, mA_sJ, mJ_sJ, mP_sJ, mO_sJ, mN_sP, mK_sP, mL_sP, mF_sP, mB_sP, mA_sP, mJ_sP, mP_sP, mO_sP, mN_sO, mK_sO, mL_sO, mF_sO, mB_sO, mA_sO, mJ_sO, mP_sO, mO_sO, up2, if_true, if_false, eq_self, ite_true, ite_false, reduceIte, Nat.add_left_cancel_iff, Nat.add_eq_left, Nat.left_eq_add, Nat.reduceEqDiff]; done)) ?_ | refine e_getI 56 rfl dX10_endingRead_53 f_X10_135 (by assumption) ?_
          refine e_invV0 [_, _] 59 rfl dX10_endingRead_56 k_X10_152 mo_X10_wrong rm_X10_endingRead_X10_wrong ⟨rfl, rfl⟩ rfl rfl (by assumption) (Nat.le_of_ble_eq_true rfl) ?_
          refine c_wrong mk1 (fun μ2 hF2 hf2 hfl => ?_)
          refine e_zret dX10_endingRead_59 rfl (by first | exact z0 | exact z1 | exact bI01 _ | assumption) ?_
          exact kf 1 p hps2 μ2 (hF1.trans (hF2.mono (fun q h => Or.inl h))) (fun f a b c d => by rw [hf2 f c d]; exact hf1 f a b) hfl
        refine e_is2 38 rfl dX10_endingRead_37 (by decide) rfl ?_
        refine e_il2 39 rfl dX10_endingRead_38 ?_
        refine e_bipush (nI 97) 41 rfl dX10_endingRead_39 bc_97 ?_
        refine e_cmp_lt 50 44 (by decide) rfl dX10_endingRead_41 (fun y2 => ?_) (fun y2 => ?_)
        · exact wr
        refine e_il2 45 rfl dX10_endingRead_44 ?_
        refine e_bipush (nI 122) 47 rfl dX10_endingRead_45 bc_122 ?_
        refine e_cmp_le 60 50 (by decide) rfl dX10_endingRead_47 (fun y3 => ?_) (fun y3 => ?_)
        · exact absurd ⟨Int32.not_lt.mp y2, y3⟩ hnot
        · exact wr
      | some c =>
        rw [eS] at hps hsm
        simp only [] at hps
        obtain ⟨r1, r2⟩ := hsm.mpr rfl
        have hlc : l[p]? = some c := by
          unfold smAt at eS
          cases e : l[p]? with
          | none => rw [e] at eS; cases eS
          | some d =>
            rw [e] at eS
            simp only [] at eS
            split at eS
            · exact eS
            · cases eS
        have hp2 := (List.getElem?_eq_some_iff.mp hlc).1
        have hsee : seeI l[p]? = nI c := by rw [hlc]; rfl
        refine e_is2 38 rfl dX10_endingRead_37 (by decide) rfl ?_
        refine e_il2 39 rfl dX10_endingRead_38 ?_
        refine e_bipush (nI 97) 41 rfl dX10_endingRead_39 bc_97 ?_
        refine e_cmp_lt 50 44 (by decide) rfl dX10_endingRead_41 (fun y2 => ?_) (fun y2 => ?_)
        · exact absurd r1 (Int32.not_le.mpr y2)
        refine e_il2 45 rfl dX10_endingRead_44 ?_
        refine e_bipush (nI 122) 47 rfl dX10_endingRead_45 bc_122 ?_
        refine e_cmp_le 60 50 (by decide) rfl dX10_endingRead_47 (fun y3 => ?_) (fun y3 => ?_)
        rotate_left
        · exact absurd r2 y3
        rw [hsee]
        obtain ⟨pe, ke, le⟩ := hX1.1.rEnding
        refine e_al0 61 rfl dX10_endingRead_60 ?_
        first | refine e_getIv 64 rfl dX10_endingRead_61 f_X10_156 (by assumption) (by first | assumption | (simp only [mN_sF, mK_sF, mL_sF, mF_sF, mB_sF, mA_sF, mJ_sF, mP_sF, mO_sF, mN_sB, mK_sB, mL_sB, mF_sB, mB_sB, mA_sB, mJ_sB, mP_sB, mO_sB, mN_sA, mK_sA, mL_sA, mF_sA, mB_sA, mA_sA, mJ_sA, mP_sA, mO_sA, mN_sJ, mK_sJ, mL_sJ, mF_sJ, mB_sJ, mA_sJ, mJ_sJ, mP_sJ, mO_sJ, mN_sP, mK_sP, mL_sP, mF_sP, mB_sP, mA_sP, mJ_sP, mP_sP, mO_sP, mN_sO, mK_sO, mL_sO, mF_sO, mB_sO, mA_sO, mJ_sO, mP_sO, mO_sO, up2, if_true, if_false, eq_self, ite_true, ite_false, reduceIte, Nat.add_left_cancel_iff, Nat.add_eq_left, Nat.left_eq_add, Nat.reduceEqDiff]; assumption) | (simp only [mN_sF, mK_sF, mL_sF, mF_sF, mB_sF, mA_sF, mJ_sF, mP_sF, mO_sF, mN_sB, mK_sB, mL_sB, mF_sB, mB_sB, mA_sB, mJ_sB, mP_sB, mO_sB, mN_sA, mK_sA, mL_sA, mF_sA, mB_sA, mA_sA, mJ_sA, mP_sA, mO_sA, mN_sJ, mK_sJ, mL_sJ, mF_sJ, mB_sJ, mA_sJ, mJ_sJ, mP_sJ, mO_sJ, mN_sP, mK_sP, mL_sP, mF_sP, mB_sP, mA_sP, mJ_sP, mP_sP, mO_sP, mN_sO, mK_sO, mL_sO, mF_sO, mB_sO, mA_sO, mJ_sO, mP_sO, mO_sO, up2, if_true, if_false, eq_self, ite_true, ite_false, reduceIte, Nat.add_left_cancel_iff, Nat.add_eq_left, Nat.left_eq_add, Nat.reduceEqDiff]; done)) ?_ | refine e_getI 64 rfl dX10_endingRead_61 f_X10_156 (by assumption) ?_
        refine e_bipush (nI 6) 66 rfl dX10_endingRead_64 bc_6 ?_
        first | refine e_cmp_neN 79 69 (by decide) rfl dX10_endingRead_66 rfl rfl (by omega) (by omega) (fun y4 => ?_) (fun y4 => ?_) | refine e_cmp_ne 79 69 (by decide) rfl dX10_endingRead_66 (fun y4 => ?_) (fun y4 => ?_)
        rotate_left
        · omega
        refine e_al0 80 rfl dX10_endingRead_79 ?_
        refine e_getR 83 rfl dX10_endingRead_80 f_X10_96 (by assumption) (by assumption) ?_
        refine e_al0 84 rfl dX10_endingRead_83 ?_
        first | refine e_getIv 87 rfl dX10_endingRead_84 f_X10_156 (by assumption) (by first | assumption | (simp only [mN_sF, mK_sF, mL_sF, mF_sF, mB_sF, mA_sF, mJ_sF, mP_sF, mO_sF, mN_sB, mK_sB, mL_sB, mF_sB, mB_sB, mA_sB, mJ_sB, mP_sB, mO_sB, mN_sA, mK_sA, mL_sA, mF_sA, mB_sA, mA_sA, mJ_sA, mP_sA, mO_sA, mN_sJ, mK_sJ, mL_sJ, mF_sJ, mB_sJ, mA_sJ, mJ_sJ, mP_sJ, mO_sJ, mN_sP, mK_sP, mL_sP, mF_sP, mB_sP, mA_sP, mJ_sP, mP_sP, mO_sP, mN_sO, mK_sO, mL_sO, mF_sO, mB_sO, mA_sO, mJ_sO, mP_sO, mO_sO, up2, if_true, if_false, eq_self, ite_true, ite_false, reduceIte, Nat.add_left_cancel_iff, Nat.add_eq_left, Nat.left_eq_add, Nat.reduceEqDiff]; assumption) | (simp only [mN_sF, mK_sF, mL_sF, mF_sF, mB_sF, mA_sF, mJ_sF, mP_sF, mO_sF, mN_sB, mK_sB, mL_sB, mF_sB, mB_sB, mA_sB, mJ_sB, mP_sB, mO_sB, mN_sA, mK_sA, mL_sA, mF_sA, mB_sA, mA_sA, mJ_sA, mP_sA, mO_sA, mN_sJ, mK_sJ, mL_sJ, mF_sJ, mB_sJ, mA_sJ, mJ_sJ, mP_sJ, mO_sJ, mN_sP, mK_sP, mL_sP, mF_sP, mB_sP, mA_sP, mJ_sP, mP_sP, mO_sP, mN_sO, mK_sO, mL_sO, mF_sO, mB_sO, mA_sO, mJ_sO, mP_sO, mO_sO, up2, if_true, if_false, eq_self, ite_true, ite_false, reduceIte, Nat.add_left_cancel_iff, Nat.add_eq_left, Nat.left_eq_add, Nat.reduceEqDiff]; done)) ?_ | refine e_getI 87 rfl dX10_endingRead_84 f_X10_156 (by assumption) ?_
        refine e_il2 88 rfl dX10_endingRead_87 ?_
        refine e_iast 89 rfl dX10_endingRead_88 (by assumption) (by assumption) (by first | rfl | simp only [pk_mul, nI_add]) (by omega) (by omega) ?_
        have mk2 : mK (sA μ1 (m + 28) acc.length (nI c)) m = 11 := mk1
        have h362 : mF (sA μ1 (m + 28) acc.length (nI c)) m 36 = nI acc.length := h36
        refine e_al0 90 rfl dX10_endingRead_89 ?_
        refine e_dup 91 rfl dX10_endingRead_90 rfl ?_
        first | refine e_getIv 94 rfl dX10_endingRead_91 f_X10_156 (by assumption) (by first | assumption | (simp only [mN_sF, mK_sF, mL_sF, mF_sF, mB_sF, mA_sF, mJ_sF, mP_sF, mO_sF, mN_sB, mK_sB, mL_sB, mF_sB, mB_sB, mA_sB, mJ_sB, mP_sB, mO_sB, mN_sA, mK_sA, mL_sA, mF_sA, mB_sA, mA_sA, mJ_sA, mP_sA, mO_sA, mN_sJ, mK_sJ, mL_sJ, mF_sJ, mB_sJ, mA_sJ, mJ_sJ, mP_sJ, mO_sJ, mN_sP, mK_sP, mL_sP, mF_sP, mB_sP, mA_sP, mJ_sP, mP_sP, mO_sP, mN_sO, mK_sO, mL_sO, mF_sO, mB_sO, mA_sO, mJ_sO, mP_sO, mO_sO, up2, if_true, if_false, eq_self, ite_true, ite_false, reduceIte, Nat.add_left_cancel_iff, Nat.add_eq_left, Nat.left_eq_add, Nat.reduceEqDiff]; assumption) | (simp only [mN_sF, mK_sF, mL_sF, mF_sF, mB_sF, mA_sF, mJ_sF, mP_sF, mO_sF, mN_sB, mK_sB, mL_sB, mF_sB, mB_sB, mA_sB, mJ_sB, mP_sB, mO_sB, mN_sA, mK_sA, mL_sA, mF_sA, mB_sA, mA_sA, mJ_sA, mP_sA, mO_sA, mN_sJ, mK_sJ, mL_sJ, mF_sJ, mB_sJ, mA_sJ, mJ_sJ, mP_sJ, mO_sJ, mN_sP, mK_sP, mL_sP, mF_sP, mB_sP, mA_sP, mJ_sP, mP_sP, mO_sP, mN_sO, mK_sO, mL_sO, mF_sO, mB_sO, mA_sO, mJ_sO, mP_sO, mO_sO, up2, if_true, if_false, eq_self, ite_true, ite_false, reduceIte, Nat.add_left_cancel_iff, Nat.add_eq_left, Nat.left_eq_add, Nat.reduceEqDiff]; done)) ?_ | refine e_getI 94 rfl dX10_endingRead_91 f_X10_156 (by assumption) ?_
        refine e_iconst (nI 1) 95 rfl dX10_endingRead_94 ic_1 ?_
        first | refine e_iaddN 96 rfl dX10_endingRead_95 rfl rfl ?_ | refine e_iadd 96 rfl dX10_endingRead_95 ?_
        refine e_putI 99 rfl dX10_endingRead_96 f_X10_156 (by assumption) ?_
        have hX3 : Mx (sF (sA μ1 (m + 28) acc.length (nI c)) m 36 (nI (acc.length + 1))) m l p := hX1.fr (((Fr.rf (S := enS m)).sA S28 acc.length (nI c)).sF Sm 36 (nI (acc.length + 1))) (by simp only [mN_sF, mK_sF, mL_sF, mF_sF, mB_sF, mA_sF, mJ_sF, mP_sF, mO_sF, mN_sB, mK_sB, mL_sB, mF_sB, mB_sB, mA_sB, mJ_sB, mP_sB, mO_sB, mN_sA, mK_sA, mL_sA, mF_sA, mB_sA, mA_sA, mJ_sA, mP_sA, mO_sA, mN_sJ, mK_sJ, mL_sJ, mF_sJ, mB_sJ, mA_sJ, mJ_sJ, mP_sJ, mO_sJ, mN_sP, mK_sP, mL_sP, mF_sP, mB_sP, mA_sP, mJ_sP, mP_sP, mO_sP, mN_sO, mK_sO, mL_sO, mF_sO, mB_sO, mA_sO, mJ_sO, mP_sO, mO_sO, up2, if_true, if_false, eq_self, ite_true, ite_false, reduceIte, Nat.add_left_cancel_iff, Nat.add_eq_left, Nat.left_eq_add, Nat.reduceEqDiff]) (by simp only [mN_sF, mK_sF, mL_sF, mF_sF, mB_sF, mA_sF, mJ_sF, mP_sF, mO_sF, mN_sB, mK_sB, mL_sB, mF_sB, mB_sB, mA_sB, mJ_sB, mP_sB, mO_sB, mN_sA, mK_sA, mL_sA, mF_sA, mB_sA, mA_sA, mJ_sA, mP_sA, mO_sA, mN_sJ, mK_sJ, mL_sJ, mF_sJ, mB_sJ, mA_sJ, mJ_sJ, mP_sJ, mO_sJ, mN_sP, mK_sP, mL_sP, mF_sP, mB_sP, mA_sP, mJ_sP, mP_sP, mO_sP, mN_sO, mK_sO, mL_sO, mF_sO, mB_sO, mA_sO, mJ_sO, mP_sO, mO_sO, up2, if_true, if_false, eq_self, ite_true, ite_false, reduceIte, Nat.add_left_cancel_iff, Nat.add_eq_left, Nat.left_eq_add, Nat.reduceEqDiff]) (by unfold enS; omega)
        have hF3 : Fr (enS m) μ (sF (sA μ1 (m + 28) acc.length (nI c)) m 36 (nI (acc.length + 1))) := (hF1.sA S28 _ _).sF Sm _ _
        have hf3 : ∀ f, f ≠ 29 → f ≠ 36 → mF (sF (sA μ1 (m + 28) acc.length (nI c)) m 36 (nI (acc.length + 1))) m f = mF μ m f := fun f a b => by
          show up2 _ m 36 _ m f = _
          rw [up2_k b]; exact hf1 f a b
        have h363 : mF (sF (sA μ1 (m + 28) acc.length (nI c)) m 36 (nI (acc.length + 1))) m 36 = nI (acc ++ [c]).length := by
          show up2 _ m 36 _ m 36 = _
          rw [up2_s, List.length_append]; rfl
        have hH3 : Hd (mA (sF (sA μ1 (m + 28) acc.length (nI c)) m 36 (nI (acc.length + 1))) (m + 28)) (acc ++ [c]) := by
          refine hH1.push (fun i hi => ?_) ?_
          · show up2 _ (m + 28) _ _ (m + 28) i = _
            rw [up2_k (by omega)]
          · show up2 _ (m + 28) _ _ (m + 28) _ = _
            rw [up2_s]
        clear mk2 h362
        generalize sF (sA μ1 (m + 28) acc.length (nI c)) m 36 (nI (acc.length + 1)) = μ3 at hX3 hF3 hf3 h363 hH3 ⊢
        have mk3 := hX3.1.1
        have h293 := hX3.2.1
        have hX4 := hX3.to (p' := p + 1) (by omega)
        refine e_al0 100 rfl dX10_endingRead_99 ?_
        refine e_dup 101 rfl dX10_endingRead_100 rfl ?_
        first | refine e_getIv 104 rfl dX10_endingRead_101 f_X10_135 (by assumption) (by first | assumption | (simp only [mN_sF, mK_sF, mL_sF, mF_sF, mB_sF, mA_sF, mJ_sF, mP_sF, mO_sF, mN_sB, mK_sB, mL_sB, mF_sB, mB_sB, mA_sB, mJ_sB, mP_sB, mO_sB, mN_sA, mK_sA, mL_sA, mF_sA, mB_sA, mA_sA, mJ_sA, mP_sA, mO_sA, mN_sJ, mK_sJ, mL_sJ, mF_sJ, mB_sJ, mA_sJ, mJ_sJ, mP_sJ, mO_sJ, mN_sP, mK_sP, mL_sP, mF_sP, mB_sP, mA_sP, mJ_sP, mP_sP, mO_sP, mN_sO, mK_sO, mL_sO, mF_sO, mB_sO, mA_sO, mJ_sO, mP_sO, mO_sO, up2, if_true, if_false, eq_self, ite_true, ite_false, reduceIte, Nat.add_left_cancel_iff, Nat.add_eq_left, Nat.left_eq_add, Nat.reduceEqDiff]; assumption) | (simp only [mN_sF, mK_sF, mL_sF, mF_sF, mB_sF, mA_sF, mJ_sF, mP_sF, mO_sF, mN_sB, mK_sB, mL_sB, mF_sB, mB_sB, mA_sB, mJ_sB, mP_sB, mO_sB, mN_sA, mK_sA, mL_sA, mF_sA, mB_sA, mA_sA, mJ_sA, mP_sA, mO_sA, mN_sJ, mK_sJ, mL_sJ, mF_sJ, mB_sJ, mA_sJ, mJ_sJ, mP_sJ, mO_sJ, mN_sP, mK_sP, mL_sP, mF_sP, mB_sP, mA_sP, mJ_sP, mP_sP, mO_sP, mN_sO, mK_sO, mL_sO, mF_sO, mB_sO, mA_sO, mJ_sO, mP_sO, mO_sO, up2, if_true, if_false, eq_self, ite_true, ite_false, reduceIte, Nat.add_left_cancel_iff, Nat.add_eq_left, Nat.left_eq_add, Nat.reduceEqDiff]; done)) ?_ | refine e_getI 104 rfl dX10_endingRead_101 f_X10_135 (by assumption) ?_
        refine e_iconst (nI 1) 105 rfl dX10_endingRead_104 ic_1 ?_
        first | refine e_iaddN 106 rfl dX10_endingRead_105 rfl rfl ?_ | refine e_iadd 106 rfl dX10_endingRead_105 ?_
        refine e_putI 109 rfl dX10_endingRead_106 f_X10_135 (by assumption) ?_
        have hF4 := hF3.sF Sm 29 (nI (p + 1))
        have hf4 : ∀ f, f ≠ 29 → f ≠ 36 → mF (sF μ3 m 29 (nI (p + 1))) m f = mF μ m f := fun f a b => by
          show up2 _ m 29 _ m f = _
          rw [up2_k a]; exact hf3 f a b
        have h364 : mF (sF μ3 m 29 (nI (p + 1))) m 36 = nI (acc ++ [c]).length := by simp only [mN_sF, mK_sF, mL_sF, mF_sF, mB_sF, mA_sF, mJ_sF, mP_sF, mO_sF, mN_sB, mK_sB, mL_sB, mF_sB, mB_sB, mA_sB, mJ_sB, mP_sB, mO_sB, mN_sA, mK_sA, mL_sA, mF_sA, mB_sA, mA_sA, mJ_sA, mP_sA, mO_sA, mN_sJ, mK_sJ, mL_sJ, mF_sJ, mB_sJ, mA_sJ, mJ_sJ, mP_sJ, mO_sJ, mN_sP, mK_sP, mL_sP, mF_sP, mB_sP, mA_sP, mJ_sP, mP_sP, mO_sP, mN_sO, mK_sO, mL_sO, mF_sO, mB_sO, mA_sO, mJ_sO, mP_sO, mO_sO, up2, if_true, if_false, eq_self, ite_true, ite_false, reduceIte, Nat.add_left_cancel_iff, Nat.add_eq_left, Nat.left_eq_add, Nat.reduceEqDiff]; exact h363
        have hH4 : Hd (mA (sF μ3 m 29 (nI (p + 1))) (m + 28)) (acc ++ [c]) := by rw [mA_sF]; exact hH3
        generalize sF μ3 m 29 (nI (p + 1)) = μ4 at hX4 hF4 hf4 h364 hH4 ⊢
        have mk4 := hX4.1.1
        have h294 := hX4.2.1
        have e46 := seeI_eq (hlt (p + 1)) (d := 46) (by decide)
        refine e_al0 110 rfl dX10_endingRead_109 ?_
        refine e_invV0 [] 113 rfl dX10_endingRead_110 k_X10_144 mo_X10_see rm_X10_endingRead_X10_see ⟨rfl, rfl⟩ rfl rfl (by assumption) (Nat.le_of_ble_eq_true rfl) ?_
        refine c_see hX4 ?_
        refine e_bipush (nI 46) 115 rfl dX10_endingRead_113 bc_46 ?_
        refine e_cmp_eq 122 118 (by decide) rfl dX10_endingRead_115 (fun y5 => ?_) (fun y5 => ?_)
        · have h46 := e46.mp y5
          rw [pEn_eq] at hps
          have hkn : smAt l (p + 1) = none := by unfold smAt; rw [h46]; rfl
          rw [hkn] at hps
          simp only [] at hps
          rw [if_pos (by simp)] at hps
          simp only [] at hps
          refine e_iconst (nI 0) 123 rfl dX10_endingRead_122 ic_0 ?_
          refine e_is1 124 rfl dX10_endingRead_123 (by decide) rfl ?_
          refine e_goto 29 (by decide) dX10_endingRead_124 ?_
          refine e_il1 30 rfl dX10_endingRead_29 ?_
          first | refine e_if_eqB 127 33 (by decide) rfl dX10_endingRead_30 rfl (fun y6 => ?_) (fun y6 => ?_) | refine e_if_eqN 127 33 (by decide) rfl dX10_endingRead_30 rfl (by omega) (fun y6 => ?_) (fun y6 => ?_) | refine e_if_eq 127 33 (by decide) rfl dX10_endingRead_30 (fun y6 => ?_) (fun y6 => ?_)
          rotate_left
          · exact absurd y6 (by decide)
          exact fin (p + 1) (acc ++ [c]) μ4 _ _ hps (by omega) (by rw [List.length_append, List.length_singleton]; omega) hF4 hf4 hX4 h364 hH4
        · refine e_iconst (nI 1) 119 rfl dX10_endingRead_118 ic_1 ?_
          refine e_goto 123 (by decide) dX10_endingRead_119 ?_
          refine e_is1 124 rfl dX10_endingRead_123 (by decide) rfl ?_
          refine e_goto 29 (by decide) dX10_endingRead_124 ?_
          refine e_il1 30 rfl dX10_endingRead_29 ?_
          first | refine e_if_eqB 127 33 (by decide) rfl dX10_endingRead_30 rfl (fun y6 => ?_) (fun y6 => ?_) | refine e_if_eqN 127 33 (by decide) rfl dX10_endingRead_30 rfl (by omega) (fun y6 => ?_) (fun y6 => ?_) | refine e_if_eq 127 33 (by decide) rfl dX10_endingRead_30 (fun y6 => ?_) (fun y6 => ?_)
          · exact absurd y6 (by decide)
          exact ih (acc ++ [c]) (p + 1) (by rw [List.length_append, List.length_singleton]; omega) μ4 _ hps (by omega) (Or.inr (fun q => y5 (e46.mpr q))) hF4 hf4 hX4 h364 hH4
  have mk0 := hX.1.1
  have hX1 : Mx (sF μ m 36 (nI 0)) m l p0 := hX.fr ((Fr.rf (S := fun q => q = m)).sF rfl 36 (nI 0)) (by simp only [mN_sF, mK_sF, mL_sF, mF_sF, mB_sF, mA_sF, mJ_sF, mP_sF, mO_sF, mN_sB, mK_sB, mL_sB, mF_sB, mB_sB, mA_sB, mJ_sB, mP_sB, mO_sB, mN_sA, mK_sA, mL_sA, mF_sA, mB_sA, mA_sA, mJ_sA, mP_sA, mO_sA, mN_sJ, mK_sJ, mL_sJ, mF_sJ, mB_sJ, mA_sJ, mJ_sJ, mP_sJ, mO_sJ, mN_sP, mK_sP, mL_sP, mF_sP, mB_sP, mA_sP, mJ_sP, mP_sP, mO_sP, mN_sO, mK_sO, mL_sO, mF_sO, mB_sO, mA_sO, mJ_sO, mP_sO, mO_sO, up2, if_true, if_false, eq_self, ite_true, ite_false, reduceIte, Nat.add_left_cancel_iff, Nat.add_eq_left, Nat.left_eq_add, Nat.reduceEqDiff]) (by simp only [mN_sF, mK_sF, mL_sF, mF_sF, mB_sF, mA_sF, mJ_sF, mP_sF, mO_sF, mN_sB, mK_sB, mL_sB, mF_sB, mB_sB, mA_sB, mJ_sB, mP_sB, mO_sB, mN_sA, mK_sA, mL_sA, mF_sA, mB_sA, mA_sA, mJ_sA, mP_sA, mO_sA, mN_sJ, mK_sJ, mL_sJ, mF_sJ, mB_sJ, mA_sJ, mJ_sJ, mP_sJ, mO_sJ, mN_sP, mK_sP, mL_sP, mF_sP, mB_sP, mA_sP, mJ_sP, mP_sP, mO_sP, mN_sO, mK_sO, mL_sO, mF_sO, mB_sO, mA_sO, mJ_sO, mP_sO, mO_sO, up2, if_true, if_false, eq_self, ite_true, ite_false, reduceIte, Nat.add_left_cancel_iff, Nat.add_eq_left, Nat.left_eq_add, Nat.reduceEqDiff]) (by omega)
  have hF1 : Fr (enS m) μ (sF μ m 36 (nI 0)) := (Fr.rf (S := enS m)).sF Sm 36 (nI 0)
  have hf1 : ∀ f, f ≠ 29 → f ≠ 36 → mF (sF μ m 36 (nI 0)) m f = mF μ m f := fun f a b => by show up2 _ m 36 _ m f = _; rw [up2_k b]
  have h361 : mF (sF μ m 36 (nI 0)) m 36 = nI ([] : List Nat).length := by simp only [mN_sF, mK_sF, mL_sF, mF_sF, mB_sF, mA_sF, mJ_sF, mP_sF, mO_sF, mN_sB, mK_sB, mL_sB, mF_sB, mB_sB, mA_sB, mJ_sB, mP_sB, mO_sB, mN_sA, mK_sA, mL_sA, mF_sA, mB_sA, mA_sA, mJ_sA, mP_sA, mO_sA, mN_sJ, mK_sJ, mL_sJ, mF_sJ, mB_sJ, mA_sJ, mJ_sJ, mP_sJ, mO_sJ, mN_sP, mK_sP, mL_sP, mF_sP, mB_sP, mA_sP, mJ_sP, mP_sP, mO_sP, mN_sO, mK_sO, mL_sO, mF_sO, mB_sO, mA_sO, mJ_sO, mP_sO, mO_sO, up2, if_true, if_false, eq_self, ite_true, ite_false, reduceIte, Nat.add_left_cancel_iff, Nat.add_eq_left, Nat.left_eq_add, Nat.reduceEqDiff]; rfl
  refine Cl.of0 2 pn_X10 (Nat.le_of_ble_eq_true rfl) ⟨rfl, rfl⟩ rfl ?_
  refine e_al0 1 rfl dX10_endingRead_0 ?_
  refine e_iconst (nI 0) 2 rfl dX10_endingRead_1 ic_0 ?_
  refine e_putI 5 rfl dX10_endingRead_2 f_X10_156 (by assumption) ?_
  generalize sF μ m 36 (nI 0) = μ1 at hX1 hF1 hf1 h361 ⊢
  have mk1 := hX1.1.1
  have h291 := hX1.2.1
  have e45 := seeI_eq (hlt p0) (d := 45) (by decide)
  unfold pTail pEnd at hRe
  refine e_al0 6 rfl dX10_endingRead_5 ?_
  refine e_invV0 [] 9 rfl dX10_endingRead_6 k_X10_144 mo_X10_see rm_X10_endingRead_X10_see ⟨rfl, rfl⟩ rfl rfl (by assumption) (Nat.le_of_ble_eq_true rfl) ?_
  refine c_see hX1 ?_
  refine e_bipush (nI 45) 11 rfl dX10_endingRead_9 bc_45 ?_
  refine e_cmp_ne 27 14 (by decide) rfl dX10_endingRead_11 (fun y1 => ?_) (fun y1 => ?_)
  rotate_left
  · have h45 := e45.mp y1
    have hp2 := (List.getElem?_eq_some_iff.mp h45).1
    rw [if_pos h45] at hRe
    simp only [] at hRe
    have hX2 := hX1.to (p' := p0 + 1) (by omega)
    refine e_al0 15 rfl dX10_endingRead_14 ?_
    refine e_dup 16 rfl dX10_endingRead_15 rfl ?_
    first | refine e_getIv 19 rfl dX10_endingRead_16 f_X10_135 (by assumption) (by first | assumption | (simp only [mN_sF, mK_sF, mL_sF, mF_sF, mB_sF, mA_sF, mJ_sF, mP_sF, mO_sF, mN_sB, mK_sB, mL_sB, mF_sB, mB_sB, mA_sB, mJ_sB, mP_sB, mO_sB, mN_sA, mK_sA, mL_sA, mF_sA, mB_sA, mA_sA, mJ_sA, mP_sA, mO_sA, mN_sJ, mK_sJ, mL_sJ, mF_sJ, mB_sJ, mA_sJ, mJ_sJ, mP_sJ, mO_sJ, mN_sP, mK_sP, mL_sP, mF_sP, mB_sP, mA_sP, mJ_sP, mP_sP, mO_sP, mN_sO, mK_sO, mL_sO, mF_sO, mB_sO, mA_sO, mJ_sO, mP_sO, mO_sO, up2, if_true, if_false, eq_self, ite_true, ite_false, reduceIte, Nat.add_left_cancel_iff, Nat.add_eq_left, Nat.left_eq_add, Nat.reduceEqDiff]; assumption) | (simp only [mN_sF, mK_sF, mL_sF, mF_sF, mB_sF, mA_sF, mJ_sF, mP_sF, mO_sF, mN_sB, mK_sB, mL_sB, mF_sB, mB_sB, mA_sB, mJ_sB, mP_sB, mO_sB, mN_sA, mK_sA, mL_sA, mF_sA, mB_sA, mA_sA, mJ_sA, mP_sA, mO_sA, mN_sJ, mK_sJ, mL_sJ, mF_sJ, mB_sJ, mA_sJ, mJ_sJ, mP_sJ, mO_sJ, mN_sP, mK_sP, mL_sP, mF_sP, mB_sP, mA_sP, mJ_sP, mP_sP, mO_sP, mN_sO, mK_sO, mL_sO, mF_sO, mB_sO, mA_sO, mJ_sO, mP_sO, mO_sO, up2, if_true, if_false, eq_self, ite_true, ite_false, reduceIte, Nat.add_left_cancel_iff, Nat.add_eq_left, Nat.left_eq_add, Nat.reduceEqDiff]; done)) ?_ | refine e_getI 19 rfl dX10_endingRead_16 f_X10_135 (by assumption) ?_
    refine e_iconst (nI 1) 20 rfl dX10_endingRead_19 ic_1 ?_
    first | refine e_iaddN 21 rfl dX10_endingRead_20 rfl rfl ?_ | refine e_iadd 21 rfl dX10_endingRead_20 ?_
    refine e_putI 24 rfl dX10_endingRead_21 f_X10_135 (by assumption) ?_
    refine e_goto 127 (by decide) dX10_endingRead_24 ?_
    refine fin (p0 + 1) [] _ _ _ hRe (by omega) (by simp) (hF1.sF Sm _ _) (fun f a b => ?_) hX2 (by simp only [mN_sF, mK_sF, mL_sF, mF_sF, mB_sF, mA_sF, mJ_sF, mP_sF, mO_sF, mN_sB, mK_sB, mL_sB, mF_sB, mB_sB, mA_sB, mJ_sB, mP_sB, mO_sB, mN_sA, mK_sA, mL_sA, mF_sA, mB_sA, mA_sA, mJ_sA, mP_sA, mO_sA, mN_sJ, mK_sJ, mL_sJ, mF_sJ, mB_sJ, mA_sJ, mJ_sJ, mP_sJ, mO_sJ, mN_sP, mK_sP, mL_sP, mF_sP, mB_sP, mA_sP, mJ_sP, mP_sP, mO_sP, mN_sO, mK_sO, mL_sO, mF_sO, mB_sO, mA_sO, mJ_sO, mP_sO, mO_sO, up2, if_true, if_false, eq_self, ite_true, ite_false, reduceIte, Nat.add_left_cancel_iff, Nat.add_eq_left, Nat.left_eq_add, Nat.reduceEqDiff]; exact h361) Hd.nil
    show up2 _ m 29 _ m f = _
    rw [up2_k a]; exact hf1 f a b
  rw [if_neg (fun q => y1 (e45.mpr q))] at hRe
  refine e_iconst (nI 1) 28 rfl dX10_endingRead_27 ic_1 ?_
  refine e_is1 29 rfl dX10_endingRead_28 (by decide) rfl ?_
  refine e_il1 30 rfl dX10_endingRead_29 ?_
  first | refine e_if_eqB 127 33 (by decide) rfl dX10_endingRead_30 rfl (fun y2 => ?_) (fun y2 => ?_) | refine e_if_eqN 127 33 (by decide) rfl dX10_endingRead_30 rfl (by omega) (fun y2 => ?_) (fun y2 => ?_) | refine e_if_eq 127 33 (by decide) rfl dX10_endingRead_30 (fun y2 => ?_) (fun y2 => ?_)
  · exact absurd y2 (by decide)
  exact loop 6 [] p0 rfl μ1 _ hRe hp0 (Or.inl rfl) hF1 hf1 hX1 h361 Hd.nil
end MLETTERS
