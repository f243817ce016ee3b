/-! NameDeskModel: words and the book -/
section MWORDS
variable {E : En} {μ : Mm} {K : Option Value → Mm → Prop}
theorem foldL_core (l : List Nat) : foldL (coreL l) = foldL l := by
  unfold coreL
  split
  next e =>
    have hne : l ≠ [] := fun q => by rw [q] at e; simp at e
    rw [List.getLast?_eq_some_getLast hne] at e
    have h := List.dropLast_concat_getLast hne
    rw [Option.some.inj e] at h
    conv => rhs; rw [← h]
    rw [foldL_app]
    have : foldL [46] = [] := by decide
    rw [this, List.append_nil]
  next => rfl
theorem foldL_one {c : Nat} (h : isLt c = true) : foldL [c] = [fld c] := by unfold foldL; simp [h]
theorem foldL_non {c : Nat} (h : isLt c = false) : foldL [c] = [] := by unfold foldL; simp [h]
def iwQ (m : Nat) : Nat → Prop := fun q => q = m ∨ q = m + 29
theorem c_mIsWord {m s e : Nat} {tx : Nat → Nat} (hg : Mg μ m) (hse : s ≤ e) (he : e ≤ 400) (htx : ∀ i, i < e → mA μ (m + 1) i = nI (tx i) ∧ tx i < 256)
    (kf : isWordL (seg tx s e) = false → ∀ μ', Fr (iwQ m) μ μ' → (∀ f, f ≠ 39 → mF μ' m f = mF μ m f) → K (some (.int (nI 0))) μ')
    (kt : isWordL (seg tx s e) = true → ∀ μ', Fr (iwQ m) μ μ' → (∀ f, f ≠ 39 → mF μ' m f = mF μ m f) → mF μ' m 39 = nI (foldL (seg tx s e)).length → Hd (mA μ' (m + 29)) (foldL (seg tx s e)) → K (some (.int (nI 1))) μ') : Cl E M_X10_isWord [.ref m, .int (nI s), .int (nI e)] μ K := by
  have mk := hg.1
  obtain ⟨pt, ktp, lt⟩ := hg.tape
  have cont : ∀ sz l4, coreL (seg tx s e) = seg tx s (s + sz) → s + sz ≤ e → Ev E M_X10_isWord 0 0 42 [some (.ref m), some (.int (nI s)), some (.int (nI e)), some (.int (nI (e - s))), l4, some (.int (nI sz)), none, none] [] μ K := by
    intro sz l4 hcore hsz
    have hw := isWordL_core (seg tx s e)
    rw [hcore, seg_len] at hw
    have hsub : s + sz - s = sz := by omega
    rw [hsub] at hw
    refine e_il5 44 rfl dX10_isWord_42 ?_
    refine e_iconst (nI 1) 45 rfl dX10_isWord_44 ic_1 ?_
    first | refine e_cmp_ltN 67 48 (by decide) rfl dX10_isWord_45 rfl rfl (by omega) (by omega) (fun y1 => ?_) (fun y1 => ?_) | refine e_cmp_lt 67 48 (by decide) rfl dX10_isWord_45 (fun y1 => ?_) (fun y1 => ?_)
    · refine e_iconst (nI 0) 68 rfl dX10_isWord_67 ic_0 ?_
      refine e_zret dX10_isWord_68 rfl (by first | exact z0 | exact z1 | exact bI01 _ | assumption) ?_
      exact kf (by rw [hw]; simp; omega) μ Fr.rf (fun _ _ => rfl)
    refine e_il5 50 rfl dX10_isWord_48 ?_
    refine e_bipush (nI 20) 52 rfl dX10_isWord_50 bc_20 ?_
    first | refine e_cmp_gtN 67 55 (by decide) rfl dX10_isWord_52 rfl rfl (by omega) (by omega) (fun y2 => ?_) (fun y2 => ?_) | refine e_cmp_gt 67 55 (by decide) rfl dX10_isWord_52 (fun y2 => ?_) (fun y2 => ?_)
    · refine e_iconst (nI 0) 68 rfl dX10_isWord_67 ic_0 ?_
      refine e_zret dX10_isWord_68 rfl (by first | exact z0 | exact z1 | exact bI01 _ | assumption) ?_
      exact kf (by rw [hw]; simp; omega) μ Fr.rf (fun _ _ => rfl)
    have hv := (htx s (by omega)).1
    have hv2 := (htx s (by omega)).2
    have hh : (seg tx s (s + sz)).head? = some (tx s) := by
      rw [List.head?_eq_getElem?, seg_get tx (by omega)]; rfl
    refine e_al0 56 rfl dX10_isWord_55 ?_
    refine e_getR 59 rfl dX10_isWord_56 f_X10_7 (by assumption) (by assumption) ?_
    refine e_il1 60 rfl dX10_isWord_59 ?_
    first | refine e_ialdv 61 rfl dX10_isWord_60 (by assumption) (by assumption) (by first | rfl | simp only [pk_mul, nI_add]) (by omega) (by omega) (by first | assumption | (simp only [mN_sF, mK_sF, mL_sF, mF_sF, mB_sF, mA_sF, mJ_sF, mP_sF, mO_sF, mN_sB, mK_sB, mL_sB, mF_sB, mB_sB, mA_sB, mJ_sB, mP_sB, mO_sB, mN_sA, mK_sA, mL_sA, mF_sA, mB_sA, mA_sA, mJ_sA, mP_sA, mO_sA, mN_sJ, mK_sJ, mL_sJ, mF_sJ, mB_sJ, mA_sJ, mJ_sJ, mP_sJ, mO_sJ, mN_sP, mK_sP, mL_sP, mF_sP, mB_sP, mA_sP, mJ_sP, mP_sP, mO_sP, mN_sO, mK_sO, mL_sO, mF_sO, mB_sO, mA_sO, mJ_sO, mP_sO, mO_sO, up2, if_true, if_false, eq_self, ite_true, ite_false, reduceIte, Nat.add_left_cancel_iff, Nat.add_eq_left, Nat.left_eq_add, Nat.reduceEqDiff]; assumption) | (simp only [mN_sF, mK_sF, mL_sF, mF_sF, mB_sF, mA_sF, mJ_sF, mP_sF, mO_sF, mN_sB, mK_sB, mL_sB, mF_sB, mB_sB, mA_sB, mJ_sB, mP_sB, mO_sB, mN_sA, mK_sA, mL_sA, mF_sA, mB_sA, mA_sA, mJ_sA, mP_sA, mO_sA, mN_sJ, mK_sJ, mL_sJ, mF_sJ, mB_sJ, mA_sJ, mJ_sJ, mP_sJ, mO_sJ, mN_sP, mK_sP, mL_sP, mF_sP, mB_sP, mA_sP, mJ_sP, mP_sP, mO_sP, mN_sO, mK_sO, mL_sO, mF_sO, mB_sO, mA_sO, mJ_sO, mP_sO, mO_sO, up2, if_true, if_false, eq_self, ite_true, ite_false, reduceIte, Nat.add_left_cancel_iff, Nat.add_eq_left, Nat.left_eq_add, Nat.reduceEqDiff]; done)) ?_ | refine e_iald 61 rfl dX10_isWord_60 (by assumption) (by assumption) (by first | rfl | simp only [pk_mul, nI_add]) (by omega) (by omega) ?_
    refine e_invS0 [_] 64 rfl dX10_isWord_61 k_X10_170 mo_X10_isLetter rm_X10_isWord_X10_isLetter ⟨rfl, rfl⟩ rfl rfl (Nat.le_of_ble_eq_true rfl) ?_
    refine c_isLetter hv2 ?_
    first | refine e_if_neB 69 67 (by decide) rfl dX10_isWord_64 rfl (fun y3 => ?_) (fun y3 => ?_) | refine e_if_neN 69 67 (by decide) rfl dX10_isWord_64 rfl (by omega) (fun y3 => ?_) (fun y3 => ?_) | refine e_if_ne 69 67 (by decide) rfl dX10_isWord_64 (fun y3 => ?_) (fun y3 => ?_)
    rotate_left
    · refine e_iconst (nI 0) 68 rfl dX10_isWord_67 ic_0 ?_
      refine e_zret dX10_isWord_68 rfl (by first | exact z0 | exact z1 | exact bI01 _ | assumption) ?_
      exact kf (by rw [hw, hh]; simp [y3]) μ Fr.rf (fun _ _ => rfl)
    rw [hh] at hw
    have hw2 : isWordL (seg tx s e) = (seg tx s (s + sz)).all okS := by rw [hw]; simp [y3]; omega
    refine e_al0 70 rfl dX10_isWord_69 ?_
    refine e_iconst (nI 0) 71 rfl dX10_isWord_70 ic_0 ?_
    refine e_putI 74 rfl dX10_isWord_71 f_X10_173 (by assumption) ?_
    refine e_il1 75 rfl dX10_isWord_74 ?_
    refine e_is6 77 rfl dX10_isWord_75 (by decide) rfl ?_
    have loop : ∀ (fu i : Nat), i + fu = sz → ∀ μ2 l7, Fr (iwQ m) μ μ2 → (∀ f, f ≠ 39 → mF μ2 m f = mF μ m f) → mF μ2 m 39 = nI (foldL (seg tx s (s + i))).length → Hd (mA μ2 (m + 29)) (foldL (seg tx s (s + i))) → (seg tx s (s + i)).all okS = true → Ev E M_X10_isWord 0 0 77 [some (.ref m), some (.int (nI s)), some (.int (nI e)), some (.int (nI (e - s))), l4, some (.int (nI sz)), some (.int (nI (s + i))), l7] [] μ2 K := by
      intro fu
      induction fu with
      | zero =>
        intro i hi μ2 l7 hF hf h39 hH hall
        have ei : i = sz := by omega
        subst ei
        refine e_il6 79 rfl dX10_isWord_77 ?_
        refine e_il1 80 rfl dX10_isWord_79 ?_
        refine e_il5 82 rfl dX10_isWord_80 ?_
        first | refine e_iaddN 83 rfl dX10_isWord_82 rfl rfl ?_ | refine e_iadd 83 rfl dX10_isWord_82 ?_
        first | refine e_cmp_geN 169 86 (by decide) rfl dX10_isWord_83 rfl rfl (by omega) (by omega) (fun y4 => ?_) (fun y4 => ?_) | refine e_cmp_ge 169 86 (by decide) rfl dX10_isWord_83 (fun y4 => ?_) (fun y4 => ?_)
        rotate_left
        · omega
        refine e_iconst (nI 1) 170 rfl dX10_isWord_169 ic_1 ?_
        refine e_zret dX10_isWord_170 rfl (by first | exact z0 | exact z1 | exact bI01 _ | assumption) ?_
        rw [← hcore, foldL_core] at h39 hH
        exact kt (by rw [hw2]; exact hall) μ2 hF hf h39 hH
      | succ fu ih =>
        intro i hi μ2 l7 hF hf h39 hH hall
        have hg2 := hg.fr hF
        have mk2 := hg2.1
        obtain ⟨pt2, kt2, lt2⟩ := hg2.tape
        obtain ⟨pf2, kf2, lf2⟩ := hg2.folded
        have hv : mA μ2 (m + 1) (s + i) = nI (tx (s + i)) := by rw [(hF.2.2.2.2.2 (m + 1) (by unfold iwQ; omega)).2.2.1]; exact (htx (s + i) (by omega)).1
        have hc := (htx (s + i) (by omega)).2
        have hsg : seg tx s (s + (i + 1)) = seg tx s (s + i) ++ [tx (s + i)] := seg_succ tx (Nat.le_add_right s i)
        have hlen := foldL_len (seg tx s (s + i))
        rw [seg_len] at hlen
        have hbad : okS (tx (s + i)) = false → isWordL (seg tx s e) = false := fun h => by
          rw [hw2]
          cases hx : (seg tx s (s + sz)).all okS with
          | false => rfl
          | true =>
            have := List.all_eq_true.mp hx (tx (s + i)) (List.mem_of_getElem? (seg_get tx (i := i) (by omega)))
            rw [h] at this
            cases this
        have good : okS (tx (s + i)) = true → (seg tx s (s + (i + 1))).all okS = true := fun h => by rw [hsg, List.all_append, hall]; simp [h]
        refine e_il6 79 rfl dX10_isWord_77 ?_
        refine e_il1 80 rfl dX10_isWord_79 ?_
        refine e_il5 82 rfl dX10_isWord_80 ?_
        first | refine e_iaddN 83 rfl dX10_isWord_82 rfl rfl ?_ | refine e_iadd 83 rfl dX10_isWord_82 ?_
        first | refine e_cmp_geN 169 86 (by decide) rfl dX10_isWord_83 rfl rfl (by omega) (by omega) (fun y4 => ?_) (fun y4 => ?_) | refine e_cmp_ge 169 86 (by decide) rfl dX10_isWord_83 (fun y4 => ?_) (fun y4 => ?_)
        · omega
        refine e_al0 87 rfl dX10_isWord_86 ?_
        refine e_getR 90 rfl dX10_isWord_87 f_X10_7 (by assumption) (by assumption) ?_
        refine e_il6 92 rfl dX10_isWord_90 ?_
        first | refine e_ialdv 93 rfl dX10_isWord_92 (by assumption) (by assumption) (by first | rfl | simp only [pk_mul, nI_add]) (by omega) (by omega) (by first | assumption | (simp only [mN_sF, mK_sF, mL_sF, mF_sF, mB_sF, mA_sF, mJ_sF, mP_sF, mO_sF, mN_sB, mK_sB, mL_sB, mF_sB, mB_sB, mA_sB, mJ_sB, mP_sB, mO_sB, mN_sA, mK_sA, mL_sA, mF_sA, mB_sA, mA_sA, mJ_sA, mP_sA, mO_sA, mN_sJ, mK_sJ, mL_sJ, mF_sJ, mB_sJ, mA_sJ, mJ_sJ, mP_sJ, mO_sJ, mN_sP, mK_sP, mL_sP, mF_sP, mB_sP, mA_sP, mJ_sP, mP_sP, mO_sP, mN_sO, mK_sO, mL_sO, mF_sO, mB_sO, mA_sO, mJ_sO, mP_sO, mO_sO, up2, if_true, if_false, eq_self, ite_true, ite_false, reduceIte, Nat.add_left_cancel_iff, Nat.add_eq_left, Nat.left_eq_add, Nat.reduceEqDiff]; assumption) | (simp only [mN_sF, mK_sF, mL_sF, mF_sF, mB_sF, mA_sF, mJ_sF, mP_sF, mO_sF, mN_sB, mK_sB, mL_sB, mF_sB, mB_sB, mA_sB, mJ_sB, mP_sB, mO_sB, mN_sA, mK_sA, mL_sA, mF_sA, mB_sA, mA_sA, mJ_sA, mP_sA, mO_sA, mN_sJ, mK_sJ, mL_sJ, mF_sJ, mB_sJ, mA_sJ, mJ_sJ, mP_sJ, mO_sJ, mN_sP, mK_sP, mL_sP, mF_sP, mB_sP, mA_sP, mJ_sP, mP_sP, mO_sP, mN_sO, mK_sO, mL_sO, mF_sO, mB_sO, mA_sO, mJ_sO, mP_sO, mO_sO, up2, if_true, if_false, eq_self, ite_true, ite_false, reduceIte, Nat.add_left_cancel_iff, Nat.add_eq_left, Nat.left_eq_add, Nat.reduceEqDiff]; done)) ?_ | refine e_iald 93 rfl dX10_isWord_92 (by assumption) (by assumption) (by first | rfl | simp only [pk_mul, nI_add]) (by omega) (by omega) ?_
        refine e_is7 95 rfl dX10_isWord_93 (by decide) rfl ?_
        refine e_il7 97 rfl dX10_isWord_95 ?_
        refine e_invS0 [_] 100 rfl dX10_isWord_97 k_X10_170 mo_X10_isLetter rm_X10_isWord_X10_isLetter ⟨rfl, rfl⟩ rfl rfl (Nat.le_of_ble_eq_true rfl) ?_
        refine c_isLetter hc ?_
        cases eL : isLt (tx (s + i)) with
        | true =>
          first | refine e_if_neB 119 103 (by decide) rfl dX10_isWord_100 rfl (fun y5 => ?_) (fun y5 => ?_) | refine e_if_neN 119 103 (by decide) rfl dX10_isWord_100 rfl (by omega) (fun y5 => ?_) (fun y5 => ?_) | refine e_if_ne 119 103 (by decide) rfl dX10_isWord_100 (fun y5 => ?_) (fun y5 => ?_)
          rotate_left
          · cases y5
          refine e_il7 121 rfl dX10_isWord_119 ?_
          refine e_invS0 [_] 124 rfl dX10_isWord_121 k_X10_170 mo_X10_isLetter rm_X10_isWord_X10_isLetter ⟨rfl, rfl⟩ rfl rfl (Nat.le_of_ble_eq_true rfl) ?_
          refine c_isLetter hc ?_
          rw [eL]
          first | refine e_if_eqB 163 127 (by decide) rfl dX10_isWord_124 rfl (fun y6 => ?_) (fun y6 => ?_) | refine e_if_eqN 163 127 (by decide) rfl dX10_isWord_124 rfl (by omega) (fun y6 => ?_) (fun y6 => ?_) | refine e_if_eq 163 127 (by decide) rfl dX10_isWord_124 (fun y6 => ?_) (fun y6 => ?_)
          · cases y6
          have fin : ∀ v, v = nI (fld (tx (s + i))) → Ev E M_X10_isWord 0 0 152 [some (.ref m), some (.int (nI s)), some (.int (nI e)), some (.int (nI (e - s))), l4, some (.int (nI sz)), some (.int (nI (s + i))), some (.int (nI (tx (s + i))))] [.int v, .int (nI (foldL (seg tx s (s + i))).length), .ref (m + 29)] μ2 K := by
            intro v hv'
            subst hv'
            refine e_iast 153 rfl dX10_isWord_152 (by assumption) (by assumption) (by first | rfl | simp only [pk_mul, nI_add]) (by omega) (by omega) ?_
            have mk3 : mK (sA μ2 (m + 29) (foldL (seg tx s (s + i))).length (nI (fld (tx (s + i))))) m = 11 := mk2
            have h393 : mF (sA μ2 (m + 29) (foldL (seg tx s (s + i))).length (nI (fld (tx (s + i))))) m 39 = nI (foldL (seg tx s (s + i))).length := h39
            refine e_al0 154 rfl dX10_isWord_153 ?_
            refine e_dup 155 rfl dX10_isWord_154 rfl ?_
            first | refine e_getIv 158 rfl dX10_isWord_155 f_X10_173 (by assumption) (by first | assumption | (simp only [mN_sF, mK_sF, mL_sF, mF_sF, mB_sF, mA_sF, mJ_sF, mP_sF, mO_sF, mN_sB, mK_sB, mL_sB, mF_sB, mB_sB, mA_sB, mJ_sB, mP_sB, mO_sB, mN_sA, mK_sA, mL_sA, mF_sA, mB_sA, mA_sA, mJ_sA, mP_sA, mO_sA, mN_sJ, mK_sJ, mL_sJ, mF_sJ, mB_sJ, mA_sJ, mJ_sJ, mP_sJ, mO_sJ, mN_sP, mK_sP, mL_sP, mF_sP, mB_sP, mA_sP, mJ_sP, mP_sP, mO_sP, mN_sO, mK_sO, mL_sO, mF_sO, mB_sO, mA_sO, mJ_sO, mP_sO, mO_sO, up2, if_true, if_false, eq_self, ite_true, ite_false, reduceIte, Nat.add_left_cancel_iff, Nat.add_eq_left, Nat.left_eq_add, Nat.reduceEqDiff]; assumption) | (simp only [mN_sF, mK_sF, mL_sF, mF_sF, mB_sF, mA_sF, mJ_sF, mP_sF, mO_sF, mN_sB, mK_sB, mL_sB, mF_sB, mB_sB, mA_sB, mJ_sB, mP_sB, mO_sB, mN_sA, mK_sA, mL_sA, mF_sA, mB_sA, mA_sA, mJ_sA, mP_sA, mO_sA, mN_sJ, mK_sJ, mL_sJ, mF_sJ, mB_sJ, mA_sJ, mJ_sJ, mP_sJ, mO_sJ, mN_sP, mK_sP, mL_sP, mF_sP, mB_sP, mA_sP, mJ_sP, mP_sP, mO_sP, mN_sO, mK_sO, mL_sO, mF_sO, mB_sO, mA_sO, mJ_sO, mP_sO, mO_sO, up2, if_true, if_false, eq_self, ite_true, ite_false, reduceIte, Nat.add_left_cancel_iff, Nat.add_eq_left, Nat.left_eq_add, Nat.reduceEqDiff]; done)) ?_ | refine e_getI 158 rfl dX10_isWord_155 f_X10_173 (by assumption) ?_
            refine e_iconst (nI 1) 159 rfl dX10_isWord_158 ic_1 ?_
            first | refine e_iaddN 160 rfl dX10_isWord_159 rfl rfl ?_ | refine e_iadd 160 rfl dX10_isWord_159 ?_
            refine e_putI 163 rfl dX10_isWord_160 f_X10_173 (by assumption) ?_
            refine e_ii6 (nI (_ + 1)) 166 rfl dX10_isWord_163 (ii1 _) rfl ?_
            refine e_goto 77 (by decide) dX10_isWord_166 ?_
            have hpush : foldL (seg tx s (s + (i + 1))) = foldL (seg tx s (s + i)) ++ [fld (tx (s + i))] := by rw [hsg, foldL_app, foldL_one eL]
            refine ih (i + 1) (by omega) _ _ ((hF.sA (show iwQ m (m + 29) from Or.inr rfl) _ _).sF (show iwQ m m from Or.inl rfl) _ _) (fun f hf' => ?_) ?_ ?_ (good (by unfold okS; simp [eL]))
            · show up2 _ m 39 _ m f = _
              rw [up2_k hf']; exact hf f hf'
            · show up2 _ m 39 _ m 39 = _
              rw [up2_s, hpush, List.length_append]; rfl
            · rw [hpush]
              refine hH.push (fun j hj => ?_) ?_
              · show up2 _ (m + 29) _ _ (m + 29) j = _
                rw [up2_k (by omega)]
              · show up2 _ (m + 29) _ _ (m + 29) _ = _
                rw [up2_s]
          refine e_al0 128 rfl dX10_isWord_127 ?_
          refine e_getR 131 rfl dX10_isWord_128 f_X10_99 (by assumption) (by assumption) ?_
          refine e_al0 132 rfl dX10_isWord_131 ?_
          first | refine e_getIv 135 rfl dX10_isWord_132 f_X10_173 (by assumption) (by first | assumption | (simp only [mN_sF, mK_sF, mL_sF, mF_sF, mB_sF, mA_sF, mJ_sF, mP_sF, mO_sF, mN_sB, mK_sB, mL_sB, mF_sB, mB_sB, mA_sB, mJ_sB, mP_sB, mO_sB, mN_sA, mK_sA, mL_sA, mF_sA, mB_sA, mA_sA, mJ_sA, mP_sA, mO_sA, mN_sJ, mK_sJ, mL_sJ, mF_sJ, mB_sJ, mA_sJ, mJ_sJ, mP_sJ, mO_sJ, mN_sP, mK_sP, mL_sP, mF_sP, mB_sP, mA_sP, mJ_sP, mP_sP, mO_sP, mN_sO, mK_sO, mL_sO, mF_sO, mB_sO, mA_sO, mJ_sO, mP_sO, mO_sO, up2, if_true, if_false, eq_self, ite_true, ite_false, reduceIte, Nat.add_left_cancel_iff, Nat.add_eq_left, Nat.left_eq_add, Nat.reduceEqDiff]; assumption) | (simp only [mN_sF, mK_sF, mL_sF, mF_sF, mB_sF, mA_sF, mJ_sF, mP_sF, mO_sF, mN_sB, mK_sB, mL_sB, mF_sB, mB_sB, mA_sB, mJ_sB, mP_sB, mO_sB, mN_sA, mK_sA, mL_sA, mF_sA, mB_sA, mA_sA, mJ_sA, mP_sA, mO_sA, mN_sJ, mK_sJ, mL_sJ, mF_sJ, mB_sJ, mA_sJ, mJ_sJ, mP_sJ, mO_sJ, mN_sP, mK_sP, mL_sP, mF_sP, mB_sP, mA_sP, mJ_sP, mP_sP, mO_sP, mN_sO, mK_sO, mL_sO, mF_sO, mB_sO, mA_sO, mJ_sO, mP_sO, mO_sO, up2, if_true, if_false, eq_self, ite_true, ite_false, reduceIte, Nat.add_left_cancel_iff, Nat.add_eq_left, Nat.left_eq_add, Nat.reduceEqDiff]; done)) ?_ | refine e_getI 135 rfl dX10_isWord_132 f_X10_173 (by assumption) ?_
          refine e_il7 137 rfl dX10_isWord_135 ?_
          refine e_bipush (nI 97) 139 rfl dX10_isWord_137 bc_97 ?_
          first | refine e_cmp_geN 150 142 (by decide) rfl dX10_isWord_139 rfl rfl (by omega) (by omega) (fun y7 => ?_) (fun y7 => ?_) | refine e_cmp_ge 150 142 (by decide) rfl dX10_isWord_139 (fun y7 => ?_) (fun y7 => ?_)
          · refine e_il7 152 rfl dX10_isWord_150 ?_
            refine fin _ ?_
            have : fld (tx (s + i)) = tx (s + i) := by unfold fld; unfold isLt isSm isBg at eL; simp at eL; split <;> omega
            rw [this]
          · refine e_il7 144 rfl dX10_isWord_142 ?_
            refine e_bipush (nI 32) 146 rfl dX10_isWord_144 bc_32 ?_
            first | refine e_iaddN 147 rfl dX10_isWord_146 rfl rfl ?_ | refine e_iadd 147 rfl dX10_isWord_146 ?_
            refine e_goto 152 (by decide) dX10_isWord_147 ?_
            refine fin _ ?_
            have : fld (tx (s + i)) = tx (s + i) + 32 := by unfold fld; unfold isLt isSm isBg at eL; simp at eL; split <;> omega
            rw [this]
        | false =>
          first | refine e_if_neB 119 103 (by decide) rfl dX10_isWord_100 rfl (fun y5 => ?_) (fun y5 => ?_) | refine e_if_neN 119 103 (by decide) rfl dX10_isWord_100 rfl (by omega) (fun y5 => ?_) (fun y5 => ?_) | refine e_if_ne 119 103 (by decide) rfl dX10_isWord_100 (fun y5 => ?_) (fun y5 => ?_)
          · cases y5
          have skip : okS (tx (s + i)) = true → Ev E M_X10_isWord 0 0 119 [some (.ref m), some (.int (nI s)), some (.int (nI e)), some (.int (nI (e - s))), l4, some (.int (nI sz)), some (.int (nI (s + i))), some (.int (nI (tx (s + i))))] [] μ2 K := by
            intro hok
            refine e_il7 121 rfl dX10_isWord_119 ?_
            refine e_invS0 [_] 124 rfl dX10_isWord_121 k_X10_170 mo_X10_isLetter rm_X10_isWord_X10_isLetter ⟨rfl, rfl⟩ rfl rfl (Nat.le_of_ble_eq_true rfl) ?_
            refine c_isLetter hc ?_
            rw [eL]
            first | refine e_if_eqB 163 127 (by decide) rfl dX10_isWord_124 rfl (fun y6 => ?_) (fun y6 => ?_) | refine e_if_eqN 163 127 (by decide) rfl dX10_isWord_124 rfl (by omega) (fun y6 => ?_) (fun y6 => ?_) | refine e_if_eq 163 127 (by decide) rfl dX10_isWord_124 (fun y6 => ?_) (fun y6 => ?_)
            rotate_left
            · cases y6
            have hpush : foldL (seg tx s (s + (i + 1))) = foldL (seg tx s (s + i)) := by rw [hsg, foldL_app, foldL_non eL, List.append_nil]
            refine e_ii6 (nI (_ + 1)) 166 rfl dX10_isWord_163 (ii1 _) rfl ?_
            refine e_goto 77 (by decide) dX10_isWord_166 ?_
            exact ih (i + 1) (by omega) μ2 _ hF hf (by rw [hpush]; exact h39) (by rw [hpush]; exact hH) (good hok)
          refine e_il7 105 rfl dX10_isWord_103 ?_
          refine e_bipush (nI 39) 107 rfl dX10_isWord_105 bc_39 ?_
          first | refine e_cmp_eqN 119 110 (by decide) rfl dX10_isWord_107 rfl rfl (by omega) (by omega) (fun y6 => ?_) (fun y6 => ?_) | refine e_cmp_eq 119 110 (by decide) rfl dX10_isWord_107 (fun y6 => ?_) (fun y6 => ?_)
          · exact skip (by unfold okS; simp [y6])
          refine e_il7 112 rfl dX10_isWord_110 ?_
          refine e_bipush (nI 45) 114 rfl dX10_isWord_112 bc_45 ?_
          first | refine e_cmp_eqN 119 117 (by decide) rfl dX10_isWord_114 rfl rfl (by omega) (by omega) (fun y7 => ?_) (fun y7 => ?_) | refine e_cmp_eq 119 117 (by decide) rfl dX10_isWord_114 (fun y7 => ?_) (fun y7 => ?_)
          · exact skip (by unfold okS; simp [y7])
          · refine e_iconst (nI 0) 118 rfl dX10_isWord_117 ic_0 ?_
            refine e_zret dX10_isWord_118 rfl (by first | exact z0 | exact z1 | exact bI01 _ | assumption) ?_
            exact kf (hbad (by unfold okS; simp [eL, y6, y7])) μ2 hF hf
    exact loop sz 0 (by omega) _ _ ((Fr.rf (S := iwQ m)).sF (show iwQ m m from Or.inl rfl) _ _) (fun f hf => by show up2 _ m 39 _ m f = _; rw [up2_k hf]) (by rw [seg_nil tx (by omega)]; simp only [mN_sF, mK_sF, mL_sF, mF_sF, mB_sF, mA_sF, mJ_sF, mP_sF, mO_sF, mN_sB, mK_sB, mL_sB, mF_sB, mB_sB, mA_sB, mJ_sB, mP_sB, mO_sB, mN_sA, mK_sA, mL_sA, mF_sA, mB_sA, mA_sA, mJ_sA, mP_sA, mO_sA, mN_sJ, mK_sJ, mL_sJ, mF_sJ, mB_sJ, mA_sJ, mJ_sJ, mP_sJ, mO_sJ, mN_sP, mK_sP, mL_sP, mF_sP, mB_sP, mA_sP, mJ_sP, mP_sP, mO_sP, mN_sO, mK_sO, mL_sO, mF_sO, mB_sO, mA_sO, mJ_sO, mP_sO, mO_sO, up2, if_true, if_false, eq_self, ite_true, ite_false, reduceIte, Nat.add_left_cancel_iff, Nat.add_eq_left, Nat.left_eq_add, Nat.reduceEqDiff]; rfl) (by rw [seg_nil tx (by omega)]; exact Hd.nil) (by rw [seg_nil tx (by omega)]; rfl)
  refine Cl.of0 5 pn_X10 (Nat.le_of_ble_eq_true rfl) ⟨rfl, rfl⟩ rfl ?_
  refine e_il2 1 rfl dX10_isWord_0 ?_
  refine e_il1 2 rfl dX10_isWord_1 ?_
  first | refine e_isubN 3 rfl dX10_isWord_2 rfl rfl (by omega) ?_ | refine e_isub 3 rfl dX10_isWord_2 ?_
  refine e_is3 4 rfl dX10_isWord_3 (by decide) rfl ?_
  refine e_il3 5 rfl dX10_isWord_4 ?_
  first | refine e_if_leN 25 8 (by decide) rfl dX10_isWord_5 rfl (by omega) (fun y1 => ?_) (fun y1 => ?_) | refine e_if_le 25 8 (by decide) rfl dX10_isWord_5 (fun y1 => ?_) (fun y1 => ?_)
  · have hc := cont 0 (some (.int (nI 0))) (by rw [seg_nil tx (by omega), seg_nil tx (by omega)]; rfl) (by omega)
    rw [show e - s = 0 by omega] at hc ⊢
    refine e_iconst (nI 0) 26 rfl dX10_isWord_25 ic_0 ?_
    refine e_is4 28 rfl dX10_isWord_26 (by decide) rfl ?_
    refine e_il4 30 rfl dX10_isWord_28 ?_
    first | refine e_if_eqB 39 33 (by decide) rfl dX10_isWord_30 rfl (fun y2 => ?_) (fun y2 => ?_) | refine e_if_eqN 39 33 (by decide) rfl dX10_isWord_30 rfl (by omega) (fun y2 => ?_) (fun y2 => ?_) | refine e_if_eq 39 33 (by decide) rfl dX10_isWord_30 (fun y2 => ?_) (fun y2 => ?_)
    rotate_left
    · exact absurd y2 (by decide)
    refine e_il3 40 rfl dX10_isWord_39 ?_
    refine e_is5 42 rfl dX10_isWord_40 (by decide) rfl ?_
    exact hc
  have hv := (htx (e - 1) (by omega)).1
  have hv2 := (htx (e - 1) (by omega)).2
  have hcs := core_seg tx (s := s) (e := e) (by omega)
  refine e_al0 9 rfl dX10_isWord_8 ?_
  refine e_getR 12 rfl dX10_isWord_9 f_X10_7 (by assumption) (by assumption) ?_
  refine e_il2 13 rfl dX10_isWord_12 ?_
  refine e_iconst (nI 1) 14 rfl dX10_isWord_13 ic_1 ?_
  first | refine e_isubN 15 rfl dX10_isWord_14 rfl rfl (by omega) ?_ | refine e_isub 15 rfl dX10_isWord_14 ?_
  first | refine e_ialdv 16 rfl dX10_isWord_15 (by assumption) (by assumption) (by first | rfl | simp only [pk_mul, nI_add]) (by omega) (by omega) (by first | assumption | (simp only [mN_sF, mK_sF, mL_sF, mF_sF, mB_sF, mA_sF, mJ_sF, mP_sF, mO_sF, mN_sB, mK_sB, mL_sB, mF_sB, mB_sB, mA_sB, mJ_sB, mP_sB, mO_sB, mN_sA, mK_sA, mL_sA, mF_sA, mB_sA, mA_sA, mJ_sA, mP_sA, mO_sA, mN_sJ, mK_sJ, mL_sJ, mF_sJ, mB_sJ, mA_sJ, mJ_sJ, mP_sJ, mO_sJ, mN_sP, mK_sP, mL_sP, mF_sP, mB_sP, mA_sP, mJ_sP, mP_sP, mO_sP, mN_sO, mK_sO, mL_sO, mF_sO, mB_sO, mA_sO, mJ_sO, mP_sO, mO_sO, up2, if_true, if_false, eq_self, ite_true, ite_false, reduceIte, Nat.add_left_cancel_iff, Nat.add_eq_left, Nat.left_eq_add, Nat.reduceEqDiff]; assumption) | (simp only [mN_sF, mK_sF, mL_sF, mF_sF, mB_sF, mA_sF, mJ_sF, mP_sF, mO_sF, mN_sB, mK_sB, mL_sB, mF_sB, mB_sB, mA_sB, mJ_sB, mP_sB, mO_sB, mN_sA, mK_sA, mL_sA, mF_sA, mB_sA, mA_sA, mJ_sA, mP_sA, mO_sA, mN_sJ, mK_sJ, mL_sJ, mF_sJ, mB_sJ, mA_sJ, mJ_sJ, mP_sJ, mO_sJ, mN_sP, mK_sP, mL_sP, mF_sP, mB_sP, mA_sP, mJ_sP, mP_sP, mO_sP, mN_sO, mK_sO, mL_sO, mF_sO, mB_sO, mA_sO, mJ_sO, mP_sO, mO_sO, up2, if_true, if_false, eq_self, ite_true, ite_false, reduceIte, Nat.add_left_cancel_iff, Nat.add_eq_left, Nat.left_eq_add, Nat.reduceEqDiff]; done)) ?_ | refine e_iald 16 rfl dX10_isWord_15 (by assumption) (by assumption) (by first | rfl | simp only [pk_mul, nI_add]) (by omega) (by omega) ?_
  refine e_bipush (nI 46) 18 rfl dX10_isWord_16 bc_46 ?_
  first | refine e_cmp_neN 25 21 (by decide) rfl dX10_isWord_18 rfl rfl (by omega) (by omega) (fun y2 => ?_) (fun y2 => ?_) | refine e_cmp_ne 25 21 (by decide) rfl dX10_isWord_18 (fun y2 => ?_) (fun y2 => ?_)
  · rw [if_neg y2] at hcs
    refine e_iconst (nI 0) 26 rfl dX10_isWord_25 ic_0 ?_
    refine e_is4 28 rfl dX10_isWord_26 (by decide) rfl ?_
    refine e_il4 30 rfl dX10_isWord_28 ?_
    first | refine e_if_eqB 39 33 (by decide) rfl dX10_isWord_30 rfl (fun y3 => ?_) (fun y3 => ?_) | refine e_if_eqN 39 33 (by decide) rfl dX10_isWord_30 rfl (by omega) (fun y3 => ?_) (fun y3 => ?_) | refine e_if_eq 39 33 (by decide) rfl dX10_isWord_30 (fun y3 => ?_) (fun y3 => ?_)
    rotate_left
    · exact absurd y3 (by decide)
    refine e_il3 40 rfl dX10_isWord_39 ?_
    refine e_is5 42 rfl dX10_isWord_40 (by decide) rfl ?_
    exact cont (e - s) _ (by rw [hcs, show s + (e - s) = e by omega]) (by omega)
  · rw [if_pos y2] at hcs
    refine e_iconst (nI 1) 22 rfl dX10_isWord_21 ic_1 ?_
    refine e_goto 26 (by decide) dX10_isWord_22 ?_
    refine e_is4 28 rfl dX10_isWord_26 (by decide) rfl ?_
    refine e_il4 30 rfl dX10_isWord_28 ?_
    first | refine e_if_eqB 39 33 (by decide) rfl dX10_isWord_30 rfl (fun y3 => ?_) (fun y3 => ?_) | refine e_if_eqN 39 33 (by decide) rfl dX10_isWord_30 rfl (by omega) (fun y3 => ?_) (fun y3 => ?_) | refine e_if_eq 39 33 (by decide) rfl dX10_isWord_30 (fun y3 => ?_) (fun y3 => ?_)
    · exact absurd y3 (by decide)
    refine e_il3 34 rfl dX10_isWord_33 ?_
    refine e_iconst (nI 1) 35 rfl dX10_isWord_34 ic_1 ?_
    first | refine e_isubN 36 rfl dX10_isWord_35 rfl rfl (by omega) ?_ | refine e_isub 36 rfl dX10_isWord_35 ?_
    refine e_goto 40 (by decide) dX10_isWord_36 ?_
    refine e_is5 42 rfl dX10_isWord_40 (by decide) rfl ?_
    exact cont (e - s - 1) _ (by rw [hcs, show s + (e - s - 1) = e - 1 by omega]) (by omega)
theorem c_mCompare {m a b : Nat} {va vb : List Nat} (hg : Mg μ m) (ha : a < 240) (hb : b < 240) (hwa : mWd μ m a va) (hwb : mWd μ m b vb) (la : (foldL va).length ≤ 20) (lb : (foldL vb).length ≤ 20) (k : K (some (.int (Int32.ofInt (cmpL (foldL va) (foldL vb))))) μ) : Cl E M_X10_compare [.ref m, .int (nI a), .int (nI b)] μ K := by
  have mk := hg.1
  obtain ⟨pf, kf, lf⟩ := hg.fold
  obtain ⟨pz, kz, lz⟩ := hg.foldSize
  have za := hwa.2.1
  have zb := hwb.2.1
  have ra := foldL_r (l := va)
  have rb := foldL_r (l := vb)
  have loop : ∀ (fu i : Nat), i + fu = min (foldL va).length (foldL vb).length → cmpL (foldL va) (foldL vb) = cmpL ((foldL va).drop i) ((foldL vb).drop i) → Ev E M_X10_compare 0 0 2 [some (.ref m), some (.int (nI a)), some (.int (nI b)), some (.int (nI i))] [] μ K := by
    have fin : ∀ i, (foldL va).length ≤ i ∨ (foldL vb).length ≤ i → i ≤ (foldL va).length → i ≤ (foldL vb).length → cmpL (foldL va) (foldL vb) = cmpL ((foldL va).drop i) ((foldL vb).drop i) → Ev E M_X10_compare 0 0 77 [some (.ref m), some (.int (nI a)), some (.int (nI b)), some (.int (nI i))] [] μ K := by
      intro i hor h1 h2 he
      refine e_al0 78 rfl dX10_compare_77 ?_
      refine e_getR 81 rfl dX10_compare_78 f_X10_75 (by assumption) (by assumption) ?_
      refine e_il1 82 rfl dX10_compare_81 ?_
      first | refine e_ialdv 83 rfl dX10_compare_82 (by assumption) (by assumption) (by first | rfl | simp only [pk_mul, nI_add]) (by omega) (by omega) (by first | assumption | (simp only [mN_sF, mK_sF, mL_sF, mF_sF, mB_sF, mA_sF, mJ_sF, mP_sF, mO_sF, mN_sB, mK_sB, mL_sB, mF_sB, mB_sB, mA_sB, mJ_sB, mP_sB, mO_sB, mN_sA, mK_sA, mL_sA, mF_sA, mB_sA, mA_sA, mJ_sA, mP_sA, mO_sA, mN_sJ, mK_sJ, mL_sJ, mF_sJ, mB_sJ, mA_sJ, mJ_sJ, mP_sJ, mO_sJ, mN_sP, mK_sP, mL_sP, mF_sP, mB_sP, mA_sP, mJ_sP, mP_sP, mO_sP, mN_sO, mK_sO, mL_sO, mF_sO, mB_sO, mA_sO, mJ_sO, mP_sO, mO_sO, up2, if_true, if_false, eq_self, ite_true, ite_false, reduceIte, Nat.add_left_cancel_iff, Nat.add_eq_left, Nat.left_eq_add, Nat.reduceEqDiff]; assumption) | (simp only [mN_sF, mK_sF, mL_sF, mF_sF, mB_sF, mA_sF, mJ_sF, mP_sF, mO_sF, mN_sB, mK_sB, mL_sB, mF_sB, mB_sB, mA_sB, mJ_sB, mP_sB, mO_sB, mN_sA, mK_sA, mL_sA, mF_sA, mB_sA, mA_sA, mJ_sA, mP_sA, mO_sA, mN_sJ, mK_sJ, mL_sJ, mF_sJ, mB_sJ, mA_sJ, mJ_sJ, mP_sJ, mO_sJ, mN_sP, mK_sP, mL_sP, mF_sP, mB_sP, mA_sP, mJ_sP, mP_sP, mO_sP, mN_sO, mK_sO, mL_sO, mF_sO, mB_sO, mA_sO, mJ_sO, mP_sO, mO_sO, up2, if_true, if_false, eq_self, ite_true, ite_false, reduceIte, Nat.add_left_cancel_iff, Nat.add_eq_left, Nat.left_eq_add, Nat.reduceEqDiff]; done)) ?_ | refine e_iald 83 rfl dX10_compare_82 (by assumption) (by assumption) (by first | rfl | simp only [pk_mul, nI_add]) (by omega) (by omega) ?_
      refine e_al0 84 rfl dX10_compare_83 ?_
      refine e_getR 87 rfl dX10_compare_84 f_X10_75 (by assumption) (by assumption) ?_
      refine e_il2 88 rfl dX10_compare_87 ?_
      first | refine e_ialdv 89 rfl dX10_compare_88 (by assumption) (by assumption) (by first | rfl | simp only [pk_mul, nI_add]) (by omega) (by omega) (by first | assumption | (simp only [mN_sF, mK_sF, mL_sF, mF_sF, mB_sF, mA_sF, mJ_sF, mP_sF, mO_sF, mN_sB, mK_sB, mL_sB, mF_sB, mB_sB, mA_sB, mJ_sB, mP_sB, mO_sB, mN_sA, mK_sA, mL_sA, mF_sA, mB_sA, mA_sA, mJ_sA, mP_sA, mO_sA, mN_sJ, mK_sJ, mL_sJ, mF_sJ, mB_sJ, mA_sJ, mJ_sJ, mP_sJ, mO_sJ, mN_sP, mK_sP, mL_sP, mF_sP, mB_sP, mA_sP, mJ_sP, mP_sP, mO_sP, mN_sO, mK_sO, mL_sO, mF_sO, mB_sO, mA_sO, mJ_sO, mP_sO, mO_sO, up2, if_true, if_false, eq_self, ite_true, ite_false, reduceIte, Nat.add_left_cancel_iff, Nat.add_eq_left, Nat.left_eq_add, Nat.reduceEqDiff]; assumption) | (simp only [mN_sF, mK_sF, mL_sF, mF_sF, mB_sF, mA_sF, mJ_sF, mP_sF, mO_sF, mN_sB, mK_sB, mL_sB, mF_sB, mB_sB, mA_sB, mJ_sB, mP_sB, mO_sB, mN_sA, mK_sA, mL_sA, mF_sA, mB_sA, mA_sA, mJ_sA, mP_sA, mO_sA, mN_sJ, mK_sJ, mL_sJ, mF_sJ, mB_sJ, mA_sJ, mJ_sJ, mP_sJ, mO_sJ, mN_sP, mK_sP, mL_sP, mF_sP, mB_sP, mA_sP, mJ_sP, mP_sP, mO_sP, mN_sO, mK_sO, mL_sO, mF_sO, mB_sO, mA_sO, mJ_sO, mP_sO, mO_sO, up2, if_true, if_false, eq_self, ite_true, ite_false, reduceIte, Nat.add_left_cancel_iff, Nat.add_eq_left, Nat.left_eq_add, Nat.reduceEqDiff]; done)) ?_ | refine e_iald 89 rfl dX10_compare_88 (by assumption) (by assumption) (by first | rfl | simp only [pk_mul, nI_add]) (by omega) (by omega) ?_
      refine e_isub 90 rfl dX10_compare_89 ?_
      rw [nI_subI]
      refine e_iret dX10_compare_90 rfl ?_
      have hor' : (foldL va).drop i = [] ∨ (foldL vb).drop i = [] := by
        rcases hor with h | h
        · exact Or.inl (List.drop_eq_nil_of_le h)
        · exact Or.inr (List.drop_eq_nil_of_le h)
      rw [he, cmpL_end hor', List.length_drop, List.length_drop] at k
      rw [show (((foldL va).length - i : Nat) : Int) - (((foldL vb).length - i : Nat) : Int) = ((foldL va).length : Int) - ((foldL vb).length : Int) by omega] at k
      exact k
    intro fu
    induction fu with
    | zero =>
      intro i hi he
      refine e_il3 3 rfl dX10_compare_2 ?_
      refine e_al0 4 rfl dX10_compare_3 ?_
      refine e_getR 7 rfl dX10_compare_4 f_X10_75 (by assumption) (by assumption) ?_
      refine e_il1 8 rfl dX10_compare_7 ?_
      first | refine e_ialdv 9 rfl dX10_compare_8 (by assumption) (by assumption) (by first | rfl | simp only [pk_mul, nI_add]) (by omega) (by omega) (by first | assumption | (simp only [mN_sF, mK_sF, mL_sF, mF_sF, mB_sF, mA_sF, mJ_sF, mP_sF, mO_sF, mN_sB, mK_sB, mL_sB, mF_sB, mB_sB, mA_sB, mJ_sB, mP_sB, mO_sB, mN_sA, mK_sA, mL_sA, mF_sA, mB_sA, mA_sA, mJ_sA, mP_sA, mO_sA, mN_sJ, mK_sJ, mL_sJ, mF_sJ, mB_sJ, mA_sJ, mJ_sJ, mP_sJ, mO_sJ, mN_sP, mK_sP, mL_sP, mF_sP, mB_sP, mA_sP, mJ_sP, mP_sP, mO_sP, mN_sO, mK_sO, mL_sO, mF_sO, mB_sO, mA_sO, mJ_sO, mP_sO, mO_sO, up2, if_true, if_false, eq_self, ite_true, ite_false, reduceIte, Nat.add_left_cancel_iff, Nat.add_eq_left, Nat.left_eq_add, Nat.reduceEqDiff]; assumption) | (simp only [mN_sF, mK_sF, mL_sF, mF_sF, mB_sF, mA_sF, mJ_sF, mP_sF, mO_sF, mN_sB, mK_sB, mL_sB, mF_sB, mB_sB, mA_sB, mJ_sB, mP_sB, mO_sB, mN_sA, mK_sA, mL_sA, mF_sA, mB_sA, mA_sA, mJ_sA, mP_sA, mO_sA, mN_sJ, mK_sJ, mL_sJ, mF_sJ, mB_sJ, mA_sJ, mJ_sJ, mP_sJ, mO_sJ, mN_sP, mK_sP, mL_sP, mF_sP, mB_sP, mA_sP, mJ_sP, mP_sP, mO_sP, mN_sO, mK_sO, mL_sO, mF_sO, mB_sO, mA_sO, mJ_sO, mP_sO, mO_sO, up2, if_true, if_false, eq_self, ite_true, ite_false, reduceIte, Nat.add_left_cancel_iff, Nat.add_eq_left, Nat.left_eq_add, Nat.reduceEqDiff]; done)) ?_ | refine e_iald 9 rfl dX10_compare_8 (by assumption) (by assumption) (by first | rfl | simp only [pk_mul, nI_add]) (by omega) (by omega) ?_
      first | refine e_cmp_geN 77 12 (by decide) rfl dX10_compare_9 rfl rfl (by omega) (by omega) (fun y1 => ?_) (fun y1 => ?_) | refine e_cmp_ge 77 12 (by decide) rfl dX10_compare_9 (fun y1 => ?_) (fun y1 => ?_)
      · exact fin i (Or.inl (by omega)) (by omega) (by omega) he
      refine e_il3 13 rfl dX10_compare_12 ?_
      refine e_al0 14 rfl dX10_compare_13 ?_
      refine e_getR 17 rfl dX10_compare_14 f_X10_75 (by assumption) (by assumption) ?_
      refine e_il2 18 rfl dX10_compare_17 ?_
      first | refine e_ialdv 19 rfl dX10_compare_18 (by assumption) (by assumption) (by first | rfl | simp only [pk_mul, nI_add]) (by omega) (by omega) (by first | assumption | (simp only [mN_sF, mK_sF, mL_sF, mF_sF, mB_sF, mA_sF, mJ_sF, mP_sF, mO_sF, mN_sB, mK_sB, mL_sB, mF_sB, mB_sB, mA_sB, mJ_sB, mP_sB, mO_sB, mN_sA, mK_sA, mL_sA, mF_sA, mB_sA, mA_sA, mJ_sA, mP_sA, mO_sA, mN_sJ, mK_sJ, mL_sJ, mF_sJ, mB_sJ, mA_sJ, mJ_sJ, mP_sJ, mO_sJ, mN_sP, mK_sP, mL_sP, mF_sP, mB_sP, mA_sP, mJ_sP, mP_sP, mO_sP, mN_sO, mK_sO, mL_sO, mF_sO, mB_sO, mA_sO, mJ_sO, mP_sO, mO_sO, up2, if_true, if_false, eq_self, ite_true, ite_false, reduceIte, Nat.add_left_cancel_iff, Nat.add_eq_left, Nat.left_eq_add, Nat.reduceEqDiff]; assumption) | (simp only [mN_sF, mK_sF, mL_sF, mF_sF, mB_sF, mA_sF, mJ_sF, mP_sF, mO_sF, mN_sB, mK_sB, mL_sB, mF_sB, mB_sB, mA_sB, mJ_sB, mP_sB, mO_sB, mN_sA, mK_sA, mL_sA, mF_sA, mB_sA, mA_sA, mJ_sA, mP_sA, mO_sA, mN_sJ, mK_sJ, mL_sJ, mF_sJ, mB_sJ, mA_sJ, mJ_sJ, mP_sJ, mO_sJ, mN_sP, mK_sP, mL_sP, mF_sP, mB_sP, mA_sP, mJ_sP, mP_sP, mO_sP, mN_sO, mK_sO, mL_sO, mF_sO, mB_sO, mA_sO, mJ_sO, mP_sO, mO_sO, up2, if_true, if_false, eq_self, ite_true, ite_false, reduceIte, Nat.add_left_cancel_iff, Nat.add_eq_left, Nat.left_eq_add, Nat.reduceEqDiff]; done)) ?_ | refine e_iald 19 rfl dX10_compare_18 (by assumption) (by assumption) (by first | rfl | simp only [pk_mul, nI_add]) (by omega) (by omega) ?_
      first | refine e_cmp_geN 77 22 (by decide) rfl dX10_compare_19 rfl rfl (by omega) (by omega) (fun y2 => ?_) (fun y2 => ?_) | refine e_cmp_ge 77 22 (by decide) rfl dX10_compare_19 (fun y2 => ?_) (fun y2 => ?_)
      · exact fin i (Or.inr (by omega)) (by omega) (by omega) he
      · omega
    | succ fu ih =>
      intro i hi he
      have h1 : i < (foldL va).length := by omega
      have h2 : i < (foldL vb).length := by omega
      have v1 : mA μ (m + 20) (21 * a + i) = nI (foldL va)[i] := hwa.2.2.at h1
      have v2 : mA μ (m + 20) (21 * b + i) = nI (foldL vb)[i] := hwb.2.2.at h2
      have c1 := ra _ (List.getElem_mem h1)
      have c2 := rb _ (List.getElem_mem h2)
      rw [cmpL_drop h1 h2] at he
      refine e_il3 3 rfl dX10_compare_2 ?_
      refine e_al0 4 rfl dX10_compare_3 ?_
      refine e_getR 7 rfl dX10_compare_4 f_X10_75 (by assumption) (by assumption) ?_
      refine e_il1 8 rfl dX10_compare_7 ?_
      first | refine e_ialdv 9 rfl dX10_compare_8 (by assumption) (by assumption) (by first | rfl | simp only [pk_mul, nI_add]) (by omega) (by omega) (by first | assumption | (simp only [mN_sF, mK_sF, mL_sF, mF_sF, mB_sF, mA_sF, mJ_sF, mP_sF, mO_sF, mN_sB, mK_sB, mL_sB, mF_sB, mB_sB, mA_sB, mJ_sB, mP_sB, mO_sB, mN_sA, mK_sA, mL_sA, mF_sA, mB_sA, mA_sA, mJ_sA, mP_sA, mO_sA, mN_sJ, mK_sJ, mL_sJ, mF_sJ, mB_sJ, mA_sJ, mJ_sJ, mP_sJ, mO_sJ, mN_sP, mK_sP, mL_sP, mF_sP, mB_sP, mA_sP, mJ_sP, mP_sP, mO_sP, mN_sO, mK_sO, mL_sO, mF_sO, mB_sO, mA_sO, mJ_sO, mP_sO, mO_sO, up2, if_true, if_false, eq_self, ite_true, ite_false, reduceIte, Nat.add_left_cancel_iff, Nat.add_eq_left, Nat.left_eq_add, Nat.reduceEqDiff]; assumption) | (simp only [mN_sF, mK_sF, mL_sF, mF_sF, mB_sF, mA_sF, mJ_sF, mP_sF, mO_sF, mN_sB, mK_sB, mL_sB, mF_sB, mB_sB, mA_sB, mJ_sB, mP_sB, mO_sB, mN_sA, mK_sA, mL_sA, mF_sA, mB_sA, mA_sA, mJ_sA, mP_sA, mO_sA, mN_sJ, mK_sJ, mL_sJ, mF_sJ, mB_sJ, mA_sJ, mJ_sJ, mP_sJ, mO_sJ, mN_sP, mK_sP, mL_sP, mF_sP, mB_sP, mA_sP, mJ_sP, mP_sP, mO_sP, mN_sO, mK_sO, mL_sO, mF_sO, mB_sO, mA_sO, mJ_sO, mP_sO, mO_sO, up2, if_true, if_false, eq_self, ite_true, ite_false, reduceIte, Nat.add_left_cancel_iff, Nat.add_eq_left, Nat.left_eq_add, Nat.reduceEqDiff]; done)) ?_ | refine e_iald 9 rfl dX10_compare_8 (by assumption) (by assumption) (by first | rfl | simp only [pk_mul, nI_add]) (by omega) (by omega) ?_
      first | refine e_cmp_geN 77 12 (by decide) rfl dX10_compare_9 rfl rfl (by omega) (by omega) (fun y1 => ?_) (fun y1 => ?_) | refine e_cmp_ge 77 12 (by decide) rfl dX10_compare_9 (fun y1 => ?_) (fun y1 => ?_)
      · omega
      refine e_il3 13 rfl dX10_compare_12 ?_
      refine e_al0 14 rfl dX10_compare_13 ?_
      refine e_getR 17 rfl dX10_compare_14 f_X10_75 (by assumption) (by assumption) ?_
      refine e_il2 18 rfl dX10_compare_17 ?_
      first | refine e_ialdv 19 rfl dX10_compare_18 (by assumption) (by assumption) (by first | rfl | simp only [pk_mul, nI_add]) (by omega) (by omega) (by first | assumption | (simp only [mN_sF, mK_sF, mL_sF, mF_sF, mB_sF, mA_sF, mJ_sF, mP_sF, mO_sF, mN_sB, mK_sB, mL_sB, mF_sB, mB_sB, mA_sB, mJ_sB, mP_sB, mO_sB, mN_sA, mK_sA, mL_sA, mF_sA, mB_sA, mA_sA, mJ_sA, mP_sA, mO_sA, mN_sJ, mK_sJ, mL_sJ, mF_sJ, mB_sJ, mA_sJ, mJ_sJ, mP_sJ, mO_sJ, mN_sP, mK_sP, mL_sP, mF_sP, mB_sP, mA_sP, mJ_sP, mP_sP, mO_sP, mN_sO, mK_sO, mL_sO, mF_sO, mB_sO, mA_sO, mJ_sO, mP_sO, mO_sO, up2, if_true, if_false, eq_self, ite_true, ite_false, reduceIte, Nat.add_left_cancel_iff, Nat.add_eq_left, Nat.left_eq_add, Nat.reduceEqDiff]; assumption) | (simp only [mN_sF, mK_sF, mL_sF, mF_sF, mB_sF, mA_sF, mJ_sF, mP_sF, mO_sF, mN_sB, mK_sB, mL_sB, mF_sB, mB_sB, mA_sB, mJ_sB, mP_sB, mO_sB, mN_sA, mK_sA, mL_sA, mF_sA, mB_sA, mA_sA, mJ_sA, mP_sA, mO_sA, mN_sJ, mK_sJ, mL_sJ, mF_sJ, mB_sJ, mA_sJ, mJ_sJ, mP_sJ, mO_sJ, mN_sP, mK_sP, mL_sP, mF_sP, mB_sP, mA_sP, mJ_sP, mP_sP, mO_sP, mN_sO, mK_sO, mL_sO, mF_sO, mB_sO, mA_sO, mJ_sO, mP_sO, mO_sO, up2, if_true, if_false, eq_self, ite_true, ite_false, reduceIte, Nat.add_left_cancel_iff, Nat.add_eq_left, Nat.left_eq_add, Nat.reduceEqDiff]; done)) ?_ | refine e_iald 19 rfl dX10_compare_18 (by assumption) (by assumption) (by first | rfl | simp only [pk_mul, nI_add]) (by omega) (by omega) ?_
      first | refine e_cmp_geN 77 22 (by decide) rfl dX10_compare_19 rfl rfl (by omega) (by omega) (fun y2 => ?_) (fun y2 => ?_) | refine e_cmp_ge 77 22 (by decide) rfl dX10_compare_19 (fun y2 => ?_) (fun y2 => ?_)
      · omega
      refine e_al0 23 rfl dX10_compare_22 ?_
      refine e_getR 26 rfl dX10_compare_23 f_X10_72 (by assumption) (by assumption) ?_
      refine e_bipush (nI 21) 28 rfl dX10_compare_26 bc_21 ?_
      refine e_il1 29 rfl dX10_compare_28 ?_
      first | refine e_imulN 30 rfl dX10_compare_29 rfl rfl ?_ | refine e_imul 30 rfl dX10_compare_29 ?_
      refine e_il3 31 rfl dX10_compare_30 ?_
      first | refine e_iaddN 32 rfl dX10_compare_31 rfl rfl ?_ | refine e_iadd 32 rfl dX10_compare_31 ?_
      first | refine e_ialdv 33 rfl dX10_compare_32 (by assumption) (by assumption) (by first | rfl | simp only [pk_mul, nI_add]) (by omega) (by omega) (by first | assumption | (simp only [mN_sF, mK_sF, mL_sF, mF_sF, mB_sF, mA_sF, mJ_sF, mP_sF, mO_sF, mN_sB, mK_sB, mL_sB, mF_sB, mB_sB, mA_sB, mJ_sB, mP_sB, mO_sB, mN_sA, mK_sA, mL_sA, mF_sA, mB_sA, mA_sA, mJ_sA, mP_sA, mO_sA, mN_sJ, mK_sJ, mL_sJ, mF_sJ, mB_sJ, mA_sJ, mJ_sJ, mP_sJ, mO_sJ, mN_sP, mK_sP, mL_sP, mF_sP, mB_sP, mA_sP, mJ_sP, mP_sP, mO_sP, mN_sO, mK_sO, mL_sO, mF_sO, mB_sO, mA_sO, mJ_sO, mP_sO, mO_sO, up2, if_true, if_false, eq_self, ite_true, ite_false, reduceIte, Nat.add_left_cancel_iff, Nat.add_eq_left, Nat.left_eq_add, Nat.reduceEqDiff]; assumption) | (simp only [mN_sF, mK_sF, mL_sF, mF_sF, mB_sF, mA_sF, mJ_sF, mP_sF, mO_sF, mN_sB, mK_sB, mL_sB, mF_sB, mB_sB, mA_sB, mJ_sB, mP_sB, mO_sB, mN_sA, mK_sA, mL_sA, mF_sA, mB_sA, mA_sA, mJ_sA, mP_sA, mO_sA, mN_sJ, mK_sJ, mL_sJ, mF_sJ, mB_sJ, mA_sJ, mJ_sJ, mP_sJ, mO_sJ, mN_sP, mK_sP, mL_sP, mF_sP, mB_sP, mA_sP, mJ_sP, mP_sP, mO_sP, mN_sO, mK_sO, mL_sO, mF_sO, mB_sO, mA_sO, mJ_sO, mP_sO, mO_sO, up2, if_true, if_false, eq_self, ite_true, ite_false, reduceIte, Nat.add_left_cancel_iff, Nat.add_eq_left, Nat.left_eq_add, Nat.reduceEqDiff]; done)) ?_ | refine e_iald 33 rfl dX10_compare_32 (by assumption) (by assumption) (by first | rfl | simp only [pk_mul, nI_add]) (by omega) (by omega) ?_
      refine e_al0 34 rfl dX10_compare_33 ?_
      refine e_getR 37 rfl dX10_compare_34 f_X10_72 (by assumption) (by assumption) ?_
      refine e_bipush (nI 21) 39 rfl dX10_compare_37 bc_21 ?_
      refine e_il2 40 rfl dX10_compare_39 ?_
      first | refine e_imulN 41 rfl dX10_compare_40 rfl rfl ?_ | refine e_imul 41 rfl dX10_compare_40 ?_
      refine e_il3 42 rfl dX10_compare_41 ?_
      first | refine e_iaddN 43 rfl dX10_compare_42 rfl rfl ?_ | refine e_iadd 43 rfl dX10_compare_42 ?_
      first | refine e_ialdv 44 rfl dX10_compare_43 (by assumption) (by assumption) (by first | rfl | simp only [pk_mul, nI_add]) (by omega) (by omega) (by first | assumption | (simp only [mN_sF, mK_sF, mL_sF, mF_sF, mB_sF, mA_sF, mJ_sF, mP_sF, mO_sF, mN_sB, mK_sB, mL_sB, mF_sB, mB_sB, mA_sB, mJ_sB, mP_sB, mO_sB, mN_sA, mK_sA, mL_sA, mF_sA, mB_sA, mA_sA, mJ_sA, mP_sA, mO_sA, mN_sJ, mK_sJ, mL_sJ, mF_sJ, mB_sJ, mA_sJ, mJ_sJ, mP_sJ, mO_sJ, mN_sP, mK_sP, mL_sP, mF_sP, mB_sP, mA_sP, mJ_sP, mP_sP, mO_sP, mN_sO, mK_sO, mL_sO, mF_sO, mB_sO, mA_sO, mJ_sO, mP_sO, mO_sO, up2, if_true, if_false, eq_self, ite_true, ite_false, reduceIte, Nat.add_left_cancel_iff, Nat.add_eq_left, Nat.left_eq_add, Nat.reduceEqDiff]; assumption) | (simp only [mN_sF, mK_sF, mL_sF, mF_sF, mB_sF, mA_sF, mJ_sF, mP_sF, mO_sF, mN_sB, mK_sB, mL_sB, mF_sB, mB_sB, mA_sB, mJ_sB, mP_sB, mO_sB, mN_sA, mK_sA, mL_sA, mF_sA, mB_sA, mA_sA, mJ_sA, mP_sA, mO_sA, mN_sJ, mK_sJ, mL_sJ, mF_sJ, mB_sJ, mA_sJ, mJ_sJ, mP_sJ, mO_sJ, mN_sP, mK_sP, mL_sP, mF_sP, mB_sP, mA_sP, mJ_sP, mP_sP, mO_sP, mN_sO, mK_sO, mL_sO, mF_sO, mB_sO, mA_sO, mJ_sO, mP_sO, mO_sO, up2, if_true, if_false, eq_self, ite_true, ite_false, reduceIte, Nat.add_left_cancel_iff, Nat.add_eq_left, Nat.left_eq_add, Nat.reduceEqDiff]; done)) ?_ | refine e_iald 44 rfl dX10_compare_43 (by assumption) (by assumption) (by first | rfl | simp only [pk_mul, nI_add]) (by omega) (by omega) ?_
      first | refine e_cmp_eqN 71 47 (by decide) rfl dX10_compare_44 rfl rfl (by omega) (by omega) (fun y3 => ?_) (fun y3 => ?_) | refine e_cmp_eq 71 47 (by decide) rfl dX10_compare_44 (fun y3 => ?_) (fun y3 => ?_)
      · rw [if_pos y3] at he
        refine e_ii3 (nI (_ + 1)) 74 rfl dX10_compare_71 (ii1 _) rfl ?_
        refine e_goto 2 (by decide) dX10_compare_74 ?_
        exact ih (i + 1) (by omega) he
      · rw [if_neg y3] at he
        refine e_al0 48 rfl dX10_compare_47 ?_
        refine e_getR 51 rfl dX10_compare_48 f_X10_72 (by assumption) (by assumption) ?_
        refine e_bipush (nI 21) 53 rfl dX10_compare_51 bc_21 ?_
        refine e_il1 54 rfl dX10_compare_53 ?_
        first | refine e_imulN 55 rfl dX10_compare_54 rfl rfl ?_ | refine e_imul 55 rfl dX10_compare_54 ?_
        refine e_il3 56 rfl dX10_compare_55 ?_
        first | refine e_iaddN 57 rfl dX10_compare_56 rfl rfl ?_ | refine e_iadd 57 rfl dX10_compare_56 ?_
        first | refine e_ialdv 58 rfl dX10_compare_57 (by assumption) (by assumption) (by first | rfl | simp only [pk_mul, nI_add]) (by omega) (by omega) (by first | assumption | (simp only [mN_sF, mK_sF, mL_sF, mF_sF, mB_sF, mA_sF, mJ_sF, mP_sF, mO_sF, mN_sB, mK_sB, mL_sB, mF_sB, mB_sB, mA_sB, mJ_sB, mP_sB, mO_sB, mN_sA, mK_sA, mL_sA, mF_sA, mB_sA, mA_sA, mJ_sA, mP_sA, mO_sA, mN_sJ, mK_sJ, mL_sJ, mF_sJ, mB_sJ, mA_sJ, mJ_sJ, mP_sJ, mO_sJ, mN_sP, mK_sP, mL_sP, mF_sP, mB_sP, mA_sP, mJ_sP, mP_sP, mO_sP, mN_sO, mK_sO, mL_sO, mF_sO, mB_sO, mA_sO, mJ_sO, mP_sO, mO_sO, up2, if_true, if_false, eq_self, ite_true, ite_false, reduceIte, Nat.add_left_cancel_iff, Nat.add_eq_left, Nat.left_eq_add, Nat.reduceEqDiff]; assumption) | (simp only [mN_sF, mK_sF, mL_sF, mF_sF, mB_sF, mA_sF, mJ_sF, mP_sF, mO_sF, mN_sB, mK_sB, mL_sB, mF_sB, mB_sB, mA_sB, mJ_sB, mP_sB, mO_sB, mN_sA, mK_sA, mL_sA, mF_sA, mB_sA, mA_sA, mJ_sA, mP_sA, mO_sA, mN_sJ, mK_sJ, mL_sJ, mF_sJ, mB_sJ, mA_sJ, mJ_sJ, mP_sJ, mO_sJ, mN_sP, mK_sP, mL_sP, mF_sP, mB_sP, mA_sP, mJ_sP, mP_sP, mO_sP, mN_sO, mK_sO, mL_sO, mF_sO, mB_sO, mA_sO, mJ_sO, mP_sO, mO_sO, up2, if_true, if_false, eq_self, ite_true, ite_false, reduceIte, Nat.add_left_cancel_iff, Nat.add_eq_left, Nat.left_eq_add, Nat.reduceEqDiff]; done)) ?_ | refine e_iald 58 rfl dX10_compare_57 (by assumption) (by assumption) (by first | rfl | simp only [pk_mul, nI_add]) (by omega) (by omega) ?_
        refine e_al0 59 rfl dX10_compare_58 ?_
        refine e_getR 62 rfl dX10_compare_59 f_X10_72 (by assumption) (by assumption) ?_
        refine e_bipush (nI 21) 64 rfl dX10_compare_62 bc_21 ?_
        refine e_il2 65 rfl dX10_compare_64 ?_
        first | refine e_imulN 66 rfl dX10_compare_65 rfl rfl ?_ | refine e_imul 66 rfl dX10_compare_65 ?_
        refine e_il3 67 rfl dX10_compare_66 ?_
        first | refine e_iaddN 68 rfl dX10_compare_67 rfl rfl ?_ | refine e_iadd 68 rfl dX10_compare_67 ?_
        first | refine e_ialdv 69 rfl dX10_compare_68 (by assumption) (by assumption) (by first | rfl | simp only [pk_mul, nI_add]) (by omega) (by omega) (by first | assumption | (simp only [mN_sF, mK_sF, mL_sF, mF_sF, mB_sF, mA_sF, mJ_sF, mP_sF, mO_sF, mN_sB, mK_sB, mL_sB, mF_sB, mB_sB, mA_sB, mJ_sB, mP_sB, mO_sB, mN_sA, mK_sA, mL_sA, mF_sA, mB_sA, mA_sA, mJ_sA, mP_sA, mO_sA, mN_sJ, mK_sJ, mL_sJ, mF_sJ, mB_sJ, mA_sJ, mJ_sJ, mP_sJ, mO_sJ, mN_sP, mK_sP, mL_sP, mF_sP, mB_sP, mA_sP, mJ_sP, mP_sP, mO_sP, mN_sO, mK_sO, mL_sO, mF_sO, mB_sO, mA_sO, mJ_sO, mP_sO, mO_sO, up2, if_true, if_false, eq_self, ite_true, ite_false, reduceIte, Nat.add_left_cancel_iff, Nat.add_eq_left, Nat.left_eq_add, Nat.reduceEqDiff]; assumption) | (simp only [mN_sF, mK_sF, mL_sF, mF_sF, mB_sF, mA_sF, mJ_sF, mP_sF, mO_sF, mN_sB, mK_sB, mL_sB, mF_sB, mB_sB, mA_sB, mJ_sB, mP_sB, mO_sB, mN_sA, mK_sA, mL_sA, mF_sA, mB_sA, mA_sA, mJ_sA, mP_sA, mO_sA, mN_sJ, mK_sJ, mL_sJ, mF_sJ, mB_sJ, mA_sJ, mJ_sJ, mP_sJ, mO_sJ, mN_sP, mK_sP, mL_sP, mF_sP, mB_sP, mA_sP, mJ_sP, mP_sP, mO_sP, mN_sO, mK_sO, mL_sO, mF_sO, mB_sO, mA_sO, mJ_sO, mP_sO, mO_sO, up2, if_true, if_false, eq_self, ite_true, ite_false, reduceIte, Nat.add_left_cancel_iff, Nat.add_eq_left, Nat.left_eq_add, Nat.reduceEqDiff]; done)) ?_ | refine e_iald 69 rfl dX10_compare_68 (by assumption) (by assumption) (by first | rfl | simp only [pk_mul, nI_add]) (by omega) (by omega) ?_
        refine e_isub 70 rfl dX10_compare_69 ?_
        rw [nI_subI]
        refine e_iret dX10_compare_70 rfl ?_
        rw [he] at k
        exact k
  refine Cl.of0 1 pn_X10 (Nat.le_of_ble_eq_true rfl) ⟨rfl, rfl⟩ rfl ?_
  refine e_iconst (nI 0) 1 rfl dX10_compare_0 ic_0 ?_
  refine e_is3 2 rfl dX10_compare_1 (by decide) rfl ?_
  exact loop (min (foldL va).length (foldL vb).length) 0 (by omega) rfl
theorem c_mEntry {m r at0 len ld kd : Nat} {es : List Ent} {w : List Nat} (hg : Mg μ m) (hb : mBk μ m es) (hes : es.length ≤ 80 ∧ ∀ e ∈ es, wfE e) (hkr : mK μ r = 13) (hlr : mL μ r = len) (hlen : len < 2 ^ 30) (hat : at0 + w.length ≤ len) (hH : Hd (fun j => mA μ r (at0 + j)) w) (hw : ∀ c ∈ w, c < 256) (hw20 : w.length ≤ 20) (hld : ld < 6) (hkd : kd < 5)
    (kn : (ld, kd, w) ∉ es → K (some (.int (-1))) μ) (ks : ∀ i, es[i]? = some (ld, kd, w) → (∀ j, j < i → es[j]? ≠ some (ld, kd, w)) → K (some (.int (nI i))) μ) : Cl E M_X10_entry [.ref m, .int (nI ld), .int (nI kd), .ref r, .int (nI at0), .int (nI w.length)] μ K := by
  have mk := hg.1
  obtain ⟨p1, k1, l1⟩ := hg.eLand
  obtain ⟨p2, k2, l2⟩ := hg.eKind
  obtain ⟨p3, k3, l3⟩ := hg.eSize
  obtain ⟨p4, k4, l4⟩ := hg.eWord
  have hn := hb.1
  have h80 := hes.1
  have outer : ∀ (fu i : Nat), i + fu = es.length → (∀ j, j < i → es[j]? ≠ some (ld, kd, w)) → ∀ q7 q8, Ev E M_X10_entry 0 0 3 [some (.ref m), some (.int (nI ld)), some (.int (nI kd)), some (.ref r), some (.int (nI at0)), some (.int (nI w.length)), some (.int (nI i)), q7, q8] [] μ K := by
    intro fu
    induction fu with
    | zero =>
      intro i hi hno q7 q8
      refine e_il6 5 rfl dX10_entry_3 ?_
      refine e_al0 6 rfl dX10_entry_5 ?_
      first | refine e_getIv 9 rfl dX10_entry_6 f_X10_176 (by assumption) (by first | assumption | (simp only [mN_sF, mK_sF, mL_sF, mF_sF, mB_sF, mA_sF, mJ_sF, mP_sF, mO_sF, mN_sB, mK_sB, mL_sB, mF_sB, mB_sB, mA_sB, mJ_sB, mP_sB, mO_sB, mN_sA, mK_sA, mL_sA, mF_sA, mB_sA, mA_sA, mJ_sA, mP_sA, mO_sA, mN_sJ, mK_sJ, mL_sJ, mF_sJ, mB_sJ, mA_sJ, mJ_sJ, mP_sJ, mO_sJ, mN_sP, mK_sP, mL_sP, mF_sP, mB_sP, mA_sP, mJ_sP, mP_sP, mO_sP, mN_sO, mK_sO, mL_sO, mF_sO, mB_sO, mA_sO, mJ_sO, mP_sO, mO_sO, up2, if_true, if_false, eq_self, ite_true, ite_false, reduceIte, Nat.add_left_cancel_iff, Nat.add_eq_left, Nat.left_eq_add, Nat.reduceEqDiff]; assumption) | (simp only [mN_sF, mK_sF, mL_sF, mF_sF, mB_sF, mA_sF, mJ_sF, mP_sF, mO_sF, mN_sB, mK_sB, mL_sB, mF_sB, mB_sB, mA_sB, mJ_sB, mP_sB, mO_sB, mN_sA, mK_sA, mL_sA, mF_sA, mB_sA, mA_sA, mJ_sA, mP_sA, mO_sA, mN_sJ, mK_sJ, mL_sJ, mF_sJ, mB_sJ, mA_sJ, mJ_sJ, mP_sJ, mO_sJ, mN_sP, mK_sP, mL_sP, mF_sP, mB_sP, mA_sP, mJ_sP, mP_sP, mO_sP, mN_sO, mK_sO, mL_sO, mF_sO, mB_sO, mA_sO, mJ_sO, mP_sO, mO_sO, up2, if_true, if_false, eq_self, ite_true, ite_false, reduceIte, Nat.add_left_cancel_iff, Nat.add_eq_left, Nat.left_eq_add, Nat.reduceEqDiff]; done)) ?_ | refine e_getI 9 rfl dX10_entry_6 f_X10_176 (by assumption) ?_
      first | refine e_cmp_geN 118 12 (by decide) rfl dX10_entry_9 rfl rfl (by omega) (by omega) (fun y1 => ?_) (fun y1 => ?_) | refine e_cmp_ge 118 12 (by decide) rfl dX10_entry_9 (fun y1 => ?_) (fun y1 => ?_)
      rotate_left
      · omega
      refine e_iconst (-1) 119 rfl dX10_entry_118 ic_m1 ?_
      refine e_iret dX10_entry_119 rfl ?_
      refine kn (fun hm => ?_)
      obtain ⟨j, hj⟩ := List.getElem?_of_mem hm
      exact hno j (by have := (List.getElem?_eq_some_iff.mp hj).1; omega) hj
    | succ fu ih =>
      intro i hi hno q7 q8
      have hil : i < es.length := by omega
      obtain ⟨e, he⟩ : ∃ e, es[i]? = some e := ⟨_, List.getElem?_eq_getElem hil⟩
      obtain ⟨e1, e2, e3, e4⟩ := hb.2 i e he
      have hwf := hes.2 e (List.mem_of_getElem? he)
      obtain ⟨f1, f2, f3, f4, f5⟩ := hwf
      have nxt : e ≠ (ld, kd, w) → ∀ q8', Ev E M_X10_entry 0 0 104 [some (.ref m), some (.int (nI ld)), some (.int (nI kd)), some (.ref r), some (.int (nI at0)), some (.int (nI w.length)), some (.int (nI i)), some (.int (nI 0)), q8'] [] μ K := by
        intro hne q8'
        refine e_il7 106 rfl dX10_entry_104 ?_
        first | refine e_if_eqB 112 109 (by decide) rfl dX10_entry_106 rfl (fun y8 => ?_) (fun y8 => ?_) | refine e_if_eqN 112 109 (by decide) rfl dX10_entry_106 rfl (by omega) (fun y8 => ?_) (fun y8 => ?_) | refine e_if_eq 112 109 (by decide) rfl dX10_entry_106 (fun y8 => ?_) (fun y8 => ?_)
        rotate_left
        · exact absurd y8 (by decide)
        refine e_ii6 (nI (_ + 1)) 115 rfl dX10_entry_112 (ii1 _) rfl ?_
        refine e_goto 3 (by decide) dX10_entry_115 ?_
        refine ih (i + 1) (by omega) (fun j hj => ?_) _ _
        by_cases c : j = i
        · rw [c, he]; exact fun q => hne (Option.some.inj q)
        · exact hno j (by omega)
      have bad : e ≠ (ld, kd, w) → Ev E M_X10_entry 0 0 50 [some (.ref m), some (.int (nI ld)), some (.int (nI kd)), some (.ref r), some (.int (nI at0)), some (.int (nI w.length)), some (.int (nI i)), q7, q8] [] μ K := by
        intro hne
        refine e_iconst (nI 0) 51 rfl dX10_entry_50 ic_0 ?_
        refine e_is7 53 rfl dX10_entry_51 (by decide) rfl ?_
        refine e_iconst (nI 0) 54 rfl dX10_entry_53 ic_0 ?_
        refine e_is8 56 rfl dX10_entry_54 (by decide) rfl ?_
        by_cases c0 : w.length = 0
        · rw [c0] at nxt ⊢
          refine e_il8 58 rfl dX10_entry_56 ?_
          refine e_il5 60 rfl dX10_entry_58 ?_
          first | refine e_cmp_geN 104 63 (by decide) rfl dX10_entry_60 rfl rfl (by omega) (by omega) (fun y6 => ?_) (fun y6 => ?_) | refine e_cmp_ge 104 63 (by decide) rfl dX10_entry_60 (fun y6 => ?_) (fun y6 => ?_)
          rotate_left
          · omega
          exact nxt hne _
        · refine e_il8 58 rfl dX10_entry_56 ?_
          refine e_il5 60 rfl dX10_entry_58 ?_
          first | refine e_cmp_geN 104 63 (by decide) rfl dX10_entry_60 rfl rfl (by omega) (by omega) (fun y6 => ?_) (fun y6 => ?_) | refine e_cmp_ge 104 63 (by decide) rfl dX10_entry_60 (fun y6 => ?_) (fun y6 => ?_)
          · omega
          refine e_il7 65 rfl dX10_entry_63 ?_
          first | refine e_if_eqB 104 68 (by decide) rfl dX10_entry_65 rfl (fun y7 => ?_) (fun y7 => ?_) | refine e_if_eqN 104 68 (by decide) rfl dX10_entry_65 rfl (by omega) (fun y7 => ?_) (fun y7 => ?_) | refine e_if_eq 104 68 (by decide) rfl dX10_entry_65 (fun y7 => ?_) (fun y7 => ?_)
          rotate_left
          · exact absurd y7 (by decide)
          exact nxt hne _
      refine e_il6 5 rfl dX10_entry_3 ?_
      refine e_al0 6 rfl dX10_entry_5 ?_
      first | refine e_getIv 9 rfl dX10_entry_6 f_X10_176 (by assumption) (by first | assumption | (simp only [mN_sF, mK_sF, mL_sF, mF_sF, mB_sF, mA_sF, mJ_sF, mP_sF, mO_sF, mN_sB, mK_sB, mL_sB, mF_sB, mB_sB, mA_sB, mJ_sB, mP_sB, mO_sB, mN_sA, mK_sA, mL_sA, mF_sA, mB_sA, mA_sA, mJ_sA, mP_sA, mO_sA, mN_sJ, mK_sJ, mL_sJ, mF_sJ, mB_sJ, mA_sJ, mJ_sJ, mP_sJ, mO_sJ, mN_sP, mK_sP, mL_sP, mF_sP, mB_sP, mA_sP, mJ_sP, mP_sP, mO_sP, mN_sO, mK_sO, mL_sO, mF_sO, mB_sO, mA_sO, mJ_sO, mP_sO, mO_sO, up2, if_true, if_false, eq_self, ite_true, ite_false, reduceIte, Nat.add_left_cancel_iff, Nat.add_eq_left, Nat.left_eq_add, Nat.reduceEqDiff]; assumption) | (simp only [mN_sF, mK_sF, mL_sF, mF_sF, mB_sF, mA_sF, mJ_sF, mP_sF, mO_sF, mN_sB, mK_sB, mL_sB, mF_sB, mB_sB, mA_sB, mJ_sB, mP_sB, mO_sB, mN_sA, mK_sA, mL_sA, mF_sA, mB_sA, mA_sA, mJ_sA, mP_sA, mO_sA, mN_sJ, mK_sJ, mL_sJ, mF_sJ, mB_sJ, mA_sJ, mJ_sJ, mP_sJ, mO_sJ, mN_sP, mK_sP, mL_sP, mF_sP, mB_sP, mA_sP, mJ_sP, mP_sP, mO_sP, mN_sO, mK_sO, mL_sO, mF_sO, mB_sO, mA_sO, mJ_sO, mP_sO, mO_sO, up2, if_true, if_false, eq_self, ite_true, ite_false, reduceIte, Nat.add_left_cancel_iff, Nat.add_eq_left, Nat.left_eq_add, Nat.reduceEqDiff]; done)) ?_ | refine e_getI 9 rfl dX10_entry_6 f_X10_176 (by assumption) ?_
      first | refine e_cmp_geN 118 12 (by decide) rfl dX10_entry_9 rfl rfl (by omega) (by omega) (fun y1 => ?_) (fun y1 => ?_) | refine e_cmp_ge 118 12 (by decide) rfl dX10_entry_9 (fun y1 => ?_) (fun y1 => ?_)
      · omega
      refine e_al0 13 rfl dX10_entry_12 ?_
      refine e_getR 16 rfl dX10_entry_13 f_X10_13 (by assumption) (by assumption) ?_
      refine e_il6 18 rfl dX10_entry_16 ?_
      first | refine e_ialdv 19 rfl dX10_entry_18 (by assumption) (by assumption) (by first | rfl | simp only [pk_mul, nI_add]) (by omega) (by omega) (by first | assumption | (simp only [mN_sF, mK_sF, mL_sF, mF_sF, mB_sF, mA_sF, mJ_sF, mP_sF, mO_sF, mN_sB, mK_sB, mL_sB, mF_sB, mB_sB, mA_sB, mJ_sB, mP_sB, mO_sB, mN_sA, mK_sA, mL_sA, mF_sA, mB_sA, mA_sA, mJ_sA, mP_sA, mO_sA, mN_sJ, mK_sJ, mL_sJ, mF_sJ, mB_sJ, mA_sJ, mJ_sJ, mP_sJ, mO_sJ, mN_sP, mK_sP, mL_sP, mF_sP, mB_sP, mA_sP, mJ_sP, mP_sP, mO_sP, mN_sO, mK_sO, mL_sO, mF_sO, mB_sO, mA_sO, mJ_sO, mP_sO, mO_sO, up2, if_true, if_false, eq_self, ite_true, ite_false, reduceIte, Nat.add_left_cancel_iff, Nat.add_eq_left, Nat.left_eq_add, Nat.reduceEqDiff]; assumption) | (simp only [mN_sF, mK_sF, mL_sF, mF_sF, mB_sF, mA_sF, mJ_sF, mP_sF, mO_sF, mN_sB, mK_sB, mL_sB, mF_sB, mB_sB, mA_sB, mJ_sB, mP_sB, mO_sB, mN_sA, mK_sA, mL_sA, mF_sA, mB_sA, mA_sA, mJ_sA, mP_sA, mO_sA, mN_sJ, mK_sJ, mL_sJ, mF_sJ, mB_sJ, mA_sJ, mJ_sJ, mP_sJ, mO_sJ, mN_sP, mK_sP, mL_sP, mF_sP, mB_sP, mA_sP, mJ_sP, mP_sP, mO_sP, mN_sO, mK_sO, mL_sO, mF_sO, mB_sO, mA_sO, mJ_sO, mP_sO, mO_sO, up2, if_true, if_false, eq_self, ite_true, ite_false, reduceIte, Nat.add_left_cancel_iff, Nat.add_eq_left, Nat.left_eq_add, Nat.reduceEqDiff]; done)) ?_ | refine e_iald 19 rfl dX10_entry_18 (by assumption) (by assumption) (by first | rfl | simp only [pk_mul, nI_add]) (by omega) (by omega) ?_
      refine e_il1 20 rfl dX10_entry_19 ?_
      first | refine e_cmp_neN 50 23 (by decide) rfl dX10_entry_20 rfl rfl (by omega) (by omega) (fun y2 => ?_) (fun y2 => ?_) | refine e_cmp_ne 50 23 (by decide) rfl dX10_entry_20 (fun y2 => ?_) (fun y2 => ?_)
      · exact bad (fun q => y2 (by rw [q]))
      refine e_al0 24 rfl dX10_entry_23 ?_
      refine e_getR 27 rfl dX10_entry_24 f_X10_16 (by assumption) (by assumption) ?_
      refine e_il6 29 rfl dX10_entry_27 ?_
      first | refine e_ialdv 30 rfl dX10_entry_29 (by assumption) (by assumption) (by first | rfl | simp only [pk_mul, nI_add]) (by omega) (by omega) (by first | assumption | (simp only [mN_sF, mK_sF, mL_sF, mF_sF, mB_sF, mA_sF, mJ_sF, mP_sF, mO_sF, mN_sB, mK_sB, mL_sB, mF_sB, mB_sB, mA_sB, mJ_sB, mP_sB, mO_sB, mN_sA, mK_sA, mL_sA, mF_sA, mB_sA, mA_sA, mJ_sA, mP_sA, mO_sA, mN_sJ, mK_sJ, mL_sJ, mF_sJ, mB_sJ, mA_sJ, mJ_sJ, mP_sJ, mO_sJ, mN_sP, mK_sP, mL_sP, mF_sP, mB_sP, mA_sP, mJ_sP, mP_sP, mO_sP, mN_sO, mK_sO, mL_sO, mF_sO, mB_sO, mA_sO, mJ_sO, mP_sO, mO_sO, up2, if_true, if_false, eq_self, ite_true, ite_false, reduceIte, Nat.add_left_cancel_iff, Nat.add_eq_left, Nat.left_eq_add, Nat.reduceEqDiff]; assumption) | (simp only [mN_sF, mK_sF, mL_sF, mF_sF, mB_sF, mA_sF, mJ_sF, mP_sF, mO_sF, mN_sB, mK_sB, mL_sB, mF_sB, mB_sB, mA_sB, mJ_sB, mP_sB, mO_sB, mN_sA, mK_sA, mL_sA, mF_sA, mB_sA, mA_sA, mJ_sA, mP_sA, mO_sA, mN_sJ, mK_sJ, mL_sJ, mF_sJ, mB_sJ, mA_sJ, mJ_sJ, mP_sJ, mO_sJ, mN_sP, mK_sP, mL_sP, mF_sP, mB_sP, mA_sP, mJ_sP, mP_sP, mO_sP, mN_sO, mK_sO, mL_sO, mF_sO, mB_sO, mA_sO, mJ_sO, mP_sO, mO_sO, up2, if_true, if_false, eq_self, ite_true, ite_false, reduceIte, Nat.add_left_cancel_iff, Nat.add_eq_left, Nat.left_eq_add, Nat.reduceEqDiff]; done)) ?_ | refine e_iald 30 rfl dX10_entry_29 (by assumption) (by assumption) (by first | rfl | simp only [pk_mul, nI_add]) (by omega) (by omega) ?_
      refine e_il2 31 rfl dX10_entry_30 ?_
      first | refine e_cmp_neN 50 34 (by decide) rfl dX10_entry_31 rfl rfl (by omega) (by omega) (fun y3 => ?_) (fun y3 => ?_) | refine e_cmp_ne 50 34 (by decide) rfl dX10_entry_31 (fun y3 => ?_) (fun y3 => ?_)
      · exact bad (fun q => y3 (by rw [q]))
      refine e_al0 35 rfl dX10_entry_34 ?_
      refine e_getR 38 rfl dX10_entry_35 f_X10_19 (by assumption) (by assumption) ?_
      refine e_il6 40 rfl dX10_entry_38 ?_
      first | refine e_ialdv 41 rfl dX10_entry_40 (by assumption) (by assumption) (by first | rfl | simp only [pk_mul, nI_add]) (by omega) (by omega) (by first | assumption | (simp only [mN_sF, mK_sF, mL_sF, mF_sF, mB_sF, mA_sF, mJ_sF, mP_sF, mO_sF, mN_sB, mK_sB, mL_sB, mF_sB, mB_sB, mA_sB, mJ_sB, mP_sB, mO_sB, mN_sA, mK_sA, mL_sA, mF_sA, mB_sA, mA_sA, mJ_sA, mP_sA, mO_sA, mN_sJ, mK_sJ, mL_sJ, mF_sJ, mB_sJ, mA_sJ, mJ_sJ, mP_sJ, mO_sJ, mN_sP, mK_sP, mL_sP, mF_sP, mB_sP, mA_sP, mJ_sP, mP_sP, mO_sP, mN_sO, mK_sO, mL_sO, mF_sO, mB_sO, mA_sO, mJ_sO, mP_sO, mO_sO, up2, if_true, if_false, eq_self, ite_true, ite_false, reduceIte, Nat.add_left_cancel_iff, Nat.add_eq_left, Nat.left_eq_add, Nat.reduceEqDiff]; assumption) | (simp only [mN_sF, mK_sF, mL_sF, mF_sF, mB_sF, mA_sF, mJ_sF, mP_sF, mO_sF, mN_sB, mK_sB, mL_sB, mF_sB, mB_sB, mA_sB, mJ_sB, mP_sB, mO_sB, mN_sA, mK_sA, mL_sA, mF_sA, mB_sA, mA_sA, mJ_sA, mP_sA, mO_sA, mN_sJ, mK_sJ, mL_sJ, mF_sJ, mB_sJ, mA_sJ, mJ_sJ, mP_sJ, mO_sJ, mN_sP, mK_sP, mL_sP, mF_sP, mB_sP, mA_sP, mJ_sP, mP_sP, mO_sP, mN_sO, mK_sO, mL_sO, mF_sO, mB_sO, mA_sO, mJ_sO, mP_sO, mO_sO, up2, if_true, if_false, eq_self, ite_true, ite_false, reduceIte, Nat.add_left_cancel_iff, Nat.add_eq_left, Nat.left_eq_add, Nat.reduceEqDiff]; done)) ?_ | refine e_iald 41 rfl dX10_entry_40 (by assumption) (by assumption) (by first | rfl | simp only [pk_mul, nI_add]) (by omega) (by omega) ?_
      refine e_il5 43 rfl dX10_entry_41 ?_
      first | refine e_cmp_neN 50 46 (by decide) rfl dX10_entry_43 rfl rfl (by omega) (by omega) (fun y4 => ?_) (fun y4 => ?_) | refine e_cmp_ne 50 46 (by decide) rfl dX10_entry_43 (fun y4 => ?_) (fun y4 => ?_)
      · exact bad (fun q => y4 (by rw [q]))
      refine e_iconst (nI 1) 47 rfl dX10_entry_46 ic_1 ?_
      refine e_goto 51 (by decide) dX10_entry_47 ?_
      refine e_is7 53 rfl dX10_entry_51 (by decide) rfl ?_
      refine e_iconst (nI 0) 54 rfl dX10_entry_53 ic_0 ?_
      refine e_is8 56 rfl dX10_entry_54 (by decide) rfl ?_
      have inner : ∀ (gu j : Nat), j + gu = w.length → e.2.2.take j = w.take j → Ev E M_X10_entry 0 0 56 [some (.ref m), some (.int (nI ld)), some (.int (nI kd)), some (.ref r), some (.int (nI at0)), some (.int (nI w.length)), some (.int (nI i)), some (.int (nI 1)), some (.int (nI j))] [] μ K := by
        intro gu
        induction gu with
        | zero =>
          intro j hj htk
          refine e_il8 58 rfl dX10_entry_56 ?_
          refine e_il5 60 rfl dX10_entry_58 ?_
          first | refine e_cmp_geN 104 63 (by decide) rfl dX10_entry_60 rfl rfl (by omega) (by omega) (fun y5 => ?_) (fun y5 => ?_) | refine e_cmp_ge 104 63 (by decide) rfl dX10_entry_60 (fun y5 => ?_) (fun y5 => ?_)
          rotate_left
          · omega
          refine e_il7 106 rfl dX10_entry_104 ?_
          first | refine e_if_eqB 112 109 (by decide) rfl dX10_entry_106 rfl (fun y6 => ?_) (fun y6 => ?_) | refine e_if_eqN 112 109 (by decide) rfl dX10_entry_106 rfl (by omega) (fun y6 => ?_) (fun y6 => ?_) | refine e_if_eq 112 109 (by decide) rfl dX10_entry_106 (fun y6 => ?_) (fun y6 => ?_)
          · exact absurd y6 (by decide)
          refine e_il6 111 rfl dX10_entry_109 ?_
          refine e_iret dX10_entry_111 rfl ?_
          refine ks i ?_ hno
          rw [he]
          rw [show j = w.length by omega, List.take_of_length_le (by omega), List.take_length] at htk
          congr 1
          exact Prod.ext y2 (Prod.ext y3 htk)
        | succ gu ihj =>
          intro j hj htk
          have hj1 : j < w.length := by omega
          have hj2 : j < e.2.2.length := by omega
          have v1 : mA μ (m + 5) (21 * i + j) = nI e.2.2[j] := e4.at hj2
          have v2 : mA μ r (at0 + j) = nI w[j] := hH.at hj1
          have c1 := f5 _ (List.getElem_mem hj2)
          have c2 := hw _ (List.getElem_mem hj1)
          refine e_il8 58 rfl dX10_entry_56 ?_
          refine e_il5 60 rfl dX10_entry_58 ?_
          first | refine e_cmp_geN 104 63 (by decide) rfl dX10_entry_60 rfl rfl (by omega) (by omega) (fun y5 => ?_) (fun y5 => ?_) | refine e_cmp_ge 104 63 (by decide) rfl dX10_entry_60 (fun y5 => ?_) (fun y5 => ?_)
          · omega
          refine e_il7 65 rfl dX10_entry_63 ?_
          first | refine e_if_eqB 104 68 (by decide) rfl dX10_entry_65 rfl (fun y6 => ?_) (fun y6 => ?_) | refine e_if_eqN 104 68 (by decide) rfl dX10_entry_65 rfl (by omega) (fun y6 => ?_) (fun y6 => ?_) | refine e_if_eq 104 68 (by decide) rfl dX10_entry_65 (fun y6 => ?_) (fun y6 => ?_)
          · exact absurd y6 (by decide)
          refine e_al0 69 rfl dX10_entry_68 ?_
          refine e_getR 72 rfl dX10_entry_69 f_X10_22 (by assumption) (by assumption) ?_
          refine e_bipush (nI 21) 74 rfl dX10_entry_72 bc_21 ?_
          refine e_il6 76 rfl dX10_entry_74 ?_
          first | refine e_imulN 77 rfl dX10_entry_76 rfl rfl ?_ | refine e_imul 77 rfl dX10_entry_76 ?_
          refine e_il8 79 rfl dX10_entry_77 ?_
          first | refine e_iaddN 80 rfl dX10_entry_79 rfl rfl ?_ | refine e_iadd 80 rfl dX10_entry_79 ?_
          first | refine e_ialdv 81 rfl dX10_entry_80 (by assumption) (by assumption) (by first | rfl | simp only [pk_mul, nI_add]) (by omega) (by omega) (by first | assumption | (simp only [mN_sF, mK_sF, mL_sF, mF_sF, mB_sF, mA_sF, mJ_sF, mP_sF, mO_sF, mN_sB, mK_sB, mL_sB, mF_sB, mB_sB, mA_sB, mJ_sB, mP_sB, mO_sB, mN_sA, mK_sA, mL_sA, mF_sA, mB_sA, mA_sA, mJ_sA, mP_sA, mO_sA, mN_sJ, mK_sJ, mL_sJ, mF_sJ, mB_sJ, mA_sJ, mJ_sJ, mP_sJ, mO_sJ, mN_sP, mK_sP, mL_sP, mF_sP, mB_sP, mA_sP, mJ_sP, mP_sP, mO_sP, mN_sO, mK_sO, mL_sO, mF_sO, mB_sO, mA_sO, mJ_sO, mP_sO, mO_sO, up2, if_true, if_false, eq_self, ite_true, ite_false, reduceIte, Nat.add_left_cancel_iff, Nat.add_eq_left, Nat.left_eq_add, Nat.reduceEqDiff]; assumption) | (simp only [mN_sF, mK_sF, mL_sF, mF_sF, mB_sF, mA_sF, mJ_sF, mP_sF, mO_sF, mN_sB, mK_sB, mL_sB, mF_sB, mB_sB, mA_sB, mJ_sB, mP_sB, mO_sB, mN_sA, mK_sA, mL_sA, mF_sA, mB_sA, mA_sA, mJ_sA, mP_sA, mO_sA, mN_sJ, mK_sJ, mL_sJ, mF_sJ, mB_sJ, mA_sJ, mJ_sJ, mP_sJ, mO_sJ, mN_sP, mK_sP, mL_sP, mF_sP, mB_sP, mA_sP, mJ_sP, mP_sP, mO_sP, mN_sO, mK_sO, mL_sO, mF_sO, mB_sO, mA_sO, mJ_sO, mP_sO, mO_sO, up2, if_true, if_false, eq_self, ite_true, ite_false, reduceIte, Nat.add_left_cancel_iff, Nat.add_eq_left, Nat.left_eq_add, Nat.reduceEqDiff]; done)) ?_ | refine e_iald 81 rfl dX10_entry_80 (by assumption) (by assumption) (by first | rfl | simp only [pk_mul, nI_add]) (by omega) (by omega) ?_
          refine e_al3 82 rfl dX10_entry_81 ?_
          refine e_il4 84 rfl dX10_entry_82 ?_
          refine e_il8 86 rfl dX10_entry_84 ?_
          first | refine e_iaddN 87 rfl dX10_entry_86 rfl rfl ?_ | refine e_iadd 87 rfl dX10_entry_86 ?_
          first | refine e_ialdv 88 rfl dX10_entry_87 (by assumption) (by assumption) (by first | rfl | simp only [pk_mul, nI_add]) (by omega) (by omega) (by first | assumption | (simp only [mN_sF, mK_sF, mL_sF, mF_sF, mB_sF, mA_sF, mJ_sF, mP_sF, mO_sF, mN_sB, mK_sB, mL_sB, mF_sB, mB_sB, mA_sB, mJ_sB, mP_sB, mO_sB, mN_sA, mK_sA, mL_sA, mF_sA, mB_sA, mA_sA, mJ_sA, mP_sA, mO_sA, mN_sJ, mK_sJ, mL_sJ, mF_sJ, mB_sJ, mA_sJ, mJ_sJ, mP_sJ, mO_sJ, mN_sP, mK_sP, mL_sP, mF_sP, mB_sP, mA_sP, mJ_sP, mP_sP, mO_sP, mN_sO, mK_sO, mL_sO, mF_sO, mB_sO, mA_sO, mJ_sO, mP_sO, mO_sO, up2, if_true, if_false, eq_self, ite_true, ite_false, reduceIte, Nat.add_left_cancel_iff, Nat.add_eq_left, Nat.left_eq_add, Nat.reduceEqDiff]; assumption) | (simp only [mN_sF, mK_sF, mL_sF, mF_sF, mB_sF, mA_sF, mJ_sF, mP_sF, mO_sF, mN_sB, mK_sB, mL_sB, mF_sB, mB_sB, mA_sB, mJ_sB, mP_sB, mO_sB, mN_sA, mK_sA, mL_sA, mF_sA, mB_sA, mA_sA, mJ_sA, mP_sA, mO_sA, mN_sJ, mK_sJ, mL_sJ, mF_sJ, mB_sJ, mA_sJ, mJ_sJ, mP_sJ, mO_sJ, mN_sP, mK_sP, mL_sP, mF_sP, mB_sP, mA_sP, mJ_sP, mP_sP, mO_sP, mN_sO, mK_sO, mL_sO, mF_sO, mB_sO, mA_sO, mJ_sO, mP_sO, mO_sO, up2, if_true, if_false, eq_self, ite_true, ite_false, reduceIte, Nat.add_left_cancel_iff, Nat.add_eq_left, Nat.left_eq_add, Nat.reduceEqDiff]; done)) ?_ | refine e_iald 88 rfl dX10_entry_87 (by assumption) (by assumption) (by first | rfl | simp only [pk_mul, nI_add]) (by omega) (by omega) ?_
          first | refine e_cmp_neN 95 91 (by decide) rfl dX10_entry_88 rfl rfl (by omega) (by omega) (fun y7 => ?_) (fun y7 => ?_) | refine e_cmp_ne 95 91 (by decide) rfl dX10_entry_88 (fun y7 => ?_) (fun y7 => ?_)
          · refine e_iconst (nI 0) 96 rfl dX10_entry_95 ic_0 ?_
            refine e_is7 98 rfl dX10_entry_96 (by decide) rfl ?_
            refine e_ii8 (nI (_ + 1)) 101 rfl dX10_entry_98 (ii1 _) rfl ?_
            refine e_goto 56 (by decide) dX10_entry_101 ?_
            have hne : e ≠ (ld, kd, w) := fun q => y7 (by simp only [q])
            by_cases c0 : j + 1 < w.length
            · refine e_il8 58 rfl dX10_entry_56 ?_
              refine e_il5 60 rfl dX10_entry_58 ?_
              first | refine e_cmp_geN 104 63 (by decide) rfl dX10_entry_60 rfl rfl (by omega) (by omega) (fun y8 => ?_) (fun y8 => ?_) | refine e_cmp_ge 104 63 (by decide) rfl dX10_entry_60 (fun y8 => ?_) (fun y8 => ?_)
              · omega
              refine e_il7 65 rfl dX10_entry_63 ?_
              first | refine e_if_eqB 104 68 (by decide) rfl dX10_entry_65 rfl (fun y9 => ?_) (fun y9 => ?_) | refine e_if_eqN 104 68 (by decide) rfl dX10_entry_65 rfl (by omega) (fun y9 => ?_) (fun y9 => ?_) | refine e_if_eq 104 68 (by decide) rfl dX10_entry_65 (fun y9 => ?_) (fun y9 => ?_)
              rotate_left
              · exact absurd y9 (by decide)
              exact nxt hne _
            · refine e_il8 58 rfl dX10_entry_56 ?_
              refine e_il5 60 rfl dX10_entry_58 ?_
              first | refine e_cmp_geN 104 63 (by decide) rfl dX10_entry_60 rfl rfl (by omega) (by omega) (fun y8 => ?_) (fun y8 => ?_) | refine e_cmp_ge 104 63 (by decide) rfl dX10_entry_60 (fun y8 => ?_) (fun y8 => ?_)
              rotate_left
              · omega
              exact nxt hne _
          · refine e_iconst (nI 1) 92 rfl dX10_entry_91 ic_1 ?_
            refine e_goto 96 (by decide) dX10_entry_92 ?_
            refine e_is7 98 rfl dX10_entry_96 (by decide) rfl ?_
            refine e_ii8 (nI (_ + 1)) 101 rfl dX10_entry_98 (ii1 _) rfl ?_
            refine e_goto 56 (by decide) dX10_entry_101 ?_
            exact ihj (j + 1) (by omega) ((take_succ_eq hj2 hj1 htk).mpr y7)
      exact inner w.length 0 (by omega) rfl
  refine Cl.of0 3 pn_X10 (Nat.le_of_ble_eq_true rfl) ⟨rfl, rfl⟩ rfl ?_
  refine e_iconst (nI 0) 1 rfl dX10_entry_0 ic_0 ?_
  refine e_is6 3 rfl dX10_entry_1 (by decide) rfl ?_
  exact outer es.length 0 (by omega) (fun j hj => by omega) _ _
end MWORDS
