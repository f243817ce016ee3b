section TAKE2
variable {E : En} {μ : Mm} {K : Option Value → Mm → Prop}
theorem isWordL_core (l : List Nat) : isWordL l = (decide (1 ≤ (coreL l).length ∧ (coreL l).length ≤ 20) && (((coreL l).head?.any isLt) && (coreL l).all okS)) := by
  unfold isWordL; rw [Bool.and_assoc]
theorem Wd.wi {a : Nat} (hw : Wd μ a) : WI (sF (sF μ a 1 (nI 0)) a 3 (nI 0)) a [] := ⟨by simp only [mN_sF, mK_sF, mL_sF, mF_sF, mB_sF, mA_sF, mJ_sF, mP_sF, mO_sF, mN_sB, mK_sB, mL_sB, mF_sB, mB_sB, mA_sB, mJ_sB, mP_sB, mO_sB, mN_sA, mK_sA, mL_sA, mF_sA, mB_sA, mA_sA, mJ_sA, mP_sA, mO_sA, mN_sJ, mK_sJ, mL_sJ, mF_sJ, mB_sJ, mA_sJ, mJ_sJ, mP_sJ, mO_sJ, mN_sP, mK_sP, mL_sP, mF_sP, mB_sP, mA_sP, mJ_sP, mP_sP, mO_sP, mN_sO, mK_sO, mL_sO, mF_sO, mB_sO, mA_sO, mJ_sO, mP_sO, mO_sO, up2, if_true, if_false, eq_self, ite_true, ite_false, reduceIte, Nat.add_left_cancel_iff, Nat.add_eq_left, Nat.left_eq_add, Nat.reduceEqDiff]; rfl, by simp only [mN_sF, mK_sF, mL_sF, mF_sF, mB_sF, mA_sF, mJ_sF, mP_sF, mO_sF, mN_sB, mK_sB, mL_sB, mF_sB, mB_sB, mA_sB, mJ_sB, mP_sB, mO_sB, mN_sA, mK_sA, mL_sA, mF_sA, mB_sA, mA_sA, mJ_sA, mP_sA, mO_sA, mN_sJ, mK_sJ, mL_sJ, mF_sJ, mB_sJ, mA_sJ, mJ_sJ, mP_sJ, mO_sJ, mN_sP, mK_sP, mL_sP, mF_sP, mB_sP, mA_sP, mJ_sP, mP_sP, mO_sP, mN_sO, mK_sO, mL_sO, mF_sO, mB_sO, mA_sO, mJ_sO, mP_sO, mO_sO, up2, if_true, if_false, eq_self, ite_true, ite_false, reduceIte, Nat.add_left_cancel_iff, Nat.add_eq_left, Nat.left_eq_add, Nat.reduceEqDiff]; rfl, Hd.nil, Hd.nil⟩
theorem c_take {a t n s e : Nat} {tx : Nat → Nat} (hw : Wd μ a) (hkt : mK μ t = 12) (hlt : mL μ t = n) (hn : n < 2 ^ 31) (htx : ∀ i, i < n → mB μ t i = sb_b (tx i) ∧ tx i < 256) (hne : ¬ wS a t) (hs : s < 2 ^ 31) (he : e ≤ n)
    (kt : isWordL (seg tx s e) = true → ∀ μ', Fr (wS a) μ μ' → WI μ' a (seg tx s e) → K (some (.int (nI 1))) μ') (kf : isWordL (seg tx s e) = false → ∀ μ', Fr (wS a) μ μ' → K (some (.int (nI 0))) μ') : Cl E M_X8_take [.ref a, .ref t, .int (nI s), .int (nI e)] μ K := by
  have Sa : wS a a := ⟨by omega, by omega⟩
  have Sa1 : wS a (a + 1) := ⟨by omega, by omega⟩
  have hk := hw.1
  have hF0 : Fr (wS a) μ (sF (sF μ a 1 (nI 0)) a 3 (nI 0)) := (Fr.rf.sF Sa _ _).sF Sa _ _
  have hwi := hw.wi
  have hw0 := hw.fr hF0
  have hB0 : ∀ i, mB (sF (sF μ a 1 (nI 0)) a 3 (nI 0)) t i = mB μ t i := fun i => rfl
  have hkt0 : mK (sF (sF μ a 1 (nI 0)) a 3 (nI 0)) t = 12 := hkt
  have hlt0 : mL (sF (sF μ a 1 (nI 0)) a 3 (nI 0)) t = n := hlt
  refine Cl.of0 2 pn_X8 (Nat.le_of_ble_eq_true rfl) ⟨rfl, rfl⟩ rfl ?_
  refine e_al0 1 rfl dX8_take_0 ?_
  refine e_iconst (nI 0) 2 rfl dX8_take_1 ic_0 ?_
  refine e_putI 5 rfl dX8_take_2 f_X8_15 (by assumption) ?_
  refine e_al0 6 rfl dX8_take_5 ?_
  refine e_iconst (nI 0) 7 rfl dX8_take_6 ic_0 ?_
  refine e_putI 10 rfl dX8_take_7 f_X8_22 (by assumption) ?_
  refine e_il2 11 rfl dX8_take_10 ?_
  first | refine e_if_ltN 33 14 (by decide) rfl dX8_take_11 rfl (by omega) ?_ | refine e_if_lt 33 14 (by decide) rfl dX8_take_11 (fun h => ?_) (fun h => ?_)
  generalize sF (sF μ a 1 (nI 0)) a 3 (nI 0) = μ0 at hF0 hwi hw0 hB0 hkt0 hlt0 ⊢
  refine e_il3 15 rfl dX8_take_14 ?_
  refine e_il2 16 rfl dX8_take_15 ?_
  first | refine e_cmp_leN 33 19 (by decide) rfl dX8_take_16 rfl rfl (by omega) (by omega) (fun h => ?_) (fun h => ?_) | refine e_cmp_le 33 19 (by decide) rfl dX8_take_16 (fun h => ?_) (fun h => ?_)
  · -- end <= start
    refine e_iconst (nI 0) 34 rfl dX8_take_33 ic_0 ?_
    refine e_zret dX8_take_34 rfl (by first | exact z0 | exact z1 | exact bI01 _ | assumption) ?_
    exact kf (by rw [seg_nil tx h]; rfl) μ0 hF0
  refine e_il3 20 rfl dX8_take_19 ?_
  refine e_al1 21 rfl dX8_take_20 ?_
  refine e_alen 22 rfl dX8_take_21 (by first | exact Or.inl (by assumption) | exact Or.inr (Or.inl (by assumption)) | exact Or.inr (Or.inr (by assumption))) (by assumption) ?_
  first | refine e_cmp_gtN 33 25 (by decide) rfl dX8_take_22 rfl rfl (by omega) (by omega) (fun h2 => ?_) (fun h2 => ?_) | refine e_cmp_gt 33 25 (by decide) rfl dX8_take_22 (fun h2 => ?_) (fun h2 => ?_)
  · omega
  refine e_il3 26 rfl dX8_take_25 ?_
  refine e_il2 27 rfl dX8_take_26 ?_
  first | refine e_isubN 28 rfl dX8_take_27 rfl rfl (by omega) ?_ | refine e_isub 28 rfl dX8_take_27 ?_
  refine e_bipush (nI 21) 30 rfl dX8_take_28 bc_21 ?_
  first | refine e_cmp_leN 35 33 (by decide) rfl dX8_take_30 rfl rfl (by omega) (by omega) (fun h3 => ?_) (fun h3 => ?_) | refine e_cmp_le 35 33 (by decide) rfl dX8_take_30 (fun h3 => ?_) (fun h3 => ?_)
  rotate_left
  · -- too long
    refine e_iconst (nI 0) 34 rfl dX8_take_33 ic_0 ?_
    refine e_zret dX8_take_34 rfl (by first | exact z0 | exact z1 | exact bI01 _ | assumption) ?_
    refine kf ?_ μ0 hF0
    rw [isWordL_core]
    have : ¬ ((coreL (seg tx s e)).length ≤ 20) := by
      rw [core_seg tx h]
      split <;> rw [seg_len] <;> omega
    simp [this]
  -- the point
  have hlast : mB μ0 t (e - 1) = sb_b (tx (e - 1)) := by rw [hB0]; exact (htx (e - 1) (by omega)).1
  have hlt256 := (htx (e - 1) (by omega)).2
  have main : ∀ stop, stop = (if tx (e - 1) = 46 then e - 1 else e) → Ev E M_X8_take 0 0 52 [some (.ref a), some (.ref t), some (.int (nI s)), some (.int (nI e)), none, none] [.int (nI stop)] μ0 K := by
    intro stop hstop
    have hcore : coreL (seg tx s e) = seg tx s stop := by rw [core_seg tx h, hstop]; split <;> rfl
    have hle : stop ≤ e ∧ e ≤ stop + 1 ∧ (stop < e ↔ tx (e - 1) = 46) := by rw [hstop]; split <;> omega
    refine e_is4 54 rfl dX8_take_52 (by decide) rfl ?_
    refine e_il4 56 rfl dX8_take_54 ?_
    refine e_il2 57 rfl dX8_take_56 ?_
    first | refine e_isubN 58 rfl dX8_take_57 rfl rfl (by omega) ?_ | refine e_isub 58 rfl dX8_take_57 ?_
    refine e_bipush (nI 20) 60 rfl dX8_take_58 bc_20 ?_
    first | refine e_cmp_leN 65 63 (by decide) rfl dX8_take_60 rfl rfl (by omega) (by omega) (fun h4 => ?_) (fun h4 => ?_) | refine e_cmp_le 65 63 (by decide) rfl dX8_take_60 (fun h4 => ?_) (fun h4 => ?_)
    rotate_left
    · -- the signs are too many
      refine e_iconst (nI 0) 64 rfl dX8_take_63 ic_0 ?_
      refine e_zret dX8_take_64 rfl (by first | exact z0 | exact z1 | exact bI01 _ | assumption) ?_
      refine kf ?_ μ0 hF0
      rw [isWordL_core, hcore, seg_len]
      have : ¬ (stop - s ≤ 20) := by omega
      simp [this]
    refine e_il2 66 rfl dX8_take_65 ?_
    refine e_is5 68 rfl dX8_take_66 (by decide) rfl ?_
    refine take_loop hw0 hkt0 hlt0 hn (fun i hi => ⟨by rw [hB0]; exact (htx i hi).1, (htx i hi).2⟩) hne (by omega) h4 (fun hb μ' hF' => kf ?_ μ' (hF0.trans hF')) (fun hok μ' hF' hW' => ?_) (stop - s) s (by omega) (Nat.le_refl s) ⟨by rw [seg_nil tx (Nat.le_refl s)]; rfl, Or.inl (seg_nil tx (Nat.le_refl s))⟩ μ0 Fr.rf (by rw [seg_nil tx (Nat.le_refl s)]; exact hwi)
    · rw [isWordL_core, hcore, hb, Bool.and_false]
    -- behind the loop
    have hw' := hw0.fr hF'
    have hfin : ∀ μ2, Fr (wS a) μ μ2 → WI μ2 a (seg tx s e) → mF μ2 a 3 = nI (foldL (seg tx s stop)).length → mK μ2 a = 9 → Ev E M_X8_take 0 0 130 [some (.ref a), some (.ref t), some (.int (nI s)), some (.int (nI e)), some (.int (nI stop)), some (.int (nI stop))] [] μ2 K := by
      intro μ2 hF2 hW2 h32 hk2
      have hfl := foldL_len (seg tx s stop)
      rw [seg_len] at hfl
      refine e_al0 131 rfl dX8_take_130 ?_
      first | refine e_getIv 134 rfl dX8_take_131 f_X8_22 (by assumption) (by first | assumption | (simp only [mN_sF, mK_sF, mL_sF, mF_sF, mB_sF, mA_sF, mJ_sF, mP_sF, mO_sF, mN_sB, mK_sB, mL_sB, mF_sB, mB_sB, mA_sB, mJ_sB, mP_sB, mO_sB, mN_sA, mK_sA, mL_sA, mF_sA, mB_sA, mA_sA, mJ_sA, mP_sA, mO_sA, mN_sJ, mK_sJ, mL_sJ, mF_sJ, mB_sJ, mA_sJ, mJ_sJ, mP_sJ, mO_sJ, mN_sP, mK_sP, mL_sP, mF_sP, mB_sP, mA_sP, mJ_sP, mP_sP, mO_sP, mN_sO, mK_sO, mL_sO, mF_sO, mB_sO, mA_sO, mJ_sO, mP_sO, mO_sO, up2, if_true, if_false, eq_self, ite_true, ite_false, reduceIte, Nat.add_left_cancel_iff, Nat.add_eq_left, Nat.left_eq_add, Nat.reduceEqDiff]; assumption) | (simp only [mN_sF, mK_sF, mL_sF, mF_sF, mB_sF, mA_sF, mJ_sF, mP_sF, mO_sF, mN_sB, mK_sB, mL_sB, mF_sB, mB_sB, mA_sB, mJ_sB, mP_sB, mO_sB, mN_sA, mK_sA, mL_sA, mF_sA, mB_sA, mA_sA, mJ_sA, mP_sA, mO_sA, mN_sJ, mK_sJ, mL_sJ, mF_sJ, mB_sJ, mA_sJ, mJ_sJ, mP_sJ, mO_sJ, mN_sP, mK_sP, mL_sP, mF_sP, mB_sP, mA_sP, mJ_sP, mP_sP, mO_sP, mN_sO, mK_sO, mL_sO, mF_sO, mB_sO, mA_sO, mJ_sO, mP_sO, mO_sO, up2, if_true, if_false, eq_self, ite_true, ite_false, reduceIte, Nat.add_left_cancel_iff, Nat.add_eq_left, Nat.left_eq_add, Nat.reduceEqDiff]; done)) ?_ | refine e_getI 134 rfl dX8_take_131 f_X8_22 (by assumption) ?_
      first | refine e_if_leN 141 137 (by decide) rfl dX8_take_134 rfl (by omega) (fun h5 => ?_) (fun h5 => ?_) | refine e_if_le 141 137 (by decide) rfl dX8_take_134 (fun h5 => ?_) (fun h5 => ?_)
      · refine e_iconst (nI 0) 142 rfl dX8_take_141 ic_0 ?_
        refine e_zret dX8_take_142 rfl (by first | exact z0 | exact z1 | exact bI01 _ | assumption) ?_
        refine kf ?_ μ2 hF2
        have : seg tx s stop = [] := (okP_fold hok).mp (List.eq_nil_of_length_eq_zero h5)
        rw [isWordL_core, hcore, this]
        rfl
      · refine e_iconst (nI 1) 138 rfl dX8_take_137 ic_1 ?_
        refine e_goto 142 (by decide) dX8_take_138 ?_
        refine e_zret dX8_take_142 rfl (by first | exact z0 | exact z1 | exact bI01 _ | assumption) ?_
        refine kt ?_ μ2 hF2 hW2
        have hne' : seg tx s stop ≠ [] := fun q => by rw [q] at h5; simp [foldL] at h5
        have hl1 : 0 < (seg tx s stop).length := List.length_pos_iff.mpr hne'
        rw [seg_len] at hl1
        rw [isWordL_core, hcore, hok.1, seg_len]
        rcases hok.2 with q | q
        · exact absurd q hne'
        · rw [q]; simp; omega
    obtain ⟨j1, j3, jt, jf⟩ := id hW'
    rw [seg_len] at j1
    obtain ⟨hk', h0', -, hk1', hl1', -⟩ := hw'
    refine e_il4 96 rfl dX8_take_94 ?_
    refine e_il3 97 rfl dX8_take_96 ?_
    first | refine e_cmp_geN 130 100 (by decide) rfl dX8_take_97 rfl rfl (by omega) (by omega) (fun h6 => ?_) (fun h6 => ?_) | refine e_cmp_ge 130 100 (by decide) rfl dX8_take_97 (fun h6 => ?_) (fun h6 => ?_)
    · have e1 : stop = e := by omega
      subst e1
      exact hfin μ' (hF0.trans hF') hW' j3 hk'
    refine e_al0 101 rfl dX8_take_100 ?_
    first | refine e_getIv 104 rfl dX8_take_101 f_X8_15 (by assumption) (by first | assumption | (simp only [mN_sF, mK_sF, mL_sF, mF_sF, mB_sF, mA_sF, mJ_sF, mP_sF, mO_sF, mN_sB, mK_sB, mL_sB, mF_sB, mB_sB, mA_sB, mJ_sB, mP_sB, mO_sB, mN_sA, mK_sA, mL_sA, mF_sA, mB_sA, mA_sA, mJ_sA, mP_sA, mO_sA, mN_sJ, mK_sJ, mL_sJ, mF_sJ, mB_sJ, mA_sJ, mJ_sJ, mP_sJ, mO_sJ, mN_sP, mK_sP, mL_sP, mF_sP, mB_sP, mA_sP, mJ_sP, mP_sP, mO_sP, mN_sO, mK_sO, mL_sO, mF_sO, mB_sO, mA_sO, mJ_sO, mP_sO, mO_sO, up2, if_true, if_false, eq_self, ite_true, ite_false, reduceIte, Nat.add_left_cancel_iff, Nat.add_eq_left, Nat.left_eq_add, Nat.reduceEqDiff]; assumption) | (simp only [mN_sF, mK_sF, mL_sF, mF_sF, mB_sF, mA_sF, mJ_sF, mP_sF, mO_sF, mN_sB, mK_sB, mL_sB, mF_sB, mB_sB, mA_sB, mJ_sB, mP_sB, mO_sB, mN_sA, mK_sA, mL_sA, mF_sA, mB_sA, mA_sA, mJ_sA, mP_sA, mO_sA, mN_sJ, mK_sJ, mL_sJ, mF_sJ, mB_sJ, mA_sJ, mJ_sJ, mP_sJ, mO_sJ, mN_sP, mK_sP, mL_sP, mF_sP, mB_sP, mA_sP, mJ_sP, mP_sP, mO_sP, mN_sO, mK_sO, mL_sO, mF_sO, mB_sO, mA_sO, mJ_sO, mP_sO, mO_sO, up2, if_true, if_false, eq_self, ite_true, ite_false, reduceIte, Nat.add_left_cancel_iff, Nat.add_eq_left, Nat.left_eq_add, Nat.reduceEqDiff]; done)) ?_ | refine e_getI 104 rfl dX8_take_101 f_X8_15 (by assumption) ?_
    refine e_bipush (nI 20) 106 rfl dX8_take_104 bc_20 ?_
    first | refine e_cmp_gtN 130 109 (by decide) rfl dX8_take_106 rfl rfl (by omega) (by omega) (fun h7 => ?_) (fun h7 => ?_) | refine e_cmp_gt 130 109 (by decide) rfl dX8_take_106 (fun h7 => ?_) (fun h7 => ?_)
    · omega
    have e46 : tx (e - 1) = 46 := hle.2.2.mp h6
    have hst : stop = e - 1 := by omega
    have hseg : seg tx s e = seg tx s stop ++ [46] := by
      have q := seg_succ tx (s := s) (e := e - 1) (by omega)
      rw [show e - 1 + 1 = e by omega, e46, ← hst] at q
      exact q
    refine e_al0 110 rfl dX8_take_109 ?_
    refine e_getR 113 rfl dX8_take_110 f_X8_9 (by assumption) (by assumption) ?_
    refine e_al0 114 rfl dX8_take_113 ?_
    first | refine e_getIv 117 rfl dX8_take_114 f_X8_15 (by assumption) (by first | assumption | (simp only [mN_sF, mK_sF, mL_sF, mF_sF, mB_sF, mA_sF, mJ_sF, mP_sF, mO_sF, mN_sB, mK_sB, mL_sB, mF_sB, mB_sB, mA_sB, mJ_sB, mP_sB, mO_sB, mN_sA, mK_sA, mL_sA, mF_sA, mB_sA, mA_sA, mJ_sA, mP_sA, mO_sA, mN_sJ, mK_sJ, mL_sJ, mF_sJ, mB_sJ, mA_sJ, mJ_sJ, mP_sJ, mO_sJ, mN_sP, mK_sP, mL_sP, mF_sP, mB_sP, mA_sP, mJ_sP, mP_sP, mO_sP, mN_sO, mK_sO, mL_sO, mF_sO, mB_sO, mA_sO, mJ_sO, mP_sO, mO_sO, up2, if_true, if_false, eq_self, ite_true, ite_false, reduceIte, Nat.add_left_cancel_iff, Nat.add_eq_left, Nat.left_eq_add, Nat.reduceEqDiff]; assumption) | (simp only [mN_sF, mK_sF, mL_sF, mF_sF, mB_sF, mA_sF, mJ_sF, mP_sF, mO_sF, mN_sB, mK_sB, mL_sB, mF_sB, mB_sB, mA_sB, mJ_sB, mP_sB, mO_sB, mN_sA, mK_sA, mL_sA, mF_sA, mB_sA, mA_sA, mJ_sA, mP_sA, mO_sA, mN_sJ, mK_sJ, mL_sJ, mF_sJ, mB_sJ, mA_sJ, mJ_sJ, mP_sJ, mO_sJ, mN_sP, mK_sP, mL_sP, mF_sP, mB_sP, mA_sP, mJ_sP, mP_sP, mO_sP, mN_sO, mK_sO, mL_sO, mF_sO, mB_sO, mA_sO, mJ_sO, mP_sO, mO_sO, up2, if_true, if_false, eq_self, ite_true, ite_false, reduceIte, Nat.add_left_cancel_iff, Nat.add_eq_left, Nat.left_eq_add, Nat.reduceEqDiff]; done)) ?_ | refine e_getI 117 rfl dX8_take_114 f_X8_15 (by assumption) ?_
    refine e_bipush (nI 46) 119 rfl dX8_take_117 bc_46 ?_
    first | refine e_bast 120 rfl dX8_take_119 (by assumption) (by assumption) (by first | rfl | simp only [pk_mul, nI_add]) (by omega) (by omega) ?_ | refine e_zast 120 rfl dX8_take_119 (by assumption) (by assumption) (by first | rfl | simp only [pk_mul, nI_add]) (by omega) (by omega) (by first | exact z0 | exact z1 | exact bI01 _ | assumption) ?_
    refine e_al0 121 rfl dX8_take_120 ?_
    refine e_dup 122 rfl dX8_take_121 rfl ?_
    first | refine e_getIv 125 rfl dX8_take_122 f_X8_15 (by assumption) (by first | assumption | (simp only [mN_sF, mK_sF, mL_sF, mF_sF, mB_sF, mA_sF, mJ_sF, mP_sF, mO_sF, mN_sB, mK_sB, mL_sB, mF_sB, mB_sB, mA_sB, mJ_sB, mP_sB, mO_sB, mN_sA, mK_sA, mL_sA, mF_sA, mB_sA, mA_sA, mJ_sA, mP_sA, mO_sA, mN_sJ, mK_sJ, mL_sJ, mF_sJ, mB_sJ, mA_sJ, mJ_sJ, mP_sJ, mO_sJ, mN_sP, mK_sP, mL_sP, mF_sP, mB_sP, mA_sP, mJ_sP, mP_sP, mO_sP, mN_sO, mK_sO, mL_sO, mF_sO, mB_sO, mA_sO, mJ_sO, mP_sO, mO_sO, up2, if_true, if_false, eq_self, ite_true, ite_false, reduceIte, Nat.add_left_cancel_iff, Nat.add_eq_left, Nat.left_eq_add, Nat.reduceEqDiff]; assumption) | (simp only [mN_sF, mK_sF, mL_sF, mF_sF, mB_sF, mA_sF, mJ_sF, mP_sF, mO_sF, mN_sB, mK_sB, mL_sB, mF_sB, mB_sB, mA_sB, mJ_sB, mP_sB, mO_sB, mN_sA, mK_sA, mL_sA, mF_sA, mB_sA, mA_sA, mJ_sA, mP_sA, mO_sA, mN_sJ, mK_sJ, mL_sJ, mF_sJ, mB_sJ, mA_sJ, mJ_sJ, mP_sJ, mO_sJ, mN_sP, mK_sP, mL_sP, mF_sP, mB_sP, mA_sP, mJ_sP, mP_sP, mO_sP, mN_sO, mK_sO, mL_sO, mF_sO, mB_sO, mA_sO, mJ_sO, mP_sO, mO_sO, up2, if_true, if_false, eq_self, ite_true, ite_false, reduceIte, Nat.add_left_cancel_iff, Nat.add_eq_left, Nat.left_eq_add, Nat.reduceEqDiff]; done)) ?_ | refine e_getI 125 rfl dX8_take_122 f_X8_15 (by assumption) ?_
    refine e_iconst (nI 1) 126 rfl dX8_take_125 ic_1 ?_
    first | refine e_iaddN 127 rfl dX8_take_126 rfl rfl ?_ | refine e_iadd 127 rfl dX8_take_126 ?_
    refine e_putI 130 rfl dX8_take_127 f_X8_15 (by assumption) ?_
    refine hfin _ (((hF0.trans hF').sB Sa1 _ _).sF Sa _ _) ?_ (by simp only [mN_sF, mK_sF, mL_sF, mF_sF, mB_sF, mA_sF, mJ_sF, mP_sF, mO_sF, mN_sB, mK_sB, mL_sB, mF_sB, mB_sB, mA_sB, mJ_sB, mP_sB, mO_sB, mN_sA, mK_sA, mL_sA, mF_sA, mB_sA, mA_sA, mJ_sA, mP_sA, mO_sA, mN_sJ, mK_sJ, mL_sJ, mF_sJ, mB_sJ, mA_sJ, mJ_sJ, mP_sJ, mO_sJ, mN_sP, mK_sP, mL_sP, mF_sP, mB_sP, mA_sP, mJ_sP, mP_sP, mO_sP, mN_sO, mK_sO, mL_sO, mF_sO, mB_sO, mA_sO, mJ_sO, mP_sO, mO_sO, up2, if_true, if_false, eq_self, ite_true, ite_false, reduceIte, Nat.add_left_cancel_iff, Nat.add_eq_left, Nat.left_eq_add, Nat.reduceEqDiff]; exact j3) hk'
    rw [hseg]
    have q := WI.other (c := 46) hW' rfl (w := (nI 46).toInt8.toInt32) (by decide)
    rw [seg_len] at q
    exact q
  refine e_al1 36 rfl dX8_take_35 ?_
  refine e_il3 37 rfl dX8_take_36 ?_
  refine e_iconst (nI 1) 38 rfl dX8_take_37 ic_1 ?_
  first | refine e_isubN 39 rfl dX8_take_38 rfl rfl (by omega) ?_ | refine e_isub 39 rfl dX8_take_38 ?_
  first | refine e_baldv 40 rfl dX8_take_39 (by assumption) (by assumption) (by first | rfl | simp only [pk_mul, nI_add]) (by omega) (by omega) (by first | assumption | (simp only [mN_sF, mK_sF, mL_sF, mF_sF, mB_sF, mA_sF, mJ_sF, mP_sF, mO_sF, mN_sB, mK_sB, mL_sB, mF_sB, mB_sB, mA_sB, mJ_sB, mP_sB, mO_sB, mN_sA, mK_sA, mL_sA, mF_sA, mB_sA, mA_sA, mJ_sA, mP_sA, mO_sA, mN_sJ, mK_sJ, mL_sJ, mF_sJ, mB_sJ, mA_sJ, mJ_sJ, mP_sJ, mO_sJ, mN_sP, mK_sP, mL_sP, mF_sP, mB_sP, mA_sP, mJ_sP, mP_sP, mO_sP, mN_sO, mK_sO, mL_sO, mF_sO, mB_sO, mA_sO, mJ_sO, mP_sO, mO_sO, up2, if_true, if_false, eq_self, ite_true, ite_false, reduceIte, Nat.add_left_cancel_iff, Nat.add_eq_left, Nat.left_eq_add, Nat.reduceEqDiff]; assumption) | (simp only [mN_sF, mK_sF, mL_sF, mF_sF, mB_sF, mA_sF, mJ_sF, mP_sF, mO_sF, mN_sB, mK_sB, mL_sB, mF_sB, mB_sB, mA_sB, mJ_sB, mP_sB, mO_sB, mN_sA, mK_sA, mL_sA, mF_sA, mB_sA, mA_sA, mJ_sA, mP_sA, mO_sA, mN_sJ, mK_sJ, mL_sJ, mF_sJ, mB_sJ, mA_sJ, mJ_sJ, mP_sJ, mO_sJ, mN_sP, mK_sP, mL_sP, mF_sP, mB_sP, mA_sP, mJ_sP, mP_sP, mO_sP, mN_sO, mK_sO, mL_sO, mF_sO, mB_sO, mA_sO, mJ_sO, mP_sO, mO_sO, up2, if_true, if_false, eq_self, ite_true, ite_false, reduceIte, Nat.add_left_cancel_iff, Nat.add_eq_left, Nat.left_eq_add, Nat.reduceEqDiff]; done)) ?_ | refine e_zaldv 40 rfl dX8_take_39 (by assumption) (by assumption) (by first | rfl | simp only [pk_mul, nI_add]) (by omega) (by omega) (by first | assumption | (simp only [mN_sF, mK_sF, mL_sF, mF_sF, mB_sF, mA_sF, mJ_sF, mP_sF, mO_sF, mN_sB, mK_sB, mL_sB, mF_sB, mB_sB, mA_sB, mJ_sB, mP_sB, mO_sB, mN_sA, mK_sA, mL_sA, mF_sA, mB_sA, mA_sA, mJ_sA, mP_sA, mO_sA, mN_sJ, mK_sJ, mL_sJ, mF_sJ, mB_sJ, mA_sJ, mJ_sJ, mP_sJ, mO_sJ, mN_sP, mK_sP, mL_sP, mF_sP, mB_sP, mA_sP, mJ_sP, mP_sP, mO_sP, mN_sO, mK_sO, mL_sO, mF_sO, mB_sO, mA_sO, mJ_sO, mP_sO, mO_sO, up2, if_true, if_false, eq_self, ite_true, ite_false, reduceIte, Nat.add_left_cancel_iff, Nat.add_eq_left, Nat.left_eq_add, Nat.reduceEqDiff]; assumption) | (simp only [mN_sF, mK_sF, mL_sF, mF_sF, mB_sF, mA_sF, mJ_sF, mP_sF, mO_sF, mN_sB, mK_sB, mL_sB, mF_sB, mB_sB, mA_sB, mJ_sB, mP_sB, mO_sB, mN_sA, mK_sA, mL_sA, mF_sA, mB_sA, mA_sA, mJ_sA, mP_sA, mO_sA, mN_sJ, mK_sJ, mL_sJ, mF_sJ, mB_sJ, mA_sJ, mJ_sJ, mP_sJ, mO_sJ, mN_sP, mK_sP, mL_sP, mF_sP, mB_sP, mA_sP, mJ_sP, mP_sP, mO_sP, mN_sO, mK_sO, mL_sO, mF_sO, mB_sO, mA_sO, mJ_sO, mP_sO, mO_sO, up2, if_true, if_false, eq_self, ite_true, ite_false, reduceIte, Nat.add_left_cancel_iff, Nat.add_eq_left, Nat.left_eq_add, Nat.reduceEqDiff]; done)) ?_ | refine e_bald 40 rfl dX8_take_39 (by assumption) (by assumption) (by first | rfl | simp only [pk_mul, nI_add]) (by omega) (by omega) ?_ | refine e_zald 40 rfl dX8_take_39 (by assumption) (by assumption) (by first | rfl | simp only [pk_mul, nI_add]) (by omega) (by omega) ?_
  refine e_bipush (nI 46) 42 rfl dX8_take_40 bc_46 ?_
  first | refine e_cmp_neN 51 45 (by decide) rfl dX8_take_42 rfl rfl (by omega) (by omega) (fun h8 => ?_) (fun h8 => ?_) | refine e_cmp_ne 51 45 (by decide) rfl dX8_take_42 (fun h8 => ?_) (fun h8 => ?_)
  · have q : tx (e - 1) ≠ 46 := fun q => h8 ((sb_eq _ hlt256 46 (by decide)).mpr q)
    refine e_il3 52 rfl dX8_take_51 ?_
    exact main e (by rw [if_neg q])
  · have q : tx (e - 1) = 46 := (sb_eq _ hlt256 46 (by decide)).mp h8
    refine e_il3 46 rfl dX8_take_45 ?_
    refine e_iconst (nI 1) 47 rfl dX8_take_46 ic_1 ?_
    first | refine e_isubN 48 rfl dX8_take_47 rfl rfl (by omega) ?_ | refine e_isub 48 rfl dX8_take_47 ?_
    refine e_goto 52 (by decide) dX8_take_48 ?_
    exact main (e - 1) (by rw [if_pos q])
end TAKE2
