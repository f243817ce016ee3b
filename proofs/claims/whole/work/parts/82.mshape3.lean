/-! NameDeskModel: shape -/
section MSHAPE3
variable {E : En} {μ : Mm} {K : Option Value → Mm → Prop}
/-- the told shape is laid into the land's rows -/
theorem m_shapeCopy {m ld : Nat} {y : Shp} {nn : Nat} {l3 : Option Value} (hg : Mg μ m) (hl : ld < 6) (hy : y.1.length ≤ 8 ∧ y.2.1.length ≤ 7 ∧ y.2.2.1.length ≤ 7 ∧ y.2.2.2.length ≤ 6) (h31 : mF μ m 31 = nI y.1.length) (h36 : mF μ m 36 = nI y.2.2.2.length) (m0 : mA μ (m + 27) 0 = nI y.2.1.length) (m1 : mA μ (m + 27) 1 = nI y.2.2.1.length)
    (k : ∀ μ', Fr (fun q => m + 6 ≤ q ∧ q ≤ m + 15) μ μ' → cpB m ld y μ μ' → cpS m ld y y.1.length μ μ' → cpM m ld y μ μ' → cpT m ld 7 μ μ' → cpN m ld y μ μ' → cpE m ld 6 μ μ' → K (some (.int (nI y.1.length))) μ') : Ev E M_X10_shape 0 0 86 [some (.ref m), some (.int (nI ld)), some (.int (nI nn)), l3] [] μ K := by
  obtain ⟨S, hS⟩ : ∃ S : Nat → Prop, S = fun q => m + 6 ≤ q ∧ q ≤ m + 15 := ⟨_, rfl⟩
  rw [← hS] at k
  have Sq : ∀ j, 6 ≤ j → j ≤ 15 → S (m + j) := fun j a b => by rw [hS]; exact ⟨by omega, by omega⟩
  have nS : ∀ q, q ≤ m + 5 ∨ m + 16 ≤ q → ¬ S q := fun q h => by rw [hS]; omega
  have y8 := hy.1
  have kF' : ∀ μ', Fr S μ μ' → mK μ' m = 11 ∧ mF μ' m 31 = nI y.1.length ∧ mF μ' m 36 = nI y.2.2.2.length ∧ Mg μ' m := fun μ' f => ⟨(hg.fr f).1, by rw [(f.2.2.2.2.2 m (nS m (by omega))).1]; exact h31, by rw [(f.2.2.2.2.2 m (nS m (by omega))).1]; exact h36, hg.fr f⟩
  have kA : ∀ μ', Fr S μ μ' → ∀ q, m + 16 ≤ q → mA μ' q = mA μ q := fun μ' f q h => (f.2.2.2.2.2 q (nS q (by omega))).2.2.1
  -- the ending
  have ph3 : ∀ μ1 j3, Fr S μ μ1 → cpB m ld y μ μ1 → cpS m ld y y.1.length μ μ1 → cpM m ld y μ μ1 → cpT m ld 7 μ μ1 → mA μ1 (m + 14) = mA μ (m + 14) → mA μ1 (m + 15) = mA μ (m + 15) → Ev E M_X10_shape 0 0 228 [some (.ref m), some (.int (nI ld)), some (.int (nI nn)), j3] [] μ1 K := by
    intro μ1 j3 hF1 c1 c2 c3 c4 e14 e15
    obtain ⟨mk1, h311, h361, hg1⟩ := kF' μ1 hF1
    obtain ⟨pz, kz, lz⟩ := hg1.endSize
    refine e_al0 229 rfl dX10_shape_228 ?_
    refine e_getR 232 rfl dX10_shape_229 f_X10_50 (by assumption) (by assumption) ?_
    refine e_il1 233 rfl dX10_shape_232 ?_
    refine e_al0 234 rfl dX10_shape_233 ?_
    first | refine e_getIv 237 rfl dX10_shape_234 f_X10_156 (by assumption) (by first | assumption | (simp only [mN_sF, mK_sF, mL_sF, mF_sF, mB_sF, mA_sF, mJ_sF, mP_sF, mO_sF, mN_sB, mK_sB, mL_sB, mF_sB, mB_sB, mA_sB, mJ_sB, mP_sB, mO_sB, mN_sA, mK_sA, mL_sA, mF_sA, mB_sA, mA_sA, mJ_sA, mP_sA, mO_sA, mN_sJ, mK_sJ, mL_sJ, mF_sJ, mB_sJ, mA_sJ, mJ_sJ, mP_sJ, mO_sJ, mN_sP, mK_sP, mL_sP, mF_sP, mB_sP, mA_sP, mJ_sP, mP_sP, mO_sP, mN_sO, mK_sO, mL_sO, mF_sO, mB_sO, mA_sO, mJ_sO, mP_sO, mO_sO, up2, if_true, if_false, eq_self, ite_true, ite_false, reduceIte, Nat.add_left_cancel_iff, Nat.add_eq_left, Nat.left_eq_add, Nat.reduceEqDiff]; assumption) | (simp only [mN_sF, mK_sF, mL_sF, mF_sF, mB_sF, mA_sF, mJ_sF, mP_sF, mO_sF, mN_sB, mK_sB, mL_sB, mF_sB, mB_sB, mA_sB, mJ_sB, mP_sB, mO_sB, mN_sA, mK_sA, mL_sA, mF_sA, mB_sA, mA_sA, mJ_sA, mP_sA, mO_sA, mN_sJ, mK_sJ, mL_sJ, mF_sJ, mB_sJ, mA_sJ, mJ_sJ, mP_sJ, mO_sJ, mN_sP, mK_sP, mL_sP, mF_sP, mB_sP, mA_sP, mJ_sP, mP_sP, mO_sP, mN_sO, mK_sO, mL_sO, mF_sO, mB_sO, mA_sO, mJ_sO, mP_sO, mO_sO, up2, if_true, if_false, eq_self, ite_true, ite_false, reduceIte, Nat.add_left_cancel_iff, Nat.add_eq_left, Nat.left_eq_add, Nat.reduceEqDiff]; done)) ?_ | refine e_getI 237 rfl dX10_shape_234 f_X10_156 (by assumption) ?_
    refine e_iast 238 rfl dX10_shape_237 (by assumption) (by assumption) (by first | rfl | simp only [pk_mul, nI_add]) (by omega) (by omega) ?_
    refine e_iconst (nI 0) 239 rfl dX10_shape_238 ic_0 ?_
    refine e_is3 240 rfl dX10_shape_239 (by decide) rfl ?_
    have loop : ∀ (fu j : Nat), j + fu = 6 → ∀ μ2, Fr S μ μ2 → cpB m ld y μ μ2 → cpS m ld y y.1.length μ μ2 → cpM m ld y μ μ2 → cpT m ld 7 μ μ2 → cpN m ld y μ μ2 → cpE m ld j μ μ2 → Ev E M_X10_shape 0 0 240 [some (.ref m), some (.int (nI ld)), some (.int (nI nn)), some (.int (nI j))] [] μ2 K := by
      intro fu
      induction fu with
      | zero =>
        intro j hj μ2 hF2 d1 d2 d3 d4 d5 d6
        obtain ⟨mk2, h312, h362, hg2⟩ := kF' μ2 hF2
        refine e_il3 241 rfl dX10_shape_240 ?_
        refine e_bipush (nI 6) 243 rfl dX10_shape_241 bc_6 ?_
        first | refine e_cmp_geN 269 246 (by decide) rfl dX10_shape_243 rfl rfl (by omega) (by omega) (fun z9 => ?_) (fun z9 => ?_) | refine e_cmp_ge 269 246 (by decide) rfl dX10_shape_243 (fun z9 => ?_) (fun z9 => ?_)
        rotate_left
        · omega
        refine e_al0 270 rfl dX10_shape_269 ?_
        first | refine e_getIv 273 rfl dX10_shape_270 f_X10_141 (by assumption) (by first | assumption | (simp only [mN_sF, mK_sF, mL_sF, mF_sF, mB_sF, mA_sF, mJ_sF, mP_sF, mO_sF, mN_sB, mK_sB, mL_sB, mF_sB, mB_sB, mA_sB, mJ_sB, mP_sB, mO_sB, mN_sA, mK_sA, mL_sA, mF_sA, mB_sA, mA_sA, mJ_sA, mP_sA, mO_sA, mN_sJ, mK_sJ, mL_sJ, mF_sJ, mB_sJ, mA_sJ, mJ_sJ, mP_sJ, mO_sJ, mN_sP, mK_sP, mL_sP, mF_sP, mB_sP, mA_sP, mJ_sP, mP_sP, mO_sP, mN_sO, mK_sO, mL_sO, mF_sO, mB_sO, mA_sO, mJ_sO, mP_sO, mO_sO, up2, if_true, if_false, eq_self, ite_true, ite_false, reduceIte, Nat.add_left_cancel_iff, Nat.add_eq_left, Nat.left_eq_add, Nat.reduceEqDiff]; assumption) | (simp only [mN_sF, mK_sF, mL_sF, mF_sF, mB_sF, mA_sF, mJ_sF, mP_sF, mO_sF, mN_sB, mK_sB, mL_sB, mF_sB, mB_sB, mA_sB, mJ_sB, mP_sB, mO_sB, mN_sA, mK_sA, mL_sA, mF_sA, mB_sA, mA_sA, mJ_sA, mP_sA, mO_sA, mN_sJ, mK_sJ, mL_sJ, mF_sJ, mB_sJ, mA_sJ, mJ_sJ, mP_sJ, mO_sJ, mN_sP, mK_sP, mL_sP, mF_sP, mB_sP, mA_sP, mJ_sP, mP_sP, mO_sP, mN_sO, mK_sO, mL_sO, mF_sO, mB_sO, mA_sO, mJ_sO, mP_sO, mO_sO, up2, if_true, if_false, eq_self, ite_true, ite_false, reduceIte, Nat.add_left_cancel_iff, Nat.add_eq_left, Nat.left_eq_add, Nat.reduceEqDiff]; done)) ?_ | refine e_getI 273 rfl dX10_shape_270 f_X10_141 (by assumption) ?_
        refine e_iret dX10_shape_273 rfl ?_
        rw [show j = 6 by omega] at d6
        exact k μ2 hF2 d1 d2 d3 d4 d5 d6
      | succ fu ih =>
        intro j hj μ2 hF2 d1 d2 d3 d4 d5 d6
        obtain ⟨mk2, h312, h362, hg2⟩ := kF' μ2 hF2
        obtain ⟨pb, kb, lb⟩ := hg2.endBy
        obtain ⟨pr, kr, lr⟩ := hg2.rEnding
        refine e_il3 241 rfl dX10_shape_240 ?_
        refine e_bipush (nI 6) 243 rfl dX10_shape_241 bc_6 ?_
        first | refine e_cmp_geN 269 246 (by decide) rfl dX10_shape_243 rfl rfl (by omega) (by omega) (fun z9 => ?_) (fun z9 => ?_) | refine e_cmp_ge 269 246 (by decide) rfl dX10_shape_243 (fun z9 => ?_) (fun z9 => ?_)
        · omega
        refine e_al0 247 rfl dX10_shape_246 ?_
        refine e_getR 250 rfl dX10_shape_247 f_X10_53 (by assumption) (by assumption) ?_
        refine e_bipush (nI 6) 252 rfl dX10_shape_250 bc_6 ?_
        refine e_il1 253 rfl dX10_shape_252 ?_
        first | refine e_imulN 254 rfl dX10_shape_253 rfl rfl ?_ | refine e_imul 254 rfl dX10_shape_253 ?_
        refine e_il3 255 rfl dX10_shape_254 ?_
        first | refine e_iaddN 256 rfl dX10_shape_255 rfl rfl ?_ | refine e_iadd 256 rfl dX10_shape_255 ?_
        refine e_al0 257 rfl dX10_shape_256 ?_
        refine e_getR 260 rfl dX10_shape_257 f_X10_96 (by assumption) (by assumption) ?_
        refine e_il3 261 rfl dX10_shape_260 ?_
        first | refine e_ialdv 262 rfl dX10_shape_261 (by assumption) (by assumption) (by first | rfl | simp only [pk_mul, nI_add]) (by omega) (by omega) (by first | assumption | (simp only [mN_sF, mK_sF, mL_sF, mF_sF, mB_sF, mA_sF, mJ_sF, mP_sF, mO_sF, mN_sB, mK_sB, mL_sB, mF_sB, mB_sB, mA_sB, mJ_sB, mP_sB, mO_sB, mN_sA, mK_sA, mL_sA, mF_sA, mB_sA, mA_sA, mJ_sA, mP_sA, mO_sA, mN_sJ, mK_sJ, mL_sJ, mF_sJ, mB_sJ, mA_sJ, mJ_sJ, mP_sJ, mO_sJ, mN_sP, mK_sP, mL_sP, mF_sP, mB_sP, mA_sP, mJ_sP, mP_sP, mO_sP, mN_sO, mK_sO, mL_sO, mF_sO, mB_sO, mA_sO, mJ_sO, mP_sO, mO_sO, up2, if_true, if_false, eq_self, ite_true, ite_false, reduceIte, Nat.add_left_cancel_iff, Nat.add_eq_left, Nat.left_eq_add, Nat.reduceEqDiff]; assumption) | (simp only [mN_sF, mK_sF, mL_sF, mF_sF, mB_sF, mA_sF, mJ_sF, mP_sF, mO_sF, mN_sB, mK_sB, mL_sB, mF_sB, mB_sB, mA_sB, mJ_sB, mP_sB, mO_sB, mN_sA, mK_sA, mL_sA, mF_sA, mB_sA, mA_sA, mJ_sA, mP_sA, mO_sA, mN_sJ, mK_sJ, mL_sJ, mF_sJ, mB_sJ, mA_sJ, mJ_sJ, mP_sJ, mO_sJ, mN_sP, mK_sP, mL_sP, mF_sP, mB_sP, mA_sP, mJ_sP, mP_sP, mO_sP, mN_sO, mK_sO, mL_sO, mF_sO, mB_sO, mA_sO, mJ_sO, mP_sO, mO_sO, up2, if_true, if_false, eq_self, ite_true, ite_false, reduceIte, Nat.add_left_cancel_iff, Nat.add_eq_left, Nat.left_eq_add, Nat.reduceEqDiff]; done)) ?_ | refine e_iald 262 rfl dX10_shape_261 (by assumption) (by assumption) (by first | rfl | simp only [pk_mul, nI_add]) (by omega) (by omega) ?_
        refine e_iast 263 rfl dX10_shape_262 (by assumption) (by assumption) (by first | rfl | simp only [pk_mul, nI_add]) (by omega) (by omega) ?_
        refine e_ii3 (nI (_ + 1)) 266 rfl dX10_shape_263 (ii1 _) rfl ?_
        refine e_goto 240 (by decide) dX10_shape_266 ?_
        refine ih (j + 1) (by omega) _ (hF2.sA (Sq 15 (by omega) (by omega)) _ _) ?_ ?_ ?_ ?_ ?_ ?_
        · unfold cpB; rw [sA_o (by omega), mB_sA]; exact d1
        · unfold cpS; rw [sA_o (by omega), sA_o (by omega)]; exact d2
        · unfold cpM; rw [sA_o (by omega), sA_o (by omega)]; exact d3
        · unfold cpT; rw [sA_o (by omega), sA_o (by omega)]; exact d4
        · unfold cpN; rw [sA_o (by omega)]; exact d5
        · unfold cpE; rw [sA_s]; exact upR_push d6 (by rw [kA μ2 hF2 (m + 28) (by omega)])
    refine loop 6 0 (by omega) _ (hF1.sA (Sq 14 (by omega) (by omega)) _ _) ?_ ?_ ?_ ?_ ?_ ?_
    · unfold cpB; rw [sA_o (by omega), mB_sA]; exact c1
    · unfold cpS; rw [sA_o (by omega), sA_o (by omega)]; exact c2
    · unfold cpM; rw [sA_o (by omega), sA_o (by omega)]; exact c3
    · unfold cpT; rw [sA_o (by omega), sA_o (by omega)]; exact c4
    · unfold cpN; rw [sA_s, e14]
    · unfold cpE; rw [sA_o (by omega), upR_0]; exact e15
  -- the letters
  have ph2 : ∀ μ1 j3, Fr S μ μ1 → cpB m ld y μ μ1 → cpS m ld y y.1.length μ μ1 → (∀ q, m + 10 ≤ q → q ≤ m + 15 → mA μ1 q = mA μ q) → Ev E M_X10_shape 0 0 153 [some (.ref m), some (.int (nI ld)), some (.int (nI nn)), j3] [] μ1 K := by
    intro μ1 j3 hF1 c1 c2 ce
    obtain ⟨mk1, h311, h361, hg1⟩ := kF' μ1 hF1
    obtain ⟨ps, ks, ls⟩ := hg1.sortMany
    obtain ⟨pc, kc, lc⟩ := hg1.callMany
    obtain ⟨pm, km, lm⟩ := hg1.rMany
    have v0 : mA μ1 (m + 27) 0 = nI y.2.1.length := by rw [kA μ1 hF1 (m + 27) (by omega)]; exact m0
    have v1 : mA (sA μ1 (m + 10) ld (nI y.2.1.length)) (m + 27) 1 = nI y.2.2.1.length := by rw [sA_o (by omega), kA μ1 hF1 (m + 27) (by omega)]; exact m1
    refine e_al0 154 rfl dX10_shape_153 ?_
    refine e_getR 157 rfl dX10_shape_154 f_X10_38 (by assumption) (by assumption) ?_
    refine e_il1 158 rfl dX10_shape_157 ?_
    refine e_al0 159 rfl dX10_shape_158 ?_
    refine e_getR 162 rfl dX10_shape_159 f_X10_93 (by assumption) (by assumption) ?_
    refine e_iconst (nI 0) 163 rfl dX10_shape_162 ic_0 ?_
    first | refine e_ialdv 164 rfl dX10_shape_163 (by assumption) (by assumption) (by first | rfl | simp only [pk_mul, nI_add]) (by omega) (by omega) (by first | assumption | (simp only [mN_sF, mK_sF, mL_sF, mF_sF, mB_sF, mA_sF, mJ_sF, mP_sF, mO_sF, mN_sB, mK_sB, mL_sB, mF_sB, mB_sB, mA_sB, mJ_sB, mP_sB, mO_sB, mN_sA, mK_sA, mL_sA, mF_sA, mB_sA, mA_sA, mJ_sA, mP_sA, mO_sA, mN_sJ, mK_sJ, mL_sJ, mF_sJ, mB_sJ, mA_sJ, mJ_sJ, mP_sJ, mO_sJ, mN_sP, mK_sP, mL_sP, mF_sP, mB_sP, mA_sP, mJ_sP, mP_sP, mO_sP, mN_sO, mK_sO, mL_sO, mF_sO, mB_sO, mA_sO, mJ_sO, mP_sO, mO_sO, up2, if_true, if_false, eq_self, ite_true, ite_false, reduceIte, Nat.add_left_cancel_iff, Nat.add_eq_left, Nat.left_eq_add, Nat.reduceEqDiff]; assumption) | (simp only [mN_sF, mK_sF, mL_sF, mF_sF, mB_sF, mA_sF, mJ_sF, mP_sF, mO_sF, mN_sB, mK_sB, mL_sB, mF_sB, mB_sB, mA_sB, mJ_sB, mP_sB, mO_sB, mN_sA, mK_sA, mL_sA, mF_sA, mB_sA, mA_sA, mJ_sA, mP_sA, mO_sA, mN_sJ, mK_sJ, mL_sJ, mF_sJ, mB_sJ, mA_sJ, mJ_sJ, mP_sJ, mO_sJ, mN_sP, mK_sP, mL_sP, mF_sP, mB_sP, mA_sP, mJ_sP, mP_sP, mO_sP, mN_sO, mK_sO, mL_sO, mF_sO, mB_sO, mA_sO, mJ_sO, mP_sO, mO_sO, up2, if_true, if_false, eq_self, ite_true, ite_false, reduceIte, Nat.add_left_cancel_iff, Nat.add_eq_left, Nat.left_eq_add, Nat.reduceEqDiff]; done)) ?_ | refine e_iald 164 rfl dX10_shape_163 (by assumption) (by assumption) (by first | rfl | simp only [pk_mul, nI_add]) (by omega) (by omega) ?_
    refine e_iast 165 rfl dX10_shape_164 (by assumption) (by assumption) (by first | rfl | simp only [pk_mul, nI_add]) (by omega) (by omega) ?_
    refine e_al0 166 rfl dX10_shape_165 ?_
    refine e_getR 169 rfl dX10_shape_166 f_X10_44 (by assumption) (by assumption) ?_
    refine e_il1 170 rfl dX10_shape_169 ?_
    refine e_al0 171 rfl dX10_shape_170 ?_
    refine e_getR 174 rfl dX10_shape_171 f_X10_93 (by assumption) (by assumption) ?_
    refine e_iconst (nI 1) 175 rfl dX10_shape_174 ic_1 ?_
    first | refine e_ialdv 176 rfl dX10_shape_175 (by assumption) (by assumption) (by first | rfl | simp only [pk_mul, nI_add]) (by omega) (by omega) (by first | assumption | (simp only [mN_sF, mK_sF, mL_sF, mF_sF, mB_sF, mA_sF, mJ_sF, mP_sF, mO_sF, mN_sB, mK_sB, mL_sB, mF_sB, mB_sB, mA_sB, mJ_sB, mP_sB, mO_sB, mN_sA, mK_sA, mL_sA, mF_sA, mB_sA, mA_sA, mJ_sA, mP_sA, mO_sA, mN_sJ, mK_sJ, mL_sJ, mF_sJ, mB_sJ, mA_sJ, mJ_sJ, mP_sJ, mO_sJ, mN_sP, mK_sP, mL_sP, mF_sP, mB_sP, mA_sP, mJ_sP, mP_sP, mO_sP, mN_sO, mK_sO, mL_sO, mF_sO, mB_sO, mA_sO, mJ_sO, mP_sO, mO_sO, up2, if_true, if_false, eq_self, ite_true, ite_false, reduceIte, Nat.add_left_cancel_iff, Nat.add_eq_left, Nat.left_eq_add, Nat.reduceEqDiff]; assumption) | (simp only [mN_sF, mK_sF, mL_sF, mF_sF, mB_sF, mA_sF, mJ_sF, mP_sF, mO_sF, mN_sB, mK_sB, mL_sB, mF_sB, mB_sB, mA_sB, mJ_sB, mP_sB, mO_sB, mN_sA, mK_sA, mL_sA, mF_sA, mB_sA, mA_sA, mJ_sA, mP_sA, mO_sA, mN_sJ, mK_sJ, mL_sJ, mF_sJ, mB_sJ, mA_sJ, mJ_sJ, mP_sJ, mO_sJ, mN_sP, mK_sP, mL_sP, mF_sP, mB_sP, mA_sP, mJ_sP, mP_sP, mO_sP, mN_sO, mK_sO, mL_sO, mF_sO, mB_sO, mA_sO, mJ_sO, mP_sO, mO_sO, up2, if_true, if_false, eq_self, ite_true, ite_false, reduceIte, Nat.add_left_cancel_iff, Nat.add_eq_left, Nat.left_eq_add, Nat.reduceEqDiff]; done)) ?_ | refine e_iald 176 rfl dX10_shape_175 (by assumption) (by assumption) (by first | rfl | simp only [pk_mul, nI_add]) (by omega) (by omega) ?_
    refine e_iast 177 rfl dX10_shape_176 (by assumption) (by assumption) (by first | rfl | simp only [pk_mul, nI_add]) (by omega) (by omega) ?_
    refine e_iconst (nI 0) 178 rfl dX10_shape_177 ic_0 ?_
    refine e_is3 179 rfl dX10_shape_178 (by decide) rfl ?_
    have hF2 : Fr S μ (sA (sA μ1 (m + 10) ld (nI y.2.1.length)) (m + 12) ld (nI y.2.2.1.length)) := (hF1.sA (Sq 10 (by omega) (by omega)) _ _).sA (Sq 12 (by omega) (by omega)) _ _
    have d1 : cpB m ld y μ (sA (sA μ1 (m + 10) ld (nI y.2.1.length)) (m + 12) ld (nI y.2.2.1.length)) := by unfold cpB; rw [sA_o (by omega), sA_o (by omega), mB_sA, mB_sA]; exact c1
    have d2 : cpS m ld y y.1.length μ (sA (sA μ1 (m + 10) ld (nI y.2.1.length)) (m + 12) ld (nI y.2.2.1.length)) := by unfold cpS; rw [sA_o (by omega), sA_o (by omega), sA_o (by omega), sA_o (by omega)]; exact c2
    have d3 : cpM m ld y μ (sA (sA μ1 (m + 10) ld (nI y.2.1.length)) (m + 12) ld (nI y.2.2.1.length)) := by unfold cpM; rw [sA_o (by omega), sA_s, sA_s, sA_o (by omega), ce (m + 10) (by omega) (by omega), ce (m + 12) (by omega) (by omega)]; exact ⟨rfl, rfl⟩
    have de : ∀ q, q = m + 11 ∨ q = m + 13 ∨ q = m + 14 ∨ q = m + 15 → mA (sA (sA μ1 (m + 10) ld (nI y.2.1.length)) (m + 12) ld (nI y.2.2.1.length)) q = mA μ q := fun q h => by rw [sA_o (by omega), sA_o (by omega)]; exact ce q (by omega) (by omega)
    clear v1
    generalize sA (sA μ1 (m + 10) ld (nI y.2.1.length)) (m + 12) ld (nI y.2.2.1.length) = μ2 at hF2 d1 d2 d3 de ⊢
    have loop : ∀ (fu j : Nat), j + fu = 7 → ∀ μ3, Fr S μ μ3 → cpB m ld y μ μ3 → cpS m ld y y.1.length μ μ3 → cpM m ld y μ μ3 → cpT m ld j μ μ3 → mA μ3 (m + 14) = mA μ (m + 14) → mA μ3 (m + 15) = mA μ (m + 15) → Ev E M_X10_shape 0 0 179 [some (.ref m), some (.int (nI ld)), some (.int (nI nn)), some (.int (nI j))] [] μ3 K := by
      intro fu
      induction fu with
      | zero =>
        intro j hj μ3 hF3 f1 f2 f3 f4 f5 f6
        refine e_il3 180 rfl dX10_shape_179 ?_
        refine e_bipush (nI 7) 182 rfl dX10_shape_180 bc_7 ?_
        first | refine e_cmp_geN 228 185 (by decide) rfl dX10_shape_182 rfl rfl (by omega) (by omega) (fun z9 => ?_) (fun z9 => ?_) | refine e_cmp_ge 228 185 (by decide) rfl dX10_shape_182 (fun z9 => ?_) (fun z9 => ?_)
        rotate_left
        · omega
        rw [show j = 7 by omega] at f4
        exact ph3 μ3 _ hF3 f1 f2 f3 f4 f5 f6
      | succ fu ih =>
        intro j hj μ3 hF3 f1 f2 f3 f4 f5 f6
        obtain ⟨mk3, h313, h363, hg3⟩ := kF' μ3 hF3
        obtain ⟨pb, kb, lb⟩ := hg3.sortBy
        obtain ⟨pd, kd, ld'⟩ := hg3.callBy
        obtain ⟨pr, kr, lr⟩ := hg3.rBy
        refine e_il3 180 rfl dX10_shape_179 ?_
        refine e_bipush (nI 7) 182 rfl dX10_shape_180 bc_7 ?_
        first | refine e_cmp_geN 228 185 (by decide) rfl dX10_shape_182 rfl rfl (by omega) (by omega) (fun z9 => ?_) (fun z9 => ?_) | refine e_cmp_ge 228 185 (by decide) rfl dX10_shape_182 (fun z9 => ?_) (fun z9 => ?_)
        · omega
        refine e_al0 186 rfl dX10_shape_185 ?_
        refine e_getR 189 rfl dX10_shape_186 f_X10_41 (by assumption) (by assumption) ?_
        refine e_bipush (nI 7) 191 rfl dX10_shape_189 bc_7 ?_
        refine e_il1 192 rfl dX10_shape_191 ?_
        first | refine e_imulN 193 rfl dX10_shape_192 rfl rfl ?_ | refine e_imul 193 rfl dX10_shape_192 ?_
        refine e_il3 194 rfl dX10_shape_193 ?_
        first | refine e_iaddN 195 rfl dX10_shape_194 rfl rfl ?_ | refine e_iadd 195 rfl dX10_shape_194 ?_
        refine e_al0 196 rfl dX10_shape_195 ?_
        refine e_getR 199 rfl dX10_shape_196 f_X10_90 (by assumption) (by assumption) ?_
        refine e_il3 200 rfl dX10_shape_199 ?_
        first | refine e_ialdv 201 rfl dX10_shape_200 (by assumption) (by assumption) (by first | rfl | simp only [pk_mul, nI_add]) (by omega) (by omega) (by first | assumption | (simp only [mN_sF, mK_sF, mL_sF, mF_sF, mB_sF, mA_sF, mJ_sF, mP_sF, mO_sF, mN_sB, mK_sB, mL_sB, mF_sB, mB_sB, mA_sB, mJ_sB, mP_sB, mO_sB, mN_sA, mK_sA, mL_sA, mF_sA, mB_sA, mA_sA, mJ_sA, mP_sA, mO_sA, mN_sJ, mK_sJ, mL_sJ, mF_sJ, mB_sJ, mA_sJ, mJ_sJ, mP_sJ, mO_sJ, mN_sP, mK_sP, mL_sP, mF_sP, mB_sP, mA_sP, mJ_sP, mP_sP, mO_sP, mN_sO, mK_sO, mL_sO, mF_sO, mB_sO, mA_sO, mJ_sO, mP_sO, mO_sO, up2, if_true, if_false, eq_self, ite_true, ite_false, reduceIte, Nat.add_left_cancel_iff, Nat.add_eq_left, Nat.left_eq_add, Nat.reduceEqDiff]; assumption) | (simp only [mN_sF, mK_sF, mL_sF, mF_sF, mB_sF, mA_sF, mJ_sF, mP_sF, mO_sF, mN_sB, mK_sB, mL_sB, mF_sB, mB_sB, mA_sB, mJ_sB, mP_sB, mO_sB, mN_sA, mK_sA, mL_sA, mF_sA, mB_sA, mA_sA, mJ_sA, mP_sA, mO_sA, mN_sJ, mK_sJ, mL_sJ, mF_sJ, mB_sJ, mA_sJ, mJ_sJ, mP_sJ, mO_sJ, mN_sP, mK_sP, mL_sP, mF_sP, mB_sP, mA_sP, mJ_sP, mP_sP, mO_sP, mN_sO, mK_sO, mL_sO, mF_sO, mB_sO, mA_sO, mJ_sO, mP_sO, mO_sO, up2, if_true, if_false, eq_self, ite_true, ite_false, reduceIte, Nat.add_left_cancel_iff, Nat.add_eq_left, Nat.left_eq_add, Nat.reduceEqDiff]; done)) ?_ | refine e_iald 201 rfl dX10_shape_200 (by assumption) (by assumption) (by first | rfl | simp only [pk_mul, nI_add]) (by omega) (by omega) ?_
        refine e_iast 202 rfl dX10_shape_201 (by assumption) (by assumption) (by first | rfl | simp only [pk_mul, nI_add]) (by omega) (by omega) ?_
        refine e_al0 203 rfl dX10_shape_202 ?_
        refine e_getR 206 rfl dX10_shape_203 f_X10_47 (by assumption) (by assumption) ?_
        refine e_bipush (nI 7) 208 rfl dX10_shape_206 bc_7 ?_
        refine e_il1 209 rfl dX10_shape_208 ?_
        first | refine e_imulN 210 rfl dX10_shape_209 rfl rfl ?_ | refine e_imul 210 rfl dX10_shape_209 ?_
        refine e_il3 211 rfl dX10_shape_210 ?_
        first | refine e_iaddN 212 rfl dX10_shape_211 rfl rfl ?_ | refine e_iadd 212 rfl dX10_shape_211 ?_
        refine e_al0 213 rfl dX10_shape_212 ?_
        refine e_getR 216 rfl dX10_shape_213 f_X10_90 (by assumption) (by assumption) ?_
        refine e_bipush (nI 7) 218 rfl dX10_shape_216 bc_7 ?_
        refine e_il3 219 rfl dX10_shape_218 ?_
        first | refine e_iaddN 220 rfl dX10_shape_219 rfl rfl ?_ | refine e_iadd 220 rfl dX10_shape_219 ?_
        first | refine e_ialdv 221 rfl dX10_shape_220 (by assumption) (by assumption) (by first | rfl | simp only [pk_mul, nI_add]) (by omega) (by omega) (by first | assumption | (simp only [mN_sF, mK_sF, mL_sF, mF_sF, mB_sF, mA_sF, mJ_sF, mP_sF, mO_sF, mN_sB, mK_sB, mL_sB, mF_sB, mB_sB, mA_sB, mJ_sB, mP_sB, mO_sB, mN_sA, mK_sA, mL_sA, mF_sA, mB_sA, mA_sA, mJ_sA, mP_sA, mO_sA, mN_sJ, mK_sJ, mL_sJ, mF_sJ, mB_sJ, mA_sJ, mJ_sJ, mP_sJ, mO_sJ, mN_sP, mK_sP, mL_sP, mF_sP, mB_sP, mA_sP, mJ_sP, mP_sP, mO_sP, mN_sO, mK_sO, mL_sO, mF_sO, mB_sO, mA_sO, mJ_sO, mP_sO, mO_sO, up2, if_true, if_false, eq_self, ite_true, ite_false, reduceIte, Nat.add_left_cancel_iff, Nat.add_eq_left, Nat.left_eq_add, Nat.reduceEqDiff]; assumption) | (simp only [mN_sF, mK_sF, mL_sF, mF_sF, mB_sF, mA_sF, mJ_sF, mP_sF, mO_sF, mN_sB, mK_sB, mL_sB, mF_sB, mB_sB, mA_sB, mJ_sB, mP_sB, mO_sB, mN_sA, mK_sA, mL_sA, mF_sA, mB_sA, mA_sA, mJ_sA, mP_sA, mO_sA, mN_sJ, mK_sJ, mL_sJ, mF_sJ, mB_sJ, mA_sJ, mJ_sJ, mP_sJ, mO_sJ, mN_sP, mK_sP, mL_sP, mF_sP, mB_sP, mA_sP, mJ_sP, mP_sP, mO_sP, mN_sO, mK_sO, mL_sO, mF_sO, mB_sO, mA_sO, mJ_sO, mP_sO, mO_sO, up2, if_true, if_false, eq_self, ite_true, ite_false, reduceIte, Nat.add_left_cancel_iff, Nat.add_eq_left, Nat.left_eq_add, Nat.reduceEqDiff]; done)) ?_ | refine e_iald 221 rfl dX10_shape_220 (by assumption) (by assumption) (by first | rfl | simp only [pk_mul, nI_add]) (by omega) (by omega) ?_
        refine e_iast 222 rfl dX10_shape_221 (by assumption) (by assumption) (by first | rfl | simp only [pk_mul, nI_add]) (by omega) (by omega) ?_
        refine e_ii3 (nI (_ + 1)) 225 rfl dX10_shape_222 (ii1 _) rfl ?_
        refine e_goto 179 (by decide) dX10_shape_225 ?_
        refine ih (j + 1) (by omega) _ ((hF3.sA (Sq 11 (by omega) (by omega)) _ _).sA (Sq 13 (by omega) (by omega)) _ _) ?_ ?_ ?_ ⟨?_, ?_⟩ ?_ ?_
        · unfold cpB; rw [mB_sA, mB_sA, sA_o (show m + 7 ≠ m + 13 by omega), sA_o (show m + 7 ≠ m + 11 by omega)]; exact f1
        · unfold cpS; rw [sA_o (by omega), sA_o (by omega), sA_o (by omega), sA_o (by omega)]; exact f2
        · unfold cpM; rw [sA_o (by omega), sA_o (by omega), sA_o (by omega), sA_o (by omega)]; exact f3
        · rw [sA_o (by omega), sA_s]; exact upR_push f4.1 (by rw [kA μ3 hF3 (m + 26) (by omega)])
        · rw [sA_s]; exact upR_push ((sA_o (show m + 13 ≠ m + 11 by omega)).trans f4.2) (by rw [sA_o (show m + 26 ≠ m + 11 by omega), kA μ3 hF3 (m + 26) (by omega)])
        · rw [sA_o (by omega), sA_o (by omega)]; exact f5
        · rw [sA_o (by omega), sA_o (by omega)]; exact f6
    exact loop 7 0 (by omega) μ2 hF2 d1 d2 d3 ⟨by rw [upR_0]; exact de _ (by omega), by rw [upR_0]; exact de _ (by omega)⟩ (de _ (by omega)) (de _ (by omega))
  -- has, slots
  have mk := hg.1
  obtain ⟨ph, kh, lh⟩ := hg.has
  obtain ⟨pz, kz, lz⟩ := hg.slots
  have mk1 : mK (sB μ (m + 6) ld (nI 1)) m = 11 := mk
  have h311 : mF (sB μ (m + 6) ld (nI 1)) m 31 = nI y.1.length := h31
  refine e_al0 87 rfl dX10_shape_86 ?_
  refine e_getR 90 rfl dX10_shape_87 f_X10_25 (by assumption) (by assumption) ?_
  refine e_il1 91 rfl dX10_shape_90 ?_
  refine e_iconst (nI 1) 92 rfl dX10_shape_91 ic_1 ?_
  first | refine e_bast 93 rfl dX10_shape_92 (by assumption) (by assumption) (by first | rfl | simp only [pk_mul, nI_add]) (by omega) (by omega) ?_ | refine e_zast 93 rfl dX10_shape_92 (by assumption) (by assumption) (by first | rfl | simp only [pk_mul, nI_add]) (by omega) (by omega) (by first | exact z0 | exact z1 | exact bI01 _ | assumption) ?_
  refine e_al0 94 rfl dX10_shape_93 ?_
  refine e_getR 97 rfl dX10_shape_94 f_X10_29 (by assumption) (by assumption) ?_
  refine e_il1 98 rfl dX10_shape_97 ?_
  refine e_al0 99 rfl dX10_shape_98 ?_
  first | refine e_getIv 102 rfl dX10_shape_99 f_X10_141 (by assumption) (by first | assumption | (simp only [mN_sF, mK_sF, mL_sF, mF_sF, mB_sF, mA_sF, mJ_sF, mP_sF, mO_sF, mN_sB, mK_sB, mL_sB, mF_sB, mB_sB, mA_sB, mJ_sB, mP_sB, mO_sB, mN_sA, mK_sA, mL_sA, mF_sA, mB_sA, mA_sA, mJ_sA, mP_sA, mO_sA, mN_sJ, mK_sJ, mL_sJ, mF_sJ, mB_sJ, mA_sJ, mJ_sJ, mP_sJ, mO_sJ, mN_sP, mK_sP, mL_sP, mF_sP, mB_sP, mA_sP, mJ_sP, mP_sP, mO_sP, mN_sO, mK_sO, mL_sO, mF_sO, mB_sO, mA_sO, mJ_sO, mP_sO, mO_sO, up2, if_true, if_false, eq_self, ite_true, ite_false, reduceIte, Nat.add_left_cancel_iff, Nat.add_eq_left, Nat.left_eq_add, Nat.reduceEqDiff]; assumption) | (simp only [mN_sF, mK_sF, mL_sF, mF_sF, mB_sF, mA_sF, mJ_sF, mP_sF, mO_sF, mN_sB, mK_sB, mL_sB, mF_sB, mB_sB, mA_sB, mJ_sB, mP_sB, mO_sB, mN_sA, mK_sA, mL_sA, mF_sA, mB_sA, mA_sA, mJ_sA, mP_sA, mO_sA, mN_sJ, mK_sJ, mL_sJ, mF_sJ, mB_sJ, mA_sJ, mJ_sJ, mP_sJ, mO_sJ, mN_sP, mK_sP, mL_sP, mF_sP, mB_sP, mA_sP, mJ_sP, mP_sP, mO_sP, mN_sO, mK_sO, mL_sO, mF_sO, mB_sO, mA_sO, mJ_sO, mP_sO, mO_sO, up2, if_true, if_false, eq_self, ite_true, ite_false, reduceIte, Nat.add_left_cancel_iff, Nat.add_eq_left, Nat.left_eq_add, Nat.reduceEqDiff]; done)) ?_ | refine e_getI 102 rfl dX10_shape_99 f_X10_141 (by assumption) ?_
  refine e_iast 103 rfl dX10_shape_102 (by assumption) (by assumption) (by first | rfl | simp only [pk_mul, nI_add]) (by omega) (by omega) ?_
  refine e_iconst (nI 0) 104 rfl dX10_shape_103 ic_0 ?_
  refine e_is3 105 rfl dX10_shape_104 (by decide) rfl ?_
  have hF2 : Fr S μ (sA (sB μ (m + 6) ld (nI 1)) (m + 7) ld (nI y.1.length)) := ((Fr.rf (S := S)).sB (Sq 6 (by omega) (by omega)) _ _).sA (Sq 7 (by omega) (by omega)) _ _
  have d1 : cpB m ld y μ (sA (sB μ (m + 6) ld (nI 1)) (m + 7) ld (nI y.1.length)) := by
    unfold cpB
    rw [mB_sA, sB_s, sA_s]
    exact ⟨rfl, rfl⟩
  have de : ∀ q, m + 8 ≤ q → mA (sA (sB μ (m + 6) ld (nI 1)) (m + 7) ld (nI y.1.length)) q = mA μ q := fun q h => by rw [sA_o (by omega)]; rfl
  clear mk1 h311
  generalize sA (sB μ (m + 6) ld (nI 1)) (m + 7) ld (nI y.1.length) = μ2 at hF2 d1 de ⊢
  have loop : ∀ (fu j : Nat), j + fu = y.1.length → ∀ μ3, Fr S μ μ3 → cpB m ld y μ μ3 → cpS m ld y j μ μ3 → (∀ q, m + 10 ≤ q → q ≤ m + 15 → mA μ3 q = mA μ q) → Ev E M_X10_shape 0 0 105 [some (.ref m), some (.int (nI ld)), some (.int (nI nn)), some (.int (nI j))] [] μ3 K := by
    intro fu
    induction fu with
    | zero =>
      intro j hj μ3 hF3 f1 f2 f3
      obtain ⟨mk3, h313, h363, hg3⟩ := kF' μ3 hF3
      refine e_il3 106 rfl dX10_shape_105 ?_
      refine e_al0 107 rfl dX10_shape_106 ?_
      first | refine e_getIv 110 rfl dX10_shape_107 f_X10_141 (by assumption) (by first | assumption | (simp only [mN_sF, mK_sF, mL_sF, mF_sF, mB_sF, mA_sF, mJ_sF, mP_sF, mO_sF, mN_sB, mK_sB, mL_sB, mF_sB, mB_sB, mA_sB, mJ_sB, mP_sB, mO_sB, mN_sA, mK_sA, mL_sA, mF_sA, mB_sA, mA_sA, mJ_sA, mP_sA, mO_sA, mN_sJ, mK_sJ, mL_sJ, mF_sJ, mB_sJ, mA_sJ, mJ_sJ, mP_sJ, mO_sJ, mN_sP, mK_sP, mL_sP, mF_sP, mB_sP, mA_sP, mJ_sP, mP_sP, mO_sP, mN_sO, mK_sO, mL_sO, mF_sO, mB_sO, mA_sO, mJ_sO, mP_sO, mO_sO, up2, if_true, if_false, eq_self, ite_true, ite_false, reduceIte, Nat.add_left_cancel_iff, Nat.add_eq_left, Nat.left_eq_add, Nat.reduceEqDiff]; assumption) | (simp only [mN_sF, mK_sF, mL_sF, mF_sF, mB_sF, mA_sF, mJ_sF, mP_sF, mO_sF, mN_sB, mK_sB, mL_sB, mF_sB, mB_sB, mA_sB, mJ_sB, mP_sB, mO_sB, mN_sA, mK_sA, mL_sA, mF_sA, mB_sA, mA_sA, mJ_sA, mP_sA, mO_sA, mN_sJ, mK_sJ, mL_sJ, mF_sJ, mB_sJ, mA_sJ, mJ_sJ, mP_sJ, mO_sJ, mN_sP, mK_sP, mL_sP, mF_sP, mB_sP, mA_sP, mJ_sP, mP_sP, mO_sP, mN_sO, mK_sO, mL_sO, mF_sO, mB_sO, mA_sO, mJ_sO, mP_sO, mO_sO, up2, if_true, if_false, eq_self, ite_true, ite_false, reduceIte, Nat.add_left_cancel_iff, Nat.add_eq_left, Nat.left_eq_add, Nat.reduceEqDiff]; done)) ?_ | refine e_getI 110 rfl dX10_shape_107 f_X10_141 (by assumption) ?_
      first | refine e_cmp_geN 153 113 (by decide) rfl dX10_shape_110 rfl rfl (by omega) (by omega) (fun z9 => ?_) (fun z9 => ?_) | refine e_cmp_ge 153 113 (by decide) rfl dX10_shape_110 (fun z9 => ?_) (fun z9 => ?_)
      rotate_left
      · omega
      rw [show j = y.1.length by omega] at f2
      exact ph2 μ3 _ hF3 f1 f2 f3
    | succ fu ih =>
      intro j hj μ3 hF3 f1 f2 f3
      obtain ⟨mk3, h313, h363, hg3⟩ := kF' μ3 hF3
      obtain ⟨pb, kb, lb⟩ := hg3.slotKind
      obtain ⟨pd, kd, ld'⟩ := hg3.slotHow
      obtain ⟨pr, kr, lr⟩ := hg3.rKind
      obtain ⟨ps, ks, ls⟩ := hg3.rHow
      refine e_il3 106 rfl dX10_shape_105 ?_
      refine e_al0 107 rfl dX10_shape_106 ?_
      first | refine e_getIv 110 rfl dX10_shape_107 f_X10_141 (by assumption) (by first | assumption | (simp only [mN_sF, mK_sF, mL_sF, mF_sF, mB_sF, mA_sF, mJ_sF, mP_sF, mO_sF, mN_sB, mK_sB, mL_sB, mF_sB, mB_sB, mA_sB, mJ_sB, mP_sB, mO_sB, mN_sA, mK_sA, mL_sA, mF_sA, mB_sA, mA_sA, mJ_sA, mP_sA, mO_sA, mN_sJ, mK_sJ, mL_sJ, mF_sJ, mB_sJ, mA_sJ, mJ_sJ, mP_sJ, mO_sJ, mN_sP, mK_sP, mL_sP, mF_sP, mB_sP, mA_sP, mJ_sP, mP_sP, mO_sP, mN_sO, mK_sO, mL_sO, mF_sO, mB_sO, mA_sO, mJ_sO, mP_sO, mO_sO, up2, if_true, if_false, eq_self, ite_true, ite_false, reduceIte, Nat.add_left_cancel_iff, Nat.add_eq_left, Nat.left_eq_add, Nat.reduceEqDiff]; assumption) | (simp only [mN_sF, mK_sF, mL_sF, mF_sF, mB_sF, mA_sF, mJ_sF, mP_sF, mO_sF, mN_sB, mK_sB, mL_sB, mF_sB, mB_sB, mA_sB, mJ_sB, mP_sB, mO_sB, mN_sA, mK_sA, mL_sA, mF_sA, mB_sA, mA_sA, mJ_sA, mP_sA, mO_sA, mN_sJ, mK_sJ, mL_sJ, mF_sJ, mB_sJ, mA_sJ, mJ_sJ, mP_sJ, mO_sJ, mN_sP, mK_sP, mL_sP, mF_sP, mB_sP, mA_sP, mJ_sP, mP_sP, mO_sP, mN_sO, mK_sO, mL_sO, mF_sO, mB_sO, mA_sO, mJ_sO, mP_sO, mO_sO, up2, if_true, if_false, eq_self, ite_true, ite_false, reduceIte, Nat.add_left_cancel_iff, Nat.add_eq_left, Nat.left_eq_add, Nat.reduceEqDiff]; done)) ?_ | refine e_getI 110 rfl dX10_shape_107 f_X10_141 (by assumption) ?_
      first | refine e_cmp_geN 153 113 (by decide) rfl dX10_shape_110 rfl rfl (by omega) (by omega) (fun z9 => ?_) (fun z9 => ?_) | refine e_cmp_ge 153 113 (by decide) rfl dX10_shape_110 (fun z9 => ?_) (fun z9 => ?_)
      · omega
      refine e_al0 114 rfl dX10_shape_113 ?_
      refine e_getR 117 rfl dX10_shape_114 f_X10_32 (by assumption) (by assumption) ?_
      refine e_bipush (nI 8) 119 rfl dX10_shape_117 bc_8 ?_
      refine e_il1 120 rfl dX10_shape_119 ?_
      first | refine e_imulN 121 rfl dX10_shape_120 rfl rfl ?_ | refine e_imul 121 rfl dX10_shape_120 ?_
      refine e_il3 122 rfl dX10_shape_121 ?_
      first | refine e_iaddN 123 rfl dX10_shape_122 rfl rfl ?_ | refine e_iadd 123 rfl dX10_shape_122 ?_
      refine e_al0 124 rfl dX10_shape_123 ?_
      refine e_getR 127 rfl dX10_shape_124 f_X10_84 (by assumption) (by assumption) ?_
      refine e_il3 128 rfl dX10_shape_127 ?_
      first | refine e_ialdv 129 rfl dX10_shape_128 (by assumption) (by assumption) (by first | rfl | simp only [pk_mul, nI_add]) (by omega) (by omega) (by first | assumption | (simp only [mN_sF, mK_sF, mL_sF, mF_sF, mB_sF, mA_sF, mJ_sF, mP_sF, mO_sF, mN_sB, mK_sB, mL_sB, mF_sB, mB_sB, mA_sB, mJ_sB, mP_sB, mO_sB, mN_sA, mK_sA, mL_sA, mF_sA, mB_sA, mA_sA, mJ_sA, mP_sA, mO_sA, mN_sJ, mK_sJ, mL_sJ, mF_sJ, mB_sJ, mA_sJ, mJ_sJ, mP_sJ, mO_sJ, mN_sP, mK_sP, mL_sP, mF_sP, mB_sP, mA_sP, mJ_sP, mP_sP, mO_sP, mN_sO, mK_sO, mL_sO, mF_sO, mB_sO, mA_sO, mJ_sO, mP_sO, mO_sO, up2, if_true, if_false, eq_self, ite_true, ite_false, reduceIte, Nat.add_left_cancel_iff, Nat.add_eq_left, Nat.left_eq_add, Nat.reduceEqDiff]; assumption) | (simp only [mN_sF, mK_sF, mL_sF, mF_sF, mB_sF, mA_sF, mJ_sF, mP_sF, mO_sF, mN_sB, mK_sB, mL_sB, mF_sB, mB_sB, mA_sB, mJ_sB, mP_sB, mO_sB, mN_sA, mK_sA, mL_sA, mF_sA, mB_sA, mA_sA, mJ_sA, mP_sA, mO_sA, mN_sJ, mK_sJ, mL_sJ, mF_sJ, mB_sJ, mA_sJ, mJ_sJ, mP_sJ, mO_sJ, mN_sP, mK_sP, mL_sP, mF_sP, mB_sP, mA_sP, mJ_sP, mP_sP, mO_sP, mN_sO, mK_sO, mL_sO, mF_sO, mB_sO, mA_sO, mJ_sO, mP_sO, mO_sO, up2, if_true, if_false, eq_self, ite_true, ite_false, reduceIte, Nat.add_left_cancel_iff, Nat.add_eq_left, Nat.left_eq_add, Nat.reduceEqDiff]; done)) ?_ | refine e_iald 129 rfl dX10_shape_128 (by assumption) (by assumption) (by first | rfl | simp only [pk_mul, nI_add]) (by omega) (by omega) ?_
      refine e_iast 130 rfl dX10_shape_129 (by assumption) (by assumption) (by first | rfl | simp only [pk_mul, nI_add]) (by omega) (by omega) ?_
      refine e_al0 131 rfl dX10_shape_130 ?_
      refine e_getR 134 rfl dX10_shape_131 f_X10_35 (by assumption) (by assumption) ?_
      refine e_bipush (nI 8) 136 rfl dX10_shape_134 bc_8 ?_
      refine e_il1 137 rfl dX10_shape_136 ?_
      first | refine e_imulN 138 rfl dX10_shape_137 rfl rfl ?_ | refine e_imul 138 rfl dX10_shape_137 ?_
      refine e_il3 139 rfl dX10_shape_138 ?_
      first | refine e_iaddN 140 rfl dX10_shape_139 rfl rfl ?_ | refine e_iadd 140 rfl dX10_shape_139 ?_
      refine e_al0 141 rfl dX10_shape_140 ?_
      refine e_getR 144 rfl dX10_shape_141 f_X10_87 (by assumption) (by assumption) ?_
      refine e_il3 145 rfl dX10_shape_144 ?_
      first | refine e_ialdv 146 rfl dX10_shape_145 (by assumption) (by assumption) (by first | rfl | simp only [pk_mul, nI_add]) (by omega) (by omega) (by first | assumption | (simp only [mN_sF, mK_sF, mL_sF, mF_sF, mB_sF, mA_sF, mJ_sF, mP_sF, mO_sF, mN_sB, mK_sB, mL_sB, mF_sB, mB_sB, mA_sB, mJ_sB, mP_sB, mO_sB, mN_sA, mK_sA, mL_sA, mF_sA, mB_sA, mA_sA, mJ_sA, mP_sA, mO_sA, mN_sJ, mK_sJ, mL_sJ, mF_sJ, mB_sJ, mA_sJ, mJ_sJ, mP_sJ, mO_sJ, mN_sP, mK_sP, mL_sP, mF_sP, mB_sP, mA_sP, mJ_sP, mP_sP, mO_sP, mN_sO, mK_sO, mL_sO, mF_sO, mB_sO, mA_sO, mJ_sO, mP_sO, mO_sO, up2, if_true, if_false, eq_self, ite_true, ite_false, reduceIte, Nat.add_left_cancel_iff, Nat.add_eq_left, Nat.left_eq_add, Nat.reduceEqDiff]; assumption) | (simp only [mN_sF, mK_sF, mL_sF, mF_sF, mB_sF, mA_sF, mJ_sF, mP_sF, mO_sF, mN_sB, mK_sB, mL_sB, mF_sB, mB_sB, mA_sB, mJ_sB, mP_sB, mO_sB, mN_sA, mK_sA, mL_sA, mF_sA, mB_sA, mA_sA, mJ_sA, mP_sA, mO_sA, mN_sJ, mK_sJ, mL_sJ, mF_sJ, mB_sJ, mA_sJ, mJ_sJ, mP_sJ, mO_sJ, mN_sP, mK_sP, mL_sP, mF_sP, mB_sP, mA_sP, mJ_sP, mP_sP, mO_sP, mN_sO, mK_sO, mL_sO, mF_sO, mB_sO, mA_sO, mJ_sO, mP_sO, mO_sO, up2, if_true, if_false, eq_self, ite_true, ite_false, reduceIte, Nat.add_left_cancel_iff, Nat.add_eq_left, Nat.left_eq_add, Nat.reduceEqDiff]; done)) ?_ | refine e_iald 146 rfl dX10_shape_145 (by assumption) (by assumption) (by first | rfl | simp only [pk_mul, nI_add]) (by omega) (by omega) ?_
      refine e_iast 147 rfl dX10_shape_146 (by assumption) (by assumption) (by first | rfl | simp only [pk_mul, nI_add]) (by omega) (by omega) ?_
      refine e_ii3 (nI (_ + 1)) 150 rfl dX10_shape_147 (ii1 _) rfl ?_
      refine e_goto 105 (by decide) dX10_shape_150 ?_
      refine ih (j + 1) (by omega) _ ((hF3.sA (Sq 8 (by omega) (by omega)) _ _).sA (Sq 9 (by omega) (by omega)) _ _) ?_ ⟨?_, ?_⟩ (fun q a b => ?_)
      · unfold cpB; rw [mB_sA, mB_sA, sA_o (show m + 7 ≠ m + 9 by omega), sA_o (show m + 7 ≠ m + 8 by omega)]; exact f1
      · rw [sA_o (by omega), sA_s]; exact upR_push f2.1 (by rw [kA μ3 hF3 (m + 24) (by omega)])
      · rw [sA_s]; exact upR_push ((sA_o (show m + 9 ≠ m + 8 by omega)).trans f2.2) (by rw [sA_o (show m + 25 ≠ m + 8 by omega), kA μ3 hF3 (m + 25) (by omega)])
      · rw [sA_o (by omega), sA_o (by omega)]; exact f3 q a b
  exact loop y.1.length 0 (by omega) μ2 hF2 d1 ⟨by rw [upR_0]; exact de _ (by omega), by rw [upR_0]; exact de _ (by omega)⟩ (fun q a b => de q (by omega))
theorem m_shape {m : Nat} {S : Ast} {x n : Int32} (hW : WF S) (hM : MI m S μ) (k : ∀ μ', MF m μ μ' → MI m (q_shape S x n).2 μ' → K (some (.int (q_shape S x n).1)) μ') : Cl E M_X10_shape [.ref m, .int x, .int n] μ K := by
  have mk0 := hM.1.1
  have hM1 := hM.thr (nI 0)
  have f1 : MF m μ (sF μ m 2 (nI 0)) := MF.thr _
  have h400 := hW.1.1
  unfold q_shape at k
  have failL : okL x = none → ∀ μ2, MF m μ μ2 → MI m S μ2 → K (some (.int (-2))) μ2 := fun h μ2 h1 h2 => by rw [h] at k; exact k μ2 h1 h2
  have failH : okH (aT S) n = none → ∀ μ2, MF m μ μ2 → MI m S μ2 → K (some (.int (-2))) μ2 := fun h μ2 h1 h2 => by
    rw [h] at k
    cases e : okL x with
    | none => rw [e] at k; exact k μ2 h1 h2
    | some i => rw [e] at k; exact k μ2 h1 h2
  refine Cl.of0 1 pn_X10 (Nat.le_of_ble_eq_true rfl) ⟨rfl, rfl⟩ rfl ?_
  refine e_al0 1 rfl dX10_shape_0 ?_
  refine e_iconst (nI 0) 2 rfl dX10_shape_1 ic_0 ?_
  refine e_putI 5 rfl dX10_shape_2 f_X10_126 (by assumption) ?_
  generalize sF μ m 2 (nI 0) = μ1 at hM1 f1 ⊢
  have mk := hM1.1.1
  have t1 := hM1.2.1.1
  rcases okL_cases x with ⟨hx, qx⟩ | ⟨ld, hl31, hx, ⟨hl, qx⟩ | ⟨hl, qx⟩⟩
  · refine e_il1 6 rfl dX10_shape_5 ?_
    refine e_if_lt 26 9 (by decide) rfl dX10_shape_6 (fun y1 => ?_) (fun y1 => ?_)
    · refine e_bipush (-2) 28 rfl dX10_shape_26 bc_m2 ?_
      refine e_iret dX10_shape_28 rfl ?_
      exact failL qx μ1 f1 hM1
    · exact absurd hx y1
  · subst hx
    refine e_il1 6 rfl dX10_shape_5 ?_
    first | refine e_if_ltN 26 9 (by decide) rfl dX10_shape_6 rfl (by omega) ?_ | refine e_if_lt 26 9 (by decide) rfl dX10_shape_6 (fun h => ?_) (fun h => ?_)
    refine e_il1 10 rfl dX10_shape_9 ?_
    refine e_iconst (nI 5) 11 rfl dX10_shape_10 ic_5 ?_
    first | refine e_cmp_gtN 26 14 (by decide) rfl dX10_shape_11 rfl rfl (by omega) (by omega) (fun y1 => ?_) (fun y1 => ?_) | refine e_cmp_gt 26 14 (by decide) rfl dX10_shape_11 (fun y1 => ?_) (fun y1 => ?_)
    · refine e_bipush (-2) 28 rfl dX10_shape_26 bc_m2 ?_
      refine e_iret dX10_shape_28 rfl ?_
      exact failL qx μ1 f1 hM1
    · omega
  subst hx
  rw [qx] at k
  refine e_il1 6 rfl dX10_shape_5 ?_
  first | refine e_if_ltN 26 9 (by decide) rfl dX10_shape_6 rfl (by omega) ?_ | refine e_if_lt 26 9 (by decide) rfl dX10_shape_6 (fun h => ?_) (fun h => ?_)
  refine e_il1 10 rfl dX10_shape_9 ?_
  refine e_iconst (nI 5) 11 rfl dX10_shape_10 ic_5 ?_
  first | refine e_cmp_gtN 26 14 (by decide) rfl dX10_shape_11 rfl rfl (by omega) (by omega) (fun y1 => ?_) (fun y1 => ?_) | refine e_cmp_gt 26 14 (by decide) rfl dX10_shape_11 (fun y1 => ?_) (fun y1 => ?_)
  · omega
  rcases okH_cases (aT S) n with ⟨hn, qn⟩ | ⟨nn, hn31, hn, ⟨hh, qn⟩ | ⟨hh, qn⟩⟩
  · refine e_il2 15 rfl dX10_shape_14 ?_
    refine e_if_lt 26 18 (by decide) rfl dX10_shape_15 (fun y2 => ?_) (fun y2 => ?_)
    · refine e_bipush (-2) 28 rfl dX10_shape_26 bc_m2 ?_
      refine e_iret dX10_shape_28 rfl ?_
      exact failH qn μ1 f1 hM1
    · exact absurd hn y2
  · subst hn
    refine e_il2 15 rfl dX10_shape_14 ?_
    first | refine e_if_ltN 26 18 (by decide) rfl dX10_shape_15 rfl (by omega) ?_ | refine e_if_lt 26 18 (by decide) rfl dX10_shape_15 (fun h => ?_) (fun h => ?_)
    refine e_il2 19 rfl dX10_shape_18 ?_
    refine e_al0 20 rfl dX10_shape_19 ?_
    first | refine e_getIv 23 rfl dX10_shape_20 f_X10_129 (by assumption) (by first | assumption | (simp only [mN_sF, mK_sF, mL_sF, mF_sF, mB_sF, mA_sF, mJ_sF, mP_sF, mO_sF, mN_sB, mK_sB, mL_sB, mF_sB, mB_sB, mA_sB, mJ_sB, mP_sB, mO_sB, mN_sA, mK_sA, mL_sA, mF_sA, mB_sA, mA_sA, mJ_sA, mP_sA, mO_sA, mN_sJ, mK_sJ, mL_sJ, mF_sJ, mB_sJ, mA_sJ, mJ_sJ, mP_sJ, mO_sJ, mN_sP, mK_sP, mL_sP, mF_sP, mB_sP, mA_sP, mJ_sP, mP_sP, mO_sP, mN_sO, mK_sO, mL_sO, mF_sO, mB_sO, mA_sO, mJ_sO, mP_sO, mO_sO, up2, if_true, if_false, eq_self, ite_true, ite_false, reduceIte, Nat.add_left_cancel_iff, Nat.add_eq_left, Nat.left_eq_add, Nat.reduceEqDiff]; assumption) | (simp only [mN_sF, mK_sF, mL_sF, mF_sF, mB_sF, mA_sF, mJ_sF, mP_sF, mO_sF, mN_sB, mK_sB, mL_sB, mF_sB, mB_sB, mA_sB, mJ_sB, mP_sB, mO_sB, mN_sA, mK_sA, mL_sA, mF_sA, mB_sA, mA_sA, mJ_sA, mP_sA, mO_sA, mN_sJ, mK_sJ, mL_sJ, mF_sJ, mB_sJ, mA_sJ, mJ_sJ, mP_sJ, mO_sJ, mN_sP, mK_sP, mL_sP, mF_sP, mB_sP, mA_sP, mJ_sP, mP_sP, mO_sP, mN_sO, mK_sO, mL_sO, mF_sO, mB_sO, mA_sO, mJ_sO, mP_sO, mO_sO, up2, if_true, if_false, eq_self, ite_true, ite_false, reduceIte, Nat.add_left_cancel_iff, Nat.add_eq_left, Nat.left_eq_add, Nat.reduceEqDiff]; done)) ?_ | refine e_getI 23 rfl dX10_shape_20 f_X10_129 (by assumption) ?_
    first | refine e_cmp_leN 29 26 (by decide) rfl dX10_shape_23 rfl rfl (by omega) (by omega) (fun y3 => ?_) (fun y3 => ?_) | refine e_cmp_le 29 26 (by decide) rfl dX10_shape_23 (fun y3 => ?_) (fun y3 => ?_)
    · omega
    refine e_bipush (-2) 28 rfl dX10_shape_26 bc_m2 ?_
    refine e_iret dX10_shape_28 rfl ?_
    exact failH qn μ1 f1 hM1
  subst hn
  rw [qn] at k
  simp only [] at k
  refine e_il2 15 rfl dX10_shape_14 ?_
  first | refine e_if_ltN 26 18 (by decide) rfl dX10_shape_15 rfl (by omega) ?_ | refine e_if_lt 26 18 (by decide) rfl dX10_shape_15 (fun h => ?_) (fun h => ?_)
  refine e_il2 19 rfl dX10_shape_18 ?_
  refine e_al0 20 rfl dX10_shape_19 ?_
  first | refine e_getIv 23 rfl dX10_shape_20 f_X10_129 (by assumption) (by first | assumption | (simp only [mN_sF, mK_sF, mL_sF, mF_sF, mB_sF, mA_sF, mJ_sF, mP_sF, mO_sF, mN_sB, mK_sB, mL_sB, mF_sB, mB_sB, mA_sB, mJ_sB, mP_sB, mO_sB, mN_sA, mK_sA, mL_sA, mF_sA, mB_sA, mA_sA, mJ_sA, mP_sA, mO_sA, mN_sJ, mK_sJ, mL_sJ, mF_sJ, mB_sJ, mA_sJ, mJ_sJ, mP_sJ, mO_sJ, mN_sP, mK_sP, mL_sP, mF_sP, mB_sP, mA_sP, mJ_sP, mP_sP, mO_sP, mN_sO, mK_sO, mL_sO, mF_sO, mB_sO, mA_sO, mJ_sO, mP_sO, mO_sO, up2, if_true, if_false, eq_self, ite_true, ite_false, reduceIte, Nat.add_left_cancel_iff, Nat.add_eq_left, Nat.left_eq_add, Nat.reduceEqDiff]; assumption) | (simp only [mN_sF, mK_sF, mL_sF, mF_sF, mB_sF, mA_sF, mJ_sF, mP_sF, mO_sF, mN_sB, mK_sB, mL_sB, mF_sB, mB_sB, mA_sB, mJ_sB, mP_sB, mO_sB, mN_sA, mK_sA, mL_sA, mF_sA, mB_sA, mA_sA, mJ_sA, mP_sA, mO_sA, mN_sJ, mK_sJ, mL_sJ, mF_sJ, mB_sJ, mA_sJ, mJ_sJ, mP_sJ, mO_sJ, mN_sP, mK_sP, mL_sP, mF_sP, mB_sP, mA_sP, mJ_sP, mP_sP, mO_sP, mN_sO, mK_sO, mL_sO, mF_sO, mB_sO, mA_sO, mJ_sO, mP_sO, mO_sO, up2, if_true, if_false, eq_self, ite_true, ite_false, reduceIte, Nat.add_left_cancel_iff, Nat.add_eq_left, Nat.left_eq_add, Nat.reduceEqDiff]; done)) ?_ | refine e_getI 23 rfl dX10_shape_20 f_X10_129 (by assumption) ?_
  first | refine e_cmp_leN 29 26 (by decide) rfl dX10_shape_23 rfl rfl (by omega) (by omega) (fun y3 => ?_) (fun y3 => ?_) | refine e_cmp_le 29 26 (by decide) rfl dX10_shape_23 (fun y3 => ?_) (fun y3 => ?_)
  rotate_left
  · omega
  refine e_al0 30 rfl dX10_shape_29 ?_
  refine e_iconst (nI 0) 31 rfl dX10_shape_30 ic_0 ?_
  refine e_putI 34 rfl dX10_shape_31 f_X10_135 (by assumption) ?_
  have mk2 : mK (sF μ1 m 29 (nI 0)) m = 11 := mk
  refine e_al0 35 rfl dX10_shape_34 ?_
  refine e_il2 36 rfl dX10_shape_35 ?_
  refine e_putI 39 rfl dX10_shape_36 f_X10_138 (by assumption) ?_
  have mk3 : mK (sF (sF μ1 m 29 (nI 0)) m 30 (nI nn)) m = 11 := mk
  refine e_al0 40 rfl dX10_shape_39 ?_
  refine e_iconst (nI 0) 41 rfl dX10_shape_40 ic_0 ?_
  refine e_putI 44 rfl dX10_shape_41 f_X10_129 (by assumption) ?_
  have mk4 : mK (sF (sF (sF μ1 m 29 (nI 0)) m 30 (nI nn)) m 1 (nI 0)) m = 11 := mk
  refine e_al0 45 rfl dX10_shape_44 ?_
  refine e_iconst (nI 0) 46 rfl dX10_shape_45 ic_0 ?_
  refine e_putI 49 rfl dX10_shape_46 f_X10_132 (by assumption) ?_
  have mk5 : mK (sF (sF (sF (sF μ1 m 29 (nI 0)) m 30 (nI nn)) m 1 (nI 0)) m 18 (nI 0)) m = 11 := mk
  refine e_al0 50 rfl dX10_shape_49 ?_
  refine e_iconst (-1) 51 rfl dX10_shape_50 ic_m1 ?_
  refine e_putI 54 rfl dX10_shape_51 f_X10_56 (by assumption) ?_
  have hF2 : Fr (fun q => q = m) μ1 (sF (sF (sF (sF (sF μ1 m 29 (nI 0)) m 30 (nI nn)) m 1 (nI 0)) m 18 (nI 0)) m 19 (-1)) := (((((Fr.rf (S := fun q => q = m)).sF rfl _ _).sF rfl _ _).sF rfl _ _).sF rfl _ _).sF rfl _ _
  have g29 : mF (sF (sF (sF (sF (sF μ1 m 29 (nI 0)) m 30 (nI nn)) m 1 (nI 0)) m 18 (nI 0)) m 19 (-1)) m 29 = nI 0 := by
    show up2 (up2 (up2 (up2 (up2 _ m 29 _) m 30 _) m 1 _) m 18 _) m 19 _ m 29 = _
    rw [up2_k (by decide), up2_k (by decide), up2_k (by decide), up2_k (by decide), up2_s]
  have g30 : mF (sF (sF (sF (sF (sF μ1 m 29 (nI 0)) m 30 (nI nn)) m 1 (nI 0)) m 18 (nI 0)) m 19 (-1)) m 30 = nI nn := by
    show up2 (up2 (up2 (up2 (up2 _ m 29 _) m 30 _) m 1 _) m 18 _) m 19 _ m 30 = _
    rw [up2_k (by decide), up2_k (by decide), up2_k (by decide), up2_s]
  have g1 : mF (sF (sF (sF (sF (sF μ1 m 29 (nI 0)) m 30 (nI nn)) m 1 (nI 0)) m 18 (nI 0)) m 19 (-1)) m 1 = nI 0 := by
    show up2 (up2 (up2 (up2 (up2 _ m 29 _) m 30 _) m 1 _) m 18 _) m 19 _ m 1 = _
    rw [up2_k (by decide), up2_k (by decide), up2_s]
  have g18 : mF (sF (sF (sF (sF (sF μ1 m 29 (nI 0)) m 30 (nI nn)) m 1 (nI 0)) m 18 (nI 0)) m 19 (-1)) m 18 = nI 0 := by
    show up2 (up2 (up2 (up2 (up2 _ m 29 _) m 30 _) m 1 _) m 18 _) m 19 _ m 18 = _
    rw [up2_k (by decide), up2_s]
  have g19 : mF (sF (sF (sF (sF (sF μ1 m 29 (nI 0)) m 30 (nI nn)) m 1 (nI 0)) m 18 (nI 0)) m 19 (-1)) m 19 = -1 := by
    show up2 (up2 (up2 (up2 (up2 _ m 29 _) m 30 _) m 1 _) m 18 _) m 19 _ m 19 = _
    rw [up2_s]
  have gx : ∀ f, f = 3 ∨ f = 20 → mF (sF (sF (sF (sF (sF μ1 m 29 (nI 0)) m 30 (nI nn)) m 1 (nI 0)) m 18 (nI 0)) m 19 (-1)) m f = mF μ1 m f := fun f hf => by
    show up2 (up2 (up2 (up2 (up2 _ m 29 _) m 30 _) m 1 _) m 18 _) m 19 _ m f = _
    rw [up2_k (by omega), up2_k (by omega), up2_k (by omega), up2_k (by omega), up2_k (by omega)]
  clear mk2 mk3 mk4 mk5
  generalize sF (sF (sF (sF (sF μ1 m 29 (nI 0)) m 30 (nI nn)) m 1 (nI 0)) m 18 (nI 0)) m 19 (-1) = μ2 at hF2 g29 g30 g1 g18 g19 gx ⊢
  obtain ⟨l, hlE⟩ : ∃ l, l = (aT S).take nn := ⟨_, rfl⟩
  have hll : l.length = nn := by rw [hlE, List.length_take]; omega
  rw [← hlE] at k
  have hMx : Mx μ2 m l 0 := by
    refine ⟨hM1.1.fr hF2, g29, by rw [hll]; exact g30, fun i c hi => ?_, by omega, fun c hc => hW.1.2 c (by rw [hlE] at hc; exact List.mem_of_mem_take hc), by omega⟩
    have hil := (List.getElem?_eq_some_iff.mp hi).1
    rw [hlE, List.getElem?_take_of_lt (by omega)] at hi
    rw [(hF2.2.2.2.2.2 (m + 1) (by omega)).2.2.1]
    exact hM1.2.1.2 i c hi
  have f2 : MF m μ μ2 := f1.trans (hF2.mono (fun q h => by omega))
  have hps := pShape_t l
  obtain ⟨h1, h2, ⟨es, he, h3⟩, h4, h5, h6, h7⟩ := id hM1
  -- what stays
  have stay : ∀ μ3, Fr (mQ m) μ2 μ3 → (∀ f, f = 1 ∨ f = 3 ∨ f = 20 → mF μ3 m f = mF μ2 m f) → Fr (mQ m) μ1 μ3 ∧ mTp μ3 m [] ∧ mBk μ3 m es ∧ mSh μ3 m (aS S) ∧ mNm μ3 m (aN S) ∧ mTb μ3 m (aL S) := fun μ3 hF3 hf3 => by
    have hF13 : Fr (mQ m) μ1 μ3 := (hF2.mono (S' := mQ m) (fun q h => Or.inl h)).trans hF3
    have nq : ∀ q, m + 1 ≤ q → q ≤ m + 23 → ¬ mQ m q := fun q a b => by unfold mQ; omega
    exact ⟨hF13, ⟨by rw [hf3 1 (by omega)]; exact g1, Hd.nil⟩, h3.fr hF13 (by rw [hf3 3 (by omega), gx 3 (by omega)]) (fun q a b => nq q (by omega) (by omega)), h4.fr hF13 (fun q a b => nq q (by omega) (by omega)), h6.fr hF13 (by rw [hf3 20 (by omega), gx 20 (by omega)]) (fun q a b => nq q (by omega) (by omega)), h7.fr hF13 (fun q a b => nq q (by omega) (by omega))⟩
  have bad : ∀ f p μ3, pShape l = .inl (f, p) → Fr (mQ m) μ2 μ3 → (∀ f, f = 1 ∨ f = 3 ∨ f = 20 → mF μ3 m f = mF μ2 m f) → Mflt μ3 m f p → K (some (.int (-1))) μ3 := fun f p μ3 hp hF3 hf3 hfl => by
    rw [hp] at k
    obtain ⟨hF13, a1, a2, a3, a4, a5⟩ := stay μ3 hF3 hf3
    exact k μ3 (f2.trans (mQ_MF hF3)) ⟨h1.fr hF13, a1, ⟨es, he, a2⟩, a3, ⟨hfl.1, hfl.2⟩, a4, a5⟩
  have mk2 := hMx.1.1
  have qt : ∀ μ3 μ4, Fr (trS m) μ3 μ4 → Fr (mQ m) μ3 μ4 := fun μ3 μ4 h => h.mono (fun q a => by unfold trS at a; unfold mQ; omega)
  have ql : ∀ μ3 μ4, Fr (ltS m) μ3 μ4 → Fr (mQ m) μ3 μ4 := fun μ3 μ4 h => h.mono (fun q a => by unfold ltS at a; unfold mQ; omega)
  have qe : ∀ μ3 μ4, Fr (enS m) μ3 μ4 → Fr (mQ m) μ3 μ4 := fun μ3 μ4 h => h.mono (fun q a => by unfold enS at a; unfold mQ; omega)
  refine e_al0 55 rfl dX10_shape_54 ?_
  refine e_invV0 [] 58 rfl dX10_shape_55 k_X10_159 mo_X10_slotsRead rm_X10_shape_X10_slotsRead ⟨rfl, rfl⟩ rfl rfl (by assumption) (Nat.le_of_ble_eq_true rfl) ?_
  refine c_slotsRead hMx (Nat.zero_le _) (fun p1 sl e1 μ3 hF3 hf3 hX3 hR3 => ?_) (fun f p e1 μ3 hF3 hf3 hfl => ?_)
  rotate_left
  · rw [e1] at hps
    first | refine e_if_eqB 84 61 (by decide) rfl dX10_shape_58 rfl (fun y4 => ?_) (fun y4 => ?_) | refine e_if_eqN 84 61 (by decide) rfl dX10_shape_58 rfl (by omega) (fun y4 => ?_) (fun y4 => ?_) | refine e_if_eq 84 61 (by decide) rfl dX10_shape_58 (fun y4 => ?_) (fun y4 => ?_)
    rotate_left
    · exact absurd y4 (by decide)
    refine e_iconst (-1) 85 rfl dX10_shape_84 ic_m1 ?_
    refine e_iret dX10_shape_85 rfl ?_
    exact bad f p μ3 hps (qt _ _ hF3) (fun f hf => hf3 f (by omega) (by omega) (by omega) (by omega)) hfl
  rw [e1] at hps
  simp only [] at hps
  have hp1 := pSl_le l 8 0 [] p1 sl e1
  obtain ⟨_, sl8, _⟩ := pSl_ok l 8 0 [] p1 sl e1 (fun s hs => by simp at hs)
  have mk3 := hX3.1.1
  first | refine e_if_eqB 84 61 (by decide) rfl dX10_shape_58 rfl (fun y4 => ?_) (fun y4 => ?_) | refine e_if_eqN 84 61 (by decide) rfl dX10_shape_58 rfl (by omega) (fun y4 => ?_) (fun y4 => ?_) | refine e_if_eq 84 61 (by decide) rfl dX10_shape_58 (fun y4 => ?_) (fun y4 => ?_)
  · exact absurd y4 (by decide)
  refine e_al0 62 rfl dX10_shape_61 ?_
  refine e_iconst (nI 0) 63 rfl dX10_shape_62 ic_0 ?_
  refine e_invV0 [_] 66 rfl dX10_shape_63 k_X10_163 mo_X10_lettersRead rm_X10_shape_X10_lettersRead ⟨rfl, rfl⟩ rfl rfl (by assumption) (Nat.le_of_ble_eq_true rfl) ?_
  refine c_lettersRead hX3 (by omega) (by omega) (fun p2 so e2 μ4 hF4 hf4 hX4 hR4 hu4 hv4 hp2 => ?_) (fun f p e2 μ4 hF4 hf4 hfl => ?_)
  rotate_left
  · rw [e2] at hps
    first | refine e_if_eqB 84 69 (by decide) rfl dX10_shape_66 rfl (fun y5 => ?_) (fun y5 => ?_) | refine e_if_eqN 84 69 (by decide) rfl dX10_shape_66 rfl (by omega) (fun y5 => ?_) (fun y5 => ?_) | refine e_if_eq 84 69 (by decide) rfl dX10_shape_66 (fun y5 => ?_) (fun y5 => ?_)
    rotate_left
    · exact absurd y5 (by decide)
    refine e_iconst (-1) 85 rfl dX10_shape_84 ic_m1 ?_
    refine e_iret dX10_shape_85 rfl ?_
    exact bad f p μ4 hps ((qt _ _ hF3).trans (ql _ _ hF4)) (fun f hf => by rw [hf4 f (by omega) (by omega) (by omega)]; exact hf3 f (by omega) (by omega)) hfl
  rw [e2] at hps
  simp only [] at hps
  have so7 := (pLt_le l 7 p1 [] p2 so e2).2.1
  have mk4 := hX4.1.1
  first | refine e_if_eqB 84 69 (by decide) rfl dX10_shape_66 rfl (fun y5 => ?_) (fun y5 => ?_) | refine e_if_eqN 84 69 (by decide) rfl dX10_shape_66 rfl (by omega) (fun y5 => ?_) (fun y5 => ?_) | refine e_if_eq 84 69 (by decide) rfl dX10_shape_66 (fun y5 => ?_) (fun y5 => ?_)
  · exact absurd y5 (by decide)
  refine e_al0 70 rfl dX10_shape_69 ?_
  refine e_iconst (nI 1) 71 rfl dX10_shape_70 ic_1 ?_
  refine e_invV0 [_] 74 rfl dX10_shape_71 k_X10_163 mo_X10_lettersRead rm_X10_shape_X10_lettersRead ⟨rfl, rfl⟩ rfl rfl (by assumption) (Nat.le_of_ble_eq_true rfl) ?_
  refine c_lettersRead hX4 (by omega) (by omega) (fun p3 ca e3 μ5 hF5 hf5 hX5 hR5 hu5 hv5 hp3 => ?_) (fun f p e3 μ5 hF5 hf5 hfl => ?_)
  rotate_left
  · rw [e3] at hps
    first | refine e_if_eqB 84 77 (by decide) rfl dX10_shape_74 rfl (fun y6 => ?_) (fun y6 => ?_) | refine e_if_eqN 84 77 (by decide) rfl dX10_shape_74 rfl (by omega) (fun y6 => ?_) (fun y6 => ?_) | refine e_if_eq 84 77 (by decide) rfl dX10_shape_74 (fun y6 => ?_) (fun y6 => ?_)
    rotate_left
    · exact absurd y6 (by decide)
    refine e_iconst (-1) 85 rfl dX10_shape_84 ic_m1 ?_
    refine e_iret dX10_shape_85 rfl ?_
    exact bad f p μ5 hps (((qt _ _ hF3).trans (ql _ _ hF4)).trans (ql _ _ hF5)) (fun f hf => by rw [hf5 f (by omega) (by omega) (by omega), hf4 f (by omega)]; exact hf3 f (by omega) (by omega)) hfl
  rw [e3] at hps
  simp only [] at hps
  have ca7 := (pLt_le l 7 p2 [] p3 ca e3).2.1
  have mk5 := hX5.1.1
  first | refine e_if_eqB 84 77 (by decide) rfl dX10_shape_74 rfl (fun y6 => ?_) (fun y6 => ?_) | refine e_if_eqN 84 77 (by decide) rfl dX10_shape_74 rfl (by omega) (fun y6 => ?_) (fun y6 => ?_) | refine e_if_eq 84 77 (by decide) rfl dX10_shape_74 (fun y6 => ?_) (fun y6 => ?_)
  · exact absurd y6 (by decide)
  refine e_al0 78 rfl dX10_shape_77 ?_
  refine e_invV0 [] 81 rfl dX10_shape_78 k_X10_167 mo_X10_endingRead rm_X10_shape_X10_endingRead ⟨rfl, rfl⟩ rfl rfl (by assumption) (Nat.le_of_ble_eq_true rfl) ?_
  refine c_endingRead hX5 hp3 (fun en e4 μ6 hF6 hf6 hg6 h366 hH6 en6 => ?_) (fun f p e4 μ6 hF6 hf6 hfl => ?_)
  rotate_left
  · rw [e4] at hps
    first | refine e_if_neB 86 84 (by decide) rfl dX10_shape_81 rfl (fun y7 => ?_) (fun y7 => ?_) | refine e_if_neN 86 84 (by decide) rfl dX10_shape_81 rfl (by omega) (fun y7 => ?_) (fun y7 => ?_) | refine e_if_ne 86 84 (by decide) rfl dX10_shape_81 (fun y7 => ?_) (fun y7 => ?_)
    · exact absurd rfl y7
    refine e_iconst (-1) 85 rfl dX10_shape_84 ic_m1 ?_
    refine e_iret dX10_shape_85 rfl ?_
    exact bad f p μ6 hps ((((qt _ _ hF3).trans (ql _ _ hF4)).trans (ql _ _ hF5)).trans (qe _ _ hF6)) (fun f hf => by rw [hf6 f (by omega) (by omega) (by omega) (by omega), hf5 f (by omega), hf4 f (by omega)]; exact hf3 f (by omega) (by omega)) hfl
  rw [e4] at hps
  simp only [] at hps
  rw [hps] at k
  simp only [] at k
  first | refine e_if_neB 86 84 (by decide) rfl dX10_shape_81 rfl (fun y7 => ?_) (fun y7 => ?_) | refine e_if_neN 86 84 (by decide) rfl dX10_shape_81 rfl (by omega) (fun y7 => ?_) (fun y7 => ?_) | refine e_if_ne 86 84 (by decide) rfl dX10_shape_81 (fun y7 => ?_) (fun y7 => ?_)
  rotate_left
  · exact absurd y7 (by decide)
  simp only [List.length_nil, Nat.zero_add] at so7 ca7 sl8
  have hF26 : Fr (mQ m) μ2 μ6 := (((qt _ _ hF3).trans (ql _ _ hF4)).trans (ql _ _ hF5)).trans (qe _ _ hF6)
  have hf26 : ∀ f, f ≠ 29 → f ≠ 31 → f ≠ 36 → mF μ6 m f = mF μ2 m f := fun f a b c => by rw [hf6 f a c, hf5 f a, hf4 f a]; exact hf3 f a b
  have A24 : ∀ q, q = m + 24 ∨ q = m + 25 → mA μ6 q = mA μ3 q := fun q h => by rw [(hF6.2.2.2.2.2 q (by unfold enS; omega)).2.2.1, (hF5.2.2.2.2.2 q (by unfold ltS; omega)).2.2.1, (hF4.2.2.2.2.2 q (by unfold ltS; omega)).2.2.1]
  have A26 : mA μ6 (m + 26) = mA μ5 (m + 26) := (hF6.2.2.2.2.2 _ (by unfold enS; omega)).2.2.1
  have A27 : mA μ6 (m + 27) = mA μ5 (m + 27) := (hF6.2.2.2.2.2 _ (by unfold enS; omega)).2.2.1
  have r31 : mF μ6 m 31 = nI sl.length := by rw [hf6 31 (by decide) (by decide), hf5 31 (by decide), hf4 31 (by decide)]; exact hR3.1
  have m0 : mA μ6 (m + 27) 0 = nI so.length := by rw [A27, hu5 0 (by decide)]; exact hR4.1
  have m1 : mA μ6 (m + 27) 1 = nI ca.length := by rw [A27]; exact hR5.1
  refine m_shapeCopy (y := (sl, so, ca, en)) hg6 hl ⟨sl8, so7, ca7, en6⟩ r31 h366 m0 m1 (fun μ7 hF7 c1 c2 c3 c4 c5 c6 => ?_)
  obtain ⟨hF16, a1, a2, a3, a4, a5⟩ := stay μ6 hF26 (fun f hf => hf26 f (by omega) (by omega) (by omega))
  have fm : mF μ7 m = mF μ6 m := (hF7.2.2.2.2.2 m (by omega)).1
  refine k μ7 ((f2.trans (mQ_MF hF26)).trans (hF7.mono (fun q h => by omega))) ⟨hg6.fr hF7, a1.fr hF7 (by rw [fm]) (by omega), ⟨es, he, a2.fr hF7 (by rw [fm]) (fun q a b => by omega)⟩, ?_, ⟨?_, ?_⟩, a4.fr hF7 (by rw [fm]) (fun q a b => by omega), a5.fr hF7 (fun q a b => by omega)⟩
  · refine mSh_new (fun i x hx => hW.2.1 i x hx) a3 hl ⟨sl8, so7, ca7, en6⟩ (fun i s hi => ?_) ?_ ?_ hH6 c1 c2 c3 c4 c5 c6
    · rw [A24 _ (by omega), A24 _ (by omega)]; exact hR3.2 i s hi
    · rw [A26]
      refine hR4.2.of (fun j hj => ?_)
      rw [hv5 j (by omega), show 7 * 0 + j = j by omega]
    · rw [A26]
      exact hR5.2.of (fun j hj => by rw [show 7 * 1 + j = 7 + j by omega])
  · rw [fm, hf26 18 (by decide) (by decide) (by decide)]; exact g18
  · rw [fm, hf26 19 (by decide) (by decide) (by decide)]; exact g19
end MSHAPE3
