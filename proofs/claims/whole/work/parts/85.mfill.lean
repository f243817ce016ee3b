/-! NameDeskModel: fill -/
section MFILL
variable {E : En} {μ : Mm} {K : Option Value → Mm → Prop}
/-- the readings that come from kind k of word w on -/
noncomputable def tlK (sl : List Slot0) (C : Nat → Nat → Nat) (n w k c r o : Nat) : List (Nat × Nat) := ((List.range 7).drop k).flatMap (fun k' => if C w k' < 1000 then AR sl C (n - 1 - w) (w + 1) (c + C w k') (r * 8 + k') (stp sl o k') else [])
theorem tlK_7 {sl : List Slot0} {C : Nat → Nat → Nat} {n w c r o : Nat} : tlK sl C n w 7 c r o = [] := by unfold tlK; rw [List.drop_eq_nil_of_le (by simp)]; rfl
theorem tlK_s {sl : List Slot0} {C : Nat → Nat → Nat} {n w k c r o : Nat} (h : k < 7) : tlK sl C n w k c r o = (if C w k < 1000 then AR sl C (n - 1 - w) (w + 1) (c + C w k) (r * 8 + k) (stp sl o k) else []) ++ tlK sl C n w (k + 1) c r o := by
  unfold tlK
  rw [List.drop_eq_getElem_cons (by simpa using h), List.flatMap_cons, List.getElem_range]
theorem tlK_0 {sl : List Slot0} {C : Nat → Nat → Nat} {n w c r o f : Nat} (h : n - w = f + 1) : AR sl C (f + 1) w c r o = tlK sl C n w 0 c r o := by
  unfold tlK
  rw [List.drop_zero, AR, show n - 1 - w = f by omega]
theorem or3 {r k : Nat} (h : k < 8) : r * 2 ^ 3 ||| k = r * 8 + k := by
  have := Nat.shiftLeft_add_eq_or_of_lt (i := 3) h r
  rw [Nat.shiftLeft_eq] at this
  omega
/-- the rows that have been found -/
def mRw (μ : Mm) (m : Nat) (P : List (Nat × Nat)) : Prop := mF μ m 44 = nI P.length ∧ ∀ k x, P[k]? = some x → mA μ (m + 33) k = nI x.1 ∧ mA μ (m + 32) k = nI x.2
def dfS (m : Nat) : Nat → Prop := fun q => q = m ∨ (m + 31 ≤ q ∧ q ≤ m + 33)
theorem c_dfs {m i ld n : Nat} {sl : List Slot0} {C : Nat → Nat → Nat} (hg : Mg μ m) (hl : ld < 6) (hs : mSl μ m ld sl) (h8 : sl.length ≤ 8) (hw : ∀ s ∈ sl, s.1 < 7 ∧ s.2 < 4) (hn : n ≤ 8) (hCb : ∀ w k, C w k ≤ 5 ∨ C w k = 1000) (hC : ∀ w, w < n → ∀ k, k < 7 → mA μ (m + 30) (7 * w + k) = cI (C w k)) :
    ∀ (f w : Nat), w + f + 1 = n → ∀ (gu k : Nat), k + gu = 7 → ∀ (c r o p : Nat) (out : List (Nat × Nat)) (μ1 : Mm) (l8 : Option Value), nl l8 = true → c ≤ 5 * w → r < 8 ^ w → PO sl p o → Fr (dfS m) μ μ1 → (∀ g, g ≠ 44 → mF μ1 m g = mF μ m g) → mA μ1 (m + 31) w = nI p → mRw μ1 m out → (out ++ tlK sl C n w k c r o).length ≤ 6435 →
      (∀ (μ2 : Mm) (q8 : Option Value), nl q8 = true → Fr (dfS m) μ μ2 → (∀ g, g ≠ 44 → mF μ2 m g = mF μ m g) → (∀ j, j ≤ w → mA μ2 (m + 31) j = mA μ1 (m + 31) j) → mRw μ2 m (out ++ tlK sl C n w k c r o) → Ev E M_X10_fill 0 0 111 [some (.ref m), some (.int (nI i)), some (.int (nI ld)), some (.int (nI n)), some (.int (nI w)), some (.int (nI r)), some (.int (nI c)), some (.int (nI 7)), q8] [] μ2 K) →
      Ev E M_X10_fill 0 0 111 [some (.ref m), some (.int (nI i)), some (.int (nI ld)), some (.int (nI n)), some (.int (nI w)), some (.int (nI r)), some (.int (nI c)), some (.int (nI k)), l8] [] μ1 K := by
  have Sm : dfS m m := Or.inl rfl
  have S31 : dfS m (m + 31) := Or.inr ⟨by omega, by omega⟩
  have S32 : dfS m (m + 32) := Or.inr ⟨by omega, by omega⟩
  have S33 : dfS m (m + 33) := Or.inr ⟨by omega, by omega⟩
  have nS : ∀ q, (m + 1 ≤ q ∧ q ≤ m + 30) → ¬ dfS m q := fun q h => by unfold dfS; omega
  intro f
  induction f with
  | zero =>
    intro w hwn gu
    induction gu with
    | zero =>
      intro k hk c r o p out μ1 l8 hl8 hc hr hPO hF1 hf1 hp1 hR1 hlen cont
      have ek : k = 7 := by omega
      subst ek
      rw [tlK_7, List.append_nil] at cont
      exact cont μ1 l8 hl8 hF1 hf1 (fun _ _ => rfl) hR1
    | succ gu ih =>
      intro k hk c r o p out μ1 l8 hl8 hc hr hPO hF1 hf1 hp1 hR1 hlen cont
      have hk7 : k < 7 := by omega
      have hr2 : r < 8 ^ 8 := Nat.lt_of_lt_of_le hr (Nat.pow_le_pow_right (by decide) (by omega))
      have hr3 : r < 16777216 := hr2
      have hg1 := hg.fr hF1
      have mk1 := hg1.1
      obtain ⟨pc, kc, lc⟩ := hg1.costs
      obtain ⟨pp, kp, lp⟩ := hg1.places
      have hs1 : mSl μ1 m ld sl := by
        unfold mSl
        rw [(hF1.2.2.2.2.2 (m + 7) (nS _ (by omega))).2.2.1, (hF1.2.2.2.2.2 (m + 8) (nS _ (by omega))).2.2.1, (hF1.2.2.2.2.2 (m + 9) (nS _ (by omega))).2.2.1]; exact hs
      have hcv : mA μ1 (m + 30) (7 * w + k) = cI (C w k) := by rw [(hF1.2.2.2.2.2 (m + 30) (nS _ (by omega))).2.2.1]; exact hC w (by omega) k hk7
      rw [tlK_s hk7] at hlen cont
      have h44 := hR1.1
      have nolen : (if C w k < 1000 then AR sl C (n - 1 - w) (w + 1) (c + C w k) (r * 8 + k) (stp sl o k) else []) = [] → ∀ q8, nl q8 = true → Ev E M_X10_fill 0 0 111 [some (.ref m), some (.int (nI i)), some (.int (nI ld)), some (.int (nI n)), some (.int (nI w)), some (.int (nI r)), some (.int (nI c)), some (.int (nI (k + 1))), q8] [] μ1 K := fun h q8 hq8 => by
        rw [h, List.nil_append] at hlen cont
        exact ih (k + 1) (by omega) c r o p out μ1 q8 hq8 hc hr hPO hF1 hf1 hp1 hR1 hlen cont
      rcases hCb w k with hc5 | hc1000
      rotate_left
      · have hcv' : mA μ1 (m + 30) (7 * w + k) = -1 := by rw [hcv, hc1000]; rfl
        have z := nolen (by rw [if_neg (by omega)]) (some (.int (nI 0))) rfl
        refine e_il4 113 rfl dX10_fill_111 ?_
        first | refine e_if_ltN 345 116 (by decide) rfl dX10_fill_113 rfl (by omega) ?_ | refine e_if_lt 345 116 (by decide) rfl dX10_fill_113 (fun h => ?_) (fun h => ?_)
        refine e_il7 118 rfl dX10_fill_116 ?_
        refine e_bipush (nI 7) 120 rfl dX10_fill_118 bc_7 ?_
        first | refine e_cmp_neN 168 123 (by decide) rfl dX10_fill_120 rfl rfl (by omega) (by omega) (fun y1 => ?_) (fun y1 => ?_) | refine e_cmp_ne 168 123 (by decide) rfl dX10_fill_120 (fun y1 => ?_) (fun y1 => ?_)
        rotate_left
        · omega
        refine e_al0 169 rfl dX10_fill_168 ?_
        refine e_getR 172 rfl dX10_fill_169 f_X10_102 (by assumption) (by assumption) ?_
        refine e_bipush (nI 7) 174 rfl dX10_fill_172 bc_7 ?_
        refine e_il4 176 rfl dX10_fill_174 ?_
        first | refine e_imulN 177 rfl dX10_fill_176 rfl rfl ?_ | refine e_imul 177 rfl dX10_fill_176 ?_
        refine e_il7 179 rfl dX10_fill_177 ?_
        first | refine e_iaddN 180 rfl dX10_fill_179 rfl rfl ?_ | refine e_iadd 180 rfl dX10_fill_179 ?_
        first | refine e_ialdv 181 rfl dX10_fill_180 (by assumption) (by assumption) (by first | rfl | simp only [pk_mul, nI_add]) (by omega) (by omega) (by first | assumption | (simp only [mN_sF, mK_sF, mL_sF, mF_sF, mB_sF, mA_sF, mJ_sF, mP_sF, mO_sF, mN_sB, mK_sB, mL_sB, mF_sB, mB_sB, mA_sB, mJ_sB, mP_sB, mO_sB, mN_sA, mK_sA, mL_sA, mF_sA, mB_sA, mA_sA, mJ_sA, mP_sA, mO_sA, mN_sJ, mK_sJ, mL_sJ, mF_sJ, mB_sJ, mA_sJ, mJ_sJ, mP_sJ, mO_sJ, mN_sP, mK_sP, mL_sP, mF_sP, mB_sP, mA_sP, mJ_sP, mP_sP, mO_sP, mN_sO, mK_sO, mL_sO, mF_sO, mB_sO, mA_sO, mJ_sO, mP_sO, mO_sO, up2, if_true, if_false, eq_self, ite_true, ite_false, reduceIte, Nat.add_left_cancel_iff, Nat.add_eq_left, Nat.left_eq_add, Nat.reduceEqDiff]; assumption) | (simp only [mN_sF, mK_sF, mL_sF, mF_sF, mB_sF, mA_sF, mJ_sF, mP_sF, mO_sF, mN_sB, mK_sB, mL_sB, mF_sB, mB_sB, mA_sB, mJ_sB, mP_sB, mO_sB, mN_sA, mK_sA, mL_sA, mF_sA, mB_sA, mA_sA, mJ_sA, mP_sA, mO_sA, mN_sJ, mK_sJ, mL_sJ, mF_sJ, mB_sJ, mA_sJ, mJ_sJ, mP_sJ, mO_sJ, mN_sP, mK_sP, mL_sP, mF_sP, mB_sP, mA_sP, mJ_sP, mP_sP, mO_sP, mN_sO, mK_sO, mL_sO, mF_sO, mB_sO, mA_sO, mJ_sO, mP_sO, mO_sO, up2, if_true, if_false, eq_self, ite_true, ite_false, reduceIte, Nat.add_left_cancel_iff, Nat.add_eq_left, Nat.left_eq_add, Nat.reduceEqDiff]; done)) ?_ | refine e_iald 181 rfl dX10_fill_180 (by assumption) (by assumption) (by first | rfl | simp only [pk_mul, nI_add]) (by omega) (by omega) ?_
        refine e_if_ge 188 184 (by decide) rfl dX10_fill_181 (fun y2 => ?_) (fun y2 => ?_)
        · exact absurd y2 (by decide)
        refine e_iconst (nI 0) 185 rfl dX10_fill_184 ic_0 ?_
        refine e_goto 207 (by decide) dX10_fill_185 ?_
        refine e_is8 209 rfl dX10_fill_207 (by decide) rfl ?_
        refine e_il8 211 rfl dX10_fill_209 ?_
        first | refine e_if_neB 220 214 (by decide) rfl dX10_fill_211 rfl (fun y3 => ?_) (fun y3 => ?_) | refine e_if_neN 220 214 (by decide) rfl dX10_fill_211 rfl (by omega) (fun y3 => ?_) (fun y3 => ?_) | refine e_if_ne 220 214 (by decide) rfl dX10_fill_211 (fun y3 => ?_) (fun y3 => ?_)
        · exact absurd rfl y3
        refine e_ii7 (nI (_ + 1)) 217 rfl dX10_fill_214 (ii1 _) rfl ?_
        refine e_goto 111 (by decide) dX10_fill_217 ?_
        exact z
      have hcl : C w k < 1000 := by omega
      have hcv' : mA μ1 (m + 30) (7 * w + k) = nI (C w k) := by rw [hcv]; unfold cI; rw [if_pos hcl]
      rw [if_pos hcl] at hlen cont nolen
      have en : n - 1 - w = 0 := by omega
      rw [en] at hlen cont nolen
      have hp18 := hPO.2.2.2.2
      have hp31 : p < 2 ^ 31 := Nat.lt_trans hp18 (by decide)
      refine e_il4 113 rfl dX10_fill_111 ?_
      first | refine e_if_ltN 345 116 (by decide) rfl dX10_fill_113 rfl (by omega) ?_ | refine e_if_lt 345 116 (by decide) rfl dX10_fill_113 (fun h => ?_) (fun h => ?_)
      refine e_il7 118 rfl dX10_fill_116 ?_
      refine e_bipush (nI 7) 120 rfl dX10_fill_118 bc_7 ?_
      first | refine e_cmp_neN 168 123 (by decide) rfl dX10_fill_120 rfl rfl (by omega) (by omega) (fun y1 => ?_) (fun y1 => ?_) | refine e_cmp_ne 168 123 (by decide) rfl dX10_fill_120 (fun y1 => ?_) (fun y1 => ?_)
      rotate_left
      · omega
      refine e_al0 169 rfl dX10_fill_168 ?_
      refine e_getR 172 rfl dX10_fill_169 f_X10_102 (by assumption) (by assumption) ?_
      refine e_bipush (nI 7) 174 rfl dX10_fill_172 bc_7 ?_
      refine e_il4 176 rfl dX10_fill_174 ?_
      first | refine e_imulN 177 rfl dX10_fill_176 rfl rfl ?_ | refine e_imul 177 rfl dX10_fill_176 ?_
      refine e_il7 179 rfl dX10_fill_177 ?_
      first | refine e_iaddN 180 rfl dX10_fill_179 rfl rfl ?_ | refine e_iadd 180 rfl dX10_fill_179 ?_
      first | refine e_ialdv 181 rfl dX10_fill_180 (by assumption) (by assumption) (by first | rfl | simp only [pk_mul, nI_add]) (by omega) (by omega) (by first | assumption | (simp only [mN_sF, mK_sF, mL_sF, mF_sF, mB_sF, mA_sF, mJ_sF, mP_sF, mO_sF, mN_sB, mK_sB, mL_sB, mF_sB, mB_sB, mA_sB, mJ_sB, mP_sB, mO_sB, mN_sA, mK_sA, mL_sA, mF_sA, mB_sA, mA_sA, mJ_sA, mP_sA, mO_sA, mN_sJ, mK_sJ, mL_sJ, mF_sJ, mB_sJ, mA_sJ, mJ_sJ, mP_sJ, mO_sJ, mN_sP, mK_sP, mL_sP, mF_sP, mB_sP, mA_sP, mJ_sP, mP_sP, mO_sP, mN_sO, mK_sO, mL_sO, mF_sO, mB_sO, mA_sO, mJ_sO, mP_sO, mO_sO, up2, if_true, if_false, eq_self, ite_true, ite_false, reduceIte, Nat.add_left_cancel_iff, Nat.add_eq_left, Nat.left_eq_add, Nat.reduceEqDiff]; assumption) | (simp only [mN_sF, mK_sF, mL_sF, mF_sF, mB_sF, mA_sF, mJ_sF, mP_sF, mO_sF, mN_sB, mK_sB, mL_sB, mF_sB, mB_sB, mA_sB, mJ_sB, mP_sB, mO_sB, mN_sA, mK_sA, mL_sA, mF_sA, mB_sA, mA_sA, mJ_sA, mP_sA, mO_sA, mN_sJ, mK_sJ, mL_sJ, mF_sJ, mB_sJ, mA_sJ, mJ_sJ, mP_sJ, mO_sJ, mN_sP, mK_sP, mL_sP, mF_sP, mB_sP, mA_sP, mJ_sP, mP_sP, mO_sP, mN_sO, mK_sO, mL_sO, mF_sO, mB_sO, mA_sO, mJ_sO, mP_sO, mO_sO, up2, if_true, if_false, eq_self, ite_true, ite_false, reduceIte, Nat.add_left_cancel_iff, Nat.add_eq_left, Nat.left_eq_add, Nat.reduceEqDiff]; done)) ?_ | refine e_iald 181 rfl dX10_fill_180 (by assumption) (by assumption) (by first | rfl | simp only [pk_mul, nI_add]) (by omega) (by omega) ?_
      first | refine e_if_geN 188 184 (by decide) rfl dX10_fill_181 rfl (by omega) ?_ | refine e_if_ge 188 184 (by decide) rfl dX10_fill_181 (fun h => ?_) (fun h => ?_)
      refine e_al0 189 rfl dX10_fill_188 ?_
      refine e_il2 190 rfl dX10_fill_189 ?_
      refine e_al0 191 rfl dX10_fill_190 ?_
      refine e_il2 192 rfl dX10_fill_191 ?_
      refine e_al0 193 rfl dX10_fill_192 ?_
      refine e_getR 196 rfl dX10_fill_193 f_X10_105 (by assumption) (by assumption) ?_
      refine e_il4 198 rfl dX10_fill_196 ?_
      first | refine e_ialdv 199 rfl dX10_fill_198 (by assumption) (by assumption) (by first | rfl | simp only [pk_mul, nI_add]) (by omega) (by omega) (by first | assumption | (simp only [mN_sF, mK_sF, mL_sF, mF_sF, mB_sF, mA_sF, mJ_sF, mP_sF, mO_sF, mN_sB, mK_sB, mL_sB, mF_sB, mB_sB, mA_sB, mJ_sB, mP_sB, mO_sB, mN_sA, mK_sA, mL_sA, mF_sA, mB_sA, mA_sA, mJ_sA, mP_sA, mO_sA, mN_sJ, mK_sJ, mL_sJ, mF_sJ, mB_sJ, mA_sJ, mJ_sJ, mP_sJ, mO_sJ, mN_sP, mK_sP, mL_sP, mF_sP, mB_sP, mA_sP, mJ_sP, mP_sP, mO_sP, mN_sO, mK_sO, mL_sO, mF_sO, mB_sO, mA_sO, mJ_sO, mP_sO, mO_sO, up2, if_true, if_false, eq_self, ite_true, ite_false, reduceIte, Nat.add_left_cancel_iff, Nat.add_eq_left, Nat.left_eq_add, Nat.reduceEqDiff]; assumption) | (simp only [mN_sF, mK_sF, mL_sF, mF_sF, mB_sF, mA_sF, mJ_sF, mP_sF, mO_sF, mN_sB, mK_sB, mL_sB, mF_sB, mB_sB, mA_sB, mJ_sB, mP_sB, mO_sB, mN_sA, mK_sA, mL_sA, mF_sA, mB_sA, mA_sA, mJ_sA, mP_sA, mO_sA, mN_sJ, mK_sJ, mL_sJ, mF_sJ, mB_sJ, mA_sJ, mJ_sJ, mP_sJ, mO_sJ, mN_sP, mK_sP, mL_sP, mF_sP, mB_sP, mA_sP, mJ_sP, mP_sP, mO_sP, mN_sO, mK_sO, mL_sO, mF_sO, mB_sO, mA_sO, mJ_sO, mP_sO, mO_sO, up2, if_true, if_false, eq_self, ite_true, ite_false, reduceIte, Nat.add_left_cancel_iff, Nat.add_eq_left, Nat.left_eq_add, Nat.reduceEqDiff]; done)) ?_ | refine e_iald 199 rfl dX10_fill_198 (by assumption) (by assumption) (by first | rfl | simp only [pk_mul, nI_add]) (by omega) (by omega) ?_
      refine e_il7 201 rfl dX10_fill_199 ?_
      refine e_invV0 [_, _, _] 204 rfl dX10_fill_201 k_X10_203 mo_X10_goes rm_X10_fill_X10_goes ⟨rfl, rfl⟩ rfl rfl (by assumption) (Nat.le_of_ble_eq_true rfl) ?_
      refine c_goes hg1 hl hs1 h8 hw hp18 hk7 (fun g hg18 hgb => ?_)
      refine e_invV0 [_, _] 207 rfl dX10_fill_204 k_X10_199 mo_X10_slips rm_X10_fill_X10_slips ⟨rfl, rfl⟩ rfl rfl (by assumption) (Nat.le_of_ble_eq_true rfl) ?_
      refine c_slips hg1 hl hs1 h8 hw hg18 (fun b hb18 hbb => ?_)
      have hPO2 := PO_step h8 hPO hgb hbb hb18
      have hb31 : b < 2 ^ 31 := Nat.lt_trans hb18 (by decide)
      have hz := PO_zero h8 hPO2
      refine e_is8 209 rfl dX10_fill_207 (by decide) rfl ?_
      refine e_il8 211 rfl dX10_fill_209 ?_
      first | refine e_if_neB 220 214 (by decide) rfl dX10_fill_211 rfl (fun y3 => ?_) (fun y3 => ?_) | refine e_if_neN 220 214 (by decide) rfl dX10_fill_211 rfl (by omega) (fun y3 => ?_) (fun y3 => ?_) | refine e_if_ne 220 214 (by decide) rfl dX10_fill_211 (fun y3 => ?_) (fun y3 => ?_)
      rotate_left
      · refine e_ii7 (nI (_ + 1)) 217 rfl dX10_fill_214 (ii1 _) rfl ?_
        refine e_goto 111 (by decide) dX10_fill_217 ?_
        refine nolen (AR_nil (fun d hd => Rn_ne h8 hd (hz.mp y3))) _ rfl
      refine e_il4 222 rfl dX10_fill_220 ?_
      refine e_il3 223 rfl dX10_fill_222 ?_
      refine e_iconst (nI 1) 224 rfl dX10_fill_223 ic_1 ?_
      first | refine e_isubN 225 rfl dX10_fill_224 rfl rfl (by omega) ?_ | refine e_isub 225 rfl dX10_fill_224 ?_
      first | refine e_cmp_neN 300 228 (by decide) rfl dX10_fill_225 rfl rfl (by omega) (by omega) (fun y4 => ?_) (fun y4 => ?_) | refine e_cmp_ne 300 228 (by decide) rfl dX10_fill_225 (fun y4 => ?_) (fun y4 => ?_)
      · omega
      obtain ⟨pz, kz, lz⟩ := hg1.slots
      have vz := hs1.1
      obtain ⟨pr, kr, lr⟩ := hg1.rows
      obtain ⟨pw, kw, lw⟩ := hg1.rowCost
      refine e_il8 230 rfl dX10_fill_228 ?_
      refine e_al0 231 rfl dX10_fill_230 ?_
      refine e_getR 234 rfl dX10_fill_231 f_X10_29 (by assumption) (by assumption) ?_
      refine e_il2 235 rfl dX10_fill_234 ?_
      first | refine e_ialdv 236 rfl dX10_fill_235 (by assumption) (by assumption) (by first | rfl | simp only [pk_mul, nI_add]) (by omega) (by omega) (by first | assumption | (simp only [mN_sF, mK_sF, mL_sF, mF_sF, mB_sF, mA_sF, mJ_sF, mP_sF, mO_sF, mN_sB, mK_sB, mL_sB, mF_sB, mB_sB, mA_sB, mJ_sB, mP_sB, mO_sB, mN_sA, mK_sA, mL_sA, mF_sA, mB_sA, mA_sA, mJ_sA, mP_sA, mO_sA, mN_sJ, mK_sJ, mL_sJ, mF_sJ, mB_sJ, mA_sJ, mJ_sJ, mP_sJ, mO_sJ, mN_sP, mK_sP, mL_sP, mF_sP, mB_sP, mA_sP, mJ_sP, mP_sP, mO_sP, mN_sO, mK_sO, mL_sO, mF_sO, mB_sO, mA_sO, mJ_sO, mP_sO, mO_sO, up2, if_true, if_false, eq_self, ite_true, ite_false, reduceIte, Nat.add_left_cancel_iff, Nat.add_eq_left, Nat.left_eq_add, Nat.reduceEqDiff]; assumption) | (simp only [mN_sF, mK_sF, mL_sF, mF_sF, mB_sF, mA_sF, mJ_sF, mP_sF, mO_sF, mN_sB, mK_sB, mL_sB, mF_sB, mB_sB, mA_sB, mJ_sB, mP_sB, mO_sB, mN_sA, mK_sA, mL_sA, mF_sA, mB_sA, mA_sA, mJ_sA, mP_sA, mO_sA, mN_sJ, mK_sJ, mL_sJ, mF_sJ, mB_sJ, mA_sJ, mJ_sJ, mP_sJ, mO_sJ, mN_sP, mK_sP, mL_sP, mF_sP, mB_sP, mA_sP, mJ_sP, mP_sP, mO_sP, mN_sO, mK_sO, mL_sO, mF_sO, mB_sO, mA_sO, mJ_sO, mP_sO, mO_sO, up2, if_true, if_false, eq_self, ite_true, ite_false, reduceIte, Nat.add_left_cancel_iff, Nat.add_eq_left, Nat.left_eq_add, Nat.reduceEqDiff]; done)) ?_ | refine e_iald 236 rfl dX10_fill_235 (by assumption) (by assumption) (by first | rfl | simp only [pk_mul, nI_add]) (by omega) (by omega) ?_
      refine e_ishrN 237 rfl dX10_fill_236 rfl rfl hb31 (by omega) ?_
      refine e_iconst (nI 1) 238 rfl dX10_fill_237 ic_1 ?_
      refine e_iandN 239 rfl dX10_fill_238 rfl rfl ?_
      refine e_iconst (nI 1) 240 rfl dX10_fill_239 ic_1 ?_
      refine e_cmp_neN 294 243 (by decide) rfl dX10_fill_240 rfl rfl (Nat.lt_of_le_of_lt Nat.and_le_right (by decide)) (by decide) (fun y5 => ?_) (fun y5 => ?_)
      · refine e_ii7 (nI (_ + 1)) 297 rfl dX10_fill_294 (ii1 _) rfl ?_
        refine e_goto 111 (by decide) dX10_fill_297 ?_
        refine nolen ?_ _ rfl
        rw [AR, if_neg (fun q => y5 ((bit1' b sl.length).mpr (hPO2.2.1.mp q)))]
      have hend : (stp sl o k).testBit 8 = true := hPO2.2.1.mpr ((bit1' b sl.length).mp y5)
      rw [AR, if_pos hend] at hlen cont
      have ho : out.length < 6435 := by rw [List.length_append, List.length_append, List.length_singleton] at hlen; omega
      refine e_al0 244 rfl dX10_fill_243 ?_
      refine e_getR 247 rfl dX10_fill_244 f_X10_108 (by assumption) (by assumption) ?_
      refine e_al0 248 rfl dX10_fill_247 ?_
      first | refine e_getIv 251 rfl dX10_fill_248 f_X10_192 (by assumption) (by first | assumption | (simp only [mN_sF, mK_sF, mL_sF, mF_sF, mB_sF, mA_sF, mJ_sF, mP_sF, mO_sF, mN_sB, mK_sB, mL_sB, mF_sB, mB_sB, mA_sB, mJ_sB, mP_sB, mO_sB, mN_sA, mK_sA, mL_sA, mF_sA, mB_sA, mA_sA, mJ_sA, mP_sA, mO_sA, mN_sJ, mK_sJ, mL_sJ, mF_sJ, mB_sJ, mA_sJ, mJ_sJ, mP_sJ, mO_sJ, mN_sP, mK_sP, mL_sP, mF_sP, mB_sP, mA_sP, mJ_sP, mP_sP, mO_sP, mN_sO, mK_sO, mL_sO, mF_sO, mB_sO, mA_sO, mJ_sO, mP_sO, mO_sO, up2, if_true, if_false, eq_self, ite_true, ite_false, reduceIte, Nat.add_left_cancel_iff, Nat.add_eq_left, Nat.left_eq_add, Nat.reduceEqDiff]; assumption) | (simp only [mN_sF, mK_sF, mL_sF, mF_sF, mB_sF, mA_sF, mJ_sF, mP_sF, mO_sF, mN_sB, mK_sB, mL_sB, mF_sB, mB_sB, mA_sB, mJ_sB, mP_sB, mO_sB, mN_sA, mK_sA, mL_sA, mF_sA, mB_sA, mA_sA, mJ_sA, mP_sA, mO_sA, mN_sJ, mK_sJ, mL_sJ, mF_sJ, mB_sJ, mA_sJ, mJ_sJ, mP_sJ, mO_sJ, mN_sP, mK_sP, mL_sP, mF_sP, mB_sP, mA_sP, mJ_sP, mP_sP, mO_sP, mN_sO, mK_sO, mL_sO, mF_sO, mB_sO, mA_sO, mJ_sO, mP_sO, mO_sO, up2, if_true, if_false, eq_self, ite_true, ite_false, reduceIte, Nat.add_left_cancel_iff, Nat.add_eq_left, Nat.left_eq_add, Nat.reduceEqDiff]; done)) ?_ | refine e_getI 251 rfl dX10_fill_248 f_X10_192 (by assumption) ?_
      refine e_il5 253 rfl dX10_fill_251 ?_
      refine e_iconst (nI 3) 254 rfl dX10_fill_253 ic_3 ?_
      refine e_ishl 255 rfl dX10_fill_254 ?_
      refine e_il7 257 rfl dX10_fill_255 ?_
      (rw [nI_shl (v := r) (s := 3) (by decide) (by omega)]; refine e_iorN 258 rfl dX10_fill_257 rfl rfl ?_)
      refine e_iast 259 rfl dX10_fill_258 (by assumption) (by assumption) (by first | rfl | simp only [pk_mul, nI_add]) (by omega) (by omega) ?_
      rw [or3 (show k < 8 by omega)]
      have h442 : mF (sA μ1 (m + 32) out.length (nI (r * 8 + k))) m 44 = nI out.length := h44
      have hcv2 : mA (sA μ1 (m + 32) out.length (nI (r * 8 + k))) (m + 30) (7 * w + k) = nI (C w k) := by rw [sA_o (by omega)]; exact hcv'
      refine e_al0 260 rfl dX10_fill_259 ?_
      refine e_getR 263 rfl dX10_fill_260 f_X10_111 (by assumption) (by assumption) ?_
      refine e_al0 264 rfl dX10_fill_263 ?_
      first | refine e_getIv 267 rfl dX10_fill_264 f_X10_192 (by assumption) (by first | assumption | (simp only [mN_sF, mK_sF, mL_sF, mF_sF, mB_sF, mA_sF, mJ_sF, mP_sF, mO_sF, mN_sB, mK_sB, mL_sB, mF_sB, mB_sB, mA_sB, mJ_sB, mP_sB, mO_sB, mN_sA, mK_sA, mL_sA, mF_sA, mB_sA, mA_sA, mJ_sA, mP_sA, mO_sA, mN_sJ, mK_sJ, mL_sJ, mF_sJ, mB_sJ, mA_sJ, mJ_sJ, mP_sJ, mO_sJ, mN_sP, mK_sP, mL_sP, mF_sP, mB_sP, mA_sP, mJ_sP, mP_sP, mO_sP, mN_sO, mK_sO, mL_sO, mF_sO, mB_sO, mA_sO, mJ_sO, mP_sO, mO_sO, up2, if_true, if_false, eq_self, ite_true, ite_false, reduceIte, Nat.add_left_cancel_iff, Nat.add_eq_left, Nat.left_eq_add, Nat.reduceEqDiff]; assumption) | (simp only [mN_sF, mK_sF, mL_sF, mF_sF, mB_sF, mA_sF, mJ_sF, mP_sF, mO_sF, mN_sB, mK_sB, mL_sB, mF_sB, mB_sB, mA_sB, mJ_sB, mP_sB, mO_sB, mN_sA, mK_sA, mL_sA, mF_sA, mB_sA, mA_sA, mJ_sA, mP_sA, mO_sA, mN_sJ, mK_sJ, mL_sJ, mF_sJ, mB_sJ, mA_sJ, mJ_sJ, mP_sJ, mO_sJ, mN_sP, mK_sP, mL_sP, mF_sP, mB_sP, mA_sP, mJ_sP, mP_sP, mO_sP, mN_sO, mK_sO, mL_sO, mF_sO, mB_sO, mA_sO, mJ_sO, mP_sO, mO_sO, up2, if_true, if_false, eq_self, ite_true, ite_false, reduceIte, Nat.add_left_cancel_iff, Nat.add_eq_left, Nat.left_eq_add, Nat.reduceEqDiff]; done)) ?_ | refine e_getI 267 rfl dX10_fill_264 f_X10_192 (by assumption) ?_
      refine e_il6 269 rfl dX10_fill_267 ?_
      refine e_al0 270 rfl dX10_fill_269 ?_
      refine e_getR 273 rfl dX10_fill_270 f_X10_102 (by assumption) (by assumption) ?_
      refine e_bipush (nI 7) 275 rfl dX10_fill_273 bc_7 ?_
      refine e_il4 277 rfl dX10_fill_275 ?_
      first | refine e_imulN 278 rfl dX10_fill_277 rfl rfl ?_ | refine e_imul 278 rfl dX10_fill_277 ?_
      refine e_il7 280 rfl dX10_fill_278 ?_
      first | refine e_iaddN 281 rfl dX10_fill_280 rfl rfl ?_ | refine e_iadd 281 rfl dX10_fill_280 ?_
      first | refine e_ialdv 282 rfl dX10_fill_281 (by assumption) (by assumption) (by first | rfl | simp only [pk_mul, nI_add]) (by omega) (by omega) (by first | assumption | (simp only [mN_sF, mK_sF, mL_sF, mF_sF, mB_sF, mA_sF, mJ_sF, mP_sF, mO_sF, mN_sB, mK_sB, mL_sB, mF_sB, mB_sB, mA_sB, mJ_sB, mP_sB, mO_sB, mN_sA, mK_sA, mL_sA, mF_sA, mB_sA, mA_sA, mJ_sA, mP_sA, mO_sA, mN_sJ, mK_sJ, mL_sJ, mF_sJ, mB_sJ, mA_sJ, mJ_sJ, mP_sJ, mO_sJ, mN_sP, mK_sP, mL_sP, mF_sP, mB_sP, mA_sP, mJ_sP, mP_sP, mO_sP, mN_sO, mK_sO, mL_sO, mF_sO, mB_sO, mA_sO, mJ_sO, mP_sO, mO_sO, up2, if_true, if_false, eq_self, ite_true, ite_false, reduceIte, Nat.add_left_cancel_iff, Nat.add_eq_left, Nat.left_eq_add, Nat.reduceEqDiff]; assumption) | (simp only [mN_sF, mK_sF, mL_sF, mF_sF, mB_sF, mA_sF, mJ_sF, mP_sF, mO_sF, mN_sB, mK_sB, mL_sB, mF_sB, mB_sB, mA_sB, mJ_sB, mP_sB, mO_sB, mN_sA, mK_sA, mL_sA, mF_sA, mB_sA, mA_sA, mJ_sA, mP_sA, mO_sA, mN_sJ, mK_sJ, mL_sJ, mF_sJ, mB_sJ, mA_sJ, mJ_sJ, mP_sJ, mO_sJ, mN_sP, mK_sP, mL_sP, mF_sP, mB_sP, mA_sP, mJ_sP, mP_sP, mO_sP, mN_sO, mK_sO, mL_sO, mF_sO, mB_sO, mA_sO, mJ_sO, mP_sO, mO_sO, up2, if_true, if_false, eq_self, ite_true, ite_false, reduceIte, Nat.add_left_cancel_iff, Nat.add_eq_left, Nat.left_eq_add, Nat.reduceEqDiff]; done)) ?_ | refine e_iald 282 rfl dX10_fill_281 (by assumption) (by assumption) (by first | rfl | simp only [pk_mul, nI_add]) (by omega) (by omega) ?_
      first | refine e_iaddN 283 rfl dX10_fill_282 rfl rfl ?_ | refine e_iadd 283 rfl dX10_fill_282 ?_
      refine e_iast 284 rfl dX10_fill_283 (by assumption) (by assumption) (by first | rfl | simp only [pk_mul, nI_add]) (by omega) (by omega) ?_
      have h443 : mF (sA (sA μ1 (m + 32) out.length (nI (r * 8 + k))) (m + 33) out.length (nI (c + C w k))) m 44 = nI out.length := h44
      have mk3 : mK (sA (sA μ1 (m + 32) out.length (nI (r * 8 + k))) (m + 33) out.length (nI (c + C w k))) m = 11 := mk1
      refine e_al0 285 rfl dX10_fill_284 ?_
      refine e_dup 286 rfl dX10_fill_285 rfl ?_
      first | refine e_getIv 289 rfl dX10_fill_286 f_X10_192 (by assumption) (by first | assumption | (simp only [mN_sF, mK_sF, mL_sF, mF_sF, mB_sF, mA_sF, mJ_sF, mP_sF, mO_sF, mN_sB, mK_sB, mL_sB, mF_sB, mB_sB, mA_sB, mJ_sB, mP_sB, mO_sB, mN_sA, mK_sA, mL_sA, mF_sA, mB_sA, mA_sA, mJ_sA, mP_sA, mO_sA, mN_sJ, mK_sJ, mL_sJ, mF_sJ, mB_sJ, mA_sJ, mJ_sJ, mP_sJ, mO_sJ, mN_sP, mK_sP, mL_sP, mF_sP, mB_sP, mA_sP, mJ_sP, mP_sP, mO_sP, mN_sO, mK_sO, mL_sO, mF_sO, mB_sO, mA_sO, mJ_sO, mP_sO, mO_sO, up2, if_true, if_false, eq_self, ite_true, ite_false, reduceIte, Nat.add_left_cancel_iff, Nat.add_eq_left, Nat.left_eq_add, Nat.reduceEqDiff]; assumption) | (simp only [mN_sF, mK_sF, mL_sF, mF_sF, mB_sF, mA_sF, mJ_sF, mP_sF, mO_sF, mN_sB, mK_sB, mL_sB, mF_sB, mB_sB, mA_sB, mJ_sB, mP_sB, mO_sB, mN_sA, mK_sA, mL_sA, mF_sA, mB_sA, mA_sA, mJ_sA, mP_sA, mO_sA, mN_sJ, mK_sJ, mL_sJ, mF_sJ, mB_sJ, mA_sJ, mJ_sJ, mP_sJ, mO_sJ, mN_sP, mK_sP, mL_sP, mF_sP, mB_sP, mA_sP, mJ_sP, mP_sP, mO_sP, mN_sO, mK_sO, mL_sO, mF_sO, mB_sO, mA_sO, mJ_sO, mP_sO, mO_sO, up2, if_true, if_false, eq_self, ite_true, ite_false, reduceIte, Nat.add_left_cancel_iff, Nat.add_eq_left, Nat.left_eq_add, Nat.reduceEqDiff]; done)) ?_ | refine e_getI 289 rfl dX10_fill_286 f_X10_192 (by assumption) ?_
      refine e_iconst (nI 1) 290 rfl dX10_fill_289 ic_1 ?_
      first | refine e_iaddN 291 rfl dX10_fill_290 rfl rfl ?_ | refine e_iadd 291 rfl dX10_fill_290 ?_
      refine e_putI 294 rfl dX10_fill_291 f_X10_192 (by assumption) ?_
      have hF3 : Fr (dfS m) μ (sF (sA (sA μ1 (m + 32) out.length (nI (r * 8 + k))) (m + 33) out.length (nI (c + C w k))) m 44 (nI (out.length + 1))) := ((hF1.sA S32 _ _).sA S33 _ _).sF Sm _ _
      have hf3 : ∀ g, g ≠ 44 → mF (sF (sA (sA μ1 (m + 32) out.length (nI (r * 8 + k))) (m + 33) out.length (nI (c + C w k))) m 44 (nI (out.length + 1))) m g = mF μ m g := fun g hg => by
        show up2 _ m 44 _ m g = _
        rw [up2_k hg]; exact hf1 g hg
      have hp3 : mA (sF (sA (sA μ1 (m + 32) out.length (nI (r * 8 + k))) (m + 33) out.length (nI (c + C w k))) m 44 (nI (out.length + 1))) (m + 31) = mA μ1 (m + 31) := by rw [mA_sF, sA_o (by omega), sA_o (by omega)]
      have hR3 : mRw (sF (sA (sA μ1 (m + 32) out.length (nI (r * 8 + k))) (m + 33) out.length (nI (c + C w k))) m 44 (nI (out.length + 1))) m (out ++ [(c + C w k, r * 8 + k)]) := by
        refine ⟨by simp only [mN_sF, mK_sF, mL_sF, mF_sF, mB_sF, mA_sF, mJ_sF, mP_sF, mO_sF, mN_sB, mK_sB, mL_sB, mF_sB, mB_sB, mA_sB, mJ_sB, mP_sB, mO_sB, mN_sA, mK_sA, mL_sA, mF_sA, mB_sA, mA_sA, mJ_sA, mP_sA, mO_sA, mN_sJ, mK_sJ, mL_sJ, mF_sJ, mB_sJ, mA_sJ, mJ_sJ, mP_sJ, mO_sJ, mN_sP, mK_sP, mL_sP, mF_sP, mB_sP, mA_sP, mJ_sP, mP_sP, mO_sP, mN_sO, mK_sO, mL_sO, mF_sO, mB_sO, mA_sO, mJ_sO, mP_sO, mO_sO, up2, if_true, if_false, eq_self, ite_true, ite_false, reduceIte, Nat.add_left_cancel_iff, Nat.add_eq_left, Nat.left_eq_add, Nat.reduceEqDiff]; rw [List.length_append]; rfl, fun j x hj => ?_⟩
        rw [mA_sF, sA_s, sA_o (show m + 33 ≠ m + 32 by omega), sA_o (show m + 32 ≠ m + 33 by omega), sA_s]
        by_cases cj : j < out.length
        · rw [List.getElem?_append_left cj] at hj
          simp only [if_neg (show j ≠ out.length by omega)]
          exact hR1.2 j x hj
        · rw [List.getElem?_append_right (by omega)] at hj
          have hzz : j - out.length < 1 := (List.getElem?_eq_some_iff.mp hj).1
          have ej : j = out.length := by omega
          subst ej
          rw [Nat.sub_self] at hj
          have hj2 : (c + C w k, r * 8 + k) = x := Option.some.inj hj
          rw [← hj2]
          simp
      clear h442 hcv2 h443 mk3
      generalize sF (sA (sA μ1 (m + 32) out.length (nI (r * 8 + k))) (m + 33) out.length (nI (c + C w k))) m 44 (nI (out.length + 1)) = μ3 at hF3 hf3 hp3 hR3 ⊢
      refine e_ii7 (nI (_ + 1)) 297 rfl dX10_fill_294 (ii1 _) rfl ?_
      refine e_goto 111 (by decide) dX10_fill_297 ?_
      rw [← List.append_assoc] at hlen cont
      refine ih (k + 1) (by omega) c r o p (out ++ [(c + C w k, r * 8 + k)]) μ3 _ rfl hc hr hPO hF3 hf3 (by rw [hp3]; exact hp1) hR3 hlen (fun μ4 q8 hq8 hF4 hf4 hpl4 hR4 => cont μ4 q8 hq8 hF4 hf4 (fun j hj => by rw [hpl4 j hj, hp3]) hR4)
  | succ f ihf =>
    intro w hwn gu
    induction gu with
    | zero =>
      intro k hk c r o p out μ1 l8 hl8 hc hr hPO hF1 hf1 hp1 hR1 hlen cont
      have ek : k = 7 := by omega
      subst ek
      rw [tlK_7, List.append_nil] at cont
      exact cont μ1 l8 hl8 hF1 hf1 (fun _ _ => rfl) hR1
    | succ gu ih =>
      intro k hk c r o p out μ1 l8 hl8 hc hr hPO hF1 hf1 hp1 hR1 hlen cont
      have hk7 : k < 7 := by omega
      have hr2 : r < 8 ^ 8 := Nat.lt_of_lt_of_le hr (Nat.pow_le_pow_right (by decide) (by omega))
      have hr3 : r < 16777216 := hr2
      have hg1 := hg.fr hF1
      have mk1 := hg1.1
      obtain ⟨pc, kc, lc⟩ := hg1.costs
      obtain ⟨pp, kp, lp⟩ := hg1.places
      have hs1 : mSl μ1 m ld sl := by
        unfold mSl
        rw [(hF1.2.2.2.2.2 (m + 7) (nS _ (by omega))).2.2.1, (hF1.2.2.2.2.2 (m + 8) (nS _ (by omega))).2.2.1, (hF1.2.2.2.2.2 (m + 9) (nS _ (by omega))).2.2.1]; exact hs
      have hcv : mA μ1 (m + 30) (7 * w + k) = cI (C w k) := by rw [(hF1.2.2.2.2.2 (m + 30) (nS _ (by omega))).2.2.1]; exact hC w (by omega) k hk7
      rw [tlK_s hk7] at hlen cont
      have nolen : (if C w k < 1000 then AR sl C (n - 1 - w) (w + 1) (c + C w k) (r * 8 + k) (stp sl o k) else []) = [] → ∀ q8, nl q8 = true → Ev E M_X10_fill 0 0 111 [some (.ref m), some (.int (nI i)), some (.int (nI ld)), some (.int (nI n)), some (.int (nI w)), some (.int (nI r)), some (.int (nI c)), some (.int (nI (k + 1))), q8] [] μ1 K := fun h q8 hq8 => by
        rw [h, List.nil_append] at hlen cont
        exact ih (k + 1) (by omega) c r o p out μ1 q8 hq8 hc hr hPO hF1 hf1 hp1 hR1 hlen cont
      rcases hCb w k with hc5 | hc1000
      rotate_left
      · have hcv' : mA μ1 (m + 30) (7 * w + k) = -1 := by rw [hcv, hc1000]; rfl
        have z := nolen (by rw [if_neg (by omega)]) (some (.int (nI 0))) rfl
        refine e_il4 113 rfl dX10_fill_111 ?_
        first | refine e_if_ltN 345 116 (by decide) rfl dX10_fill_113 rfl (by omega) ?_ | refine e_if_lt 345 116 (by decide) rfl dX10_fill_113 (fun h => ?_) (fun h => ?_)
        refine e_il7 118 rfl dX10_fill_116 ?_
        refine e_bipush (nI 7) 120 rfl dX10_fill_118 bc_7 ?_
        first | refine e_cmp_neN 168 123 (by decide) rfl dX10_fill_120 rfl rfl (by omega) (by omega) (fun y1 => ?_) (fun y1 => ?_) | refine e_cmp_ne 168 123 (by decide) rfl dX10_fill_120 (fun y1 => ?_) (fun y1 => ?_)
        rotate_left
        · omega
        refine e_al0 169 rfl dX10_fill_168 ?_
        refine e_getR 172 rfl dX10_fill_169 f_X10_102 (by assumption) (by assumption) ?_
        refine e_bipush (nI 7) 174 rfl dX10_fill_172 bc_7 ?_
        refine e_il4 176 rfl dX10_fill_174 ?_
        first | refine e_imulN 177 rfl dX10_fill_176 rfl rfl ?_ | refine e_imul 177 rfl dX10_fill_176 ?_
        refine e_il7 179 rfl dX10_fill_177 ?_
        first | refine e_iaddN 180 rfl dX10_fill_179 rfl rfl ?_ | refine e_iadd 180 rfl dX10_fill_179 ?_
        first | refine e_ialdv 181 rfl dX10_fill_180 (by assumption) (by assumption) (by first | rfl | simp only [pk_mul, nI_add]) (by omega) (by omega) (by first | assumption | (simp only [mN_sF, mK_sF, mL_sF, mF_sF, mB_sF, mA_sF, mJ_sF, mP_sF, mO_sF, mN_sB, mK_sB, mL_sB, mF_sB, mB_sB, mA_sB, mJ_sB, mP_sB, mO_sB, mN_sA, mK_sA, mL_sA, mF_sA, mB_sA, mA_sA, mJ_sA, mP_sA, mO_sA, mN_sJ, mK_sJ, mL_sJ, mF_sJ, mB_sJ, mA_sJ, mJ_sJ, mP_sJ, mO_sJ, mN_sP, mK_sP, mL_sP, mF_sP, mB_sP, mA_sP, mJ_sP, mP_sP, mO_sP, mN_sO, mK_sO, mL_sO, mF_sO, mB_sO, mA_sO, mJ_sO, mP_sO, mO_sO, up2, if_true, if_false, eq_self, ite_true, ite_false, reduceIte, Nat.add_left_cancel_iff, Nat.add_eq_left, Nat.left_eq_add, Nat.reduceEqDiff]; assumption) | (simp only [mN_sF, mK_sF, mL_sF, mF_sF, mB_sF, mA_sF, mJ_sF, mP_sF, mO_sF, mN_sB, mK_sB, mL_sB, mF_sB, mB_sB, mA_sB, mJ_sB, mP_sB, mO_sB, mN_sA, mK_sA, mL_sA, mF_sA, mB_sA, mA_sA, mJ_sA, mP_sA, mO_sA, mN_sJ, mK_sJ, mL_sJ, mF_sJ, mB_sJ, mA_sJ, mJ_sJ, mP_sJ, mO_sJ, mN_sP, mK_sP, mL_sP, mF_sP, mB_sP, mA_sP, mJ_sP, mP_sP, mO_sP, mN_sO, mK_sO, mL_sO, mF_sO, mB_sO, mA_sO, mJ_sO, mP_sO, mO_sO, up2, if_true, if_false, eq_self, ite_true, ite_false, reduceIte, Nat.add_left_cancel_iff, Nat.add_eq_left, Nat.left_eq_add, Nat.reduceEqDiff]; done)) ?_ | refine e_iald 181 rfl dX10_fill_180 (by assumption) (by assumption) (by first | rfl | simp only [pk_mul, nI_add]) (by omega) (by omega) ?_
        refine e_if_ge 188 184 (by decide) rfl dX10_fill_181 (fun y2 => ?_) (fun y2 => ?_)
        · exact absurd y2 (by decide)
        refine e_iconst (nI 0) 185 rfl dX10_fill_184 ic_0 ?_
        refine e_goto 207 (by decide) dX10_fill_185 ?_
        refine e_is8 209 rfl dX10_fill_207 (by decide) rfl ?_
        refine e_il8 211 rfl dX10_fill_209 ?_
        first | refine e_if_neB 220 214 (by decide) rfl dX10_fill_211 rfl (fun y3 => ?_) (fun y3 => ?_) | refine e_if_neN 220 214 (by decide) rfl dX10_fill_211 rfl (by omega) (fun y3 => ?_) (fun y3 => ?_) | refine e_if_ne 220 214 (by decide) rfl dX10_fill_211 (fun y3 => ?_) (fun y3 => ?_)
        · exact absurd rfl y3
        refine e_ii7 (nI (_ + 1)) 217 rfl dX10_fill_214 (ii1 _) rfl ?_
        refine e_goto 111 (by decide) dX10_fill_217 ?_
        exact z
      have hcl : C w k < 1000 := by omega
      have hcv' : mA μ1 (m + 30) (7 * w + k) = nI (C w k) := by rw [hcv]; unfold cI; rw [if_pos hcl]
      rw [if_pos hcl] at hlen cont nolen
      have hp18 := hPO.2.2.2.2
      have hp31 : p < 2 ^ 31 := Nat.lt_trans hp18 (by decide)
      refine e_il4 113 rfl dX10_fill_111 ?_
      first | refine e_if_ltN 345 116 (by decide) rfl dX10_fill_113 rfl (by omega) ?_ | refine e_if_lt 345 116 (by decide) rfl dX10_fill_113 (fun h => ?_) (fun h => ?_)
      refine e_il7 118 rfl dX10_fill_116 ?_
      refine e_bipush (nI 7) 120 rfl dX10_fill_118 bc_7 ?_
      first | refine e_cmp_neN 168 123 (by decide) rfl dX10_fill_120 rfl rfl (by omega) (by omega) (fun y1 => ?_) (fun y1 => ?_) | refine e_cmp_ne 168 123 (by decide) rfl dX10_fill_120 (fun y1 => ?_) (fun y1 => ?_)
      rotate_left
      · omega
      refine e_al0 169 rfl dX10_fill_168 ?_
      refine e_getR 172 rfl dX10_fill_169 f_X10_102 (by assumption) (by assumption) ?_
      refine e_bipush (nI 7) 174 rfl dX10_fill_172 bc_7 ?_
      refine e_il4 176 rfl dX10_fill_174 ?_
      first | refine e_imulN 177 rfl dX10_fill_176 rfl rfl ?_ | refine e_imul 177 rfl dX10_fill_176 ?_
      refine e_il7 179 rfl dX10_fill_177 ?_
      first | refine e_iaddN 180 rfl dX10_fill_179 rfl rfl ?_ | refine e_iadd 180 rfl dX10_fill_179 ?_
      first | refine e_ialdv 181 rfl dX10_fill_180 (by assumption) (by assumption) (by first | rfl | simp only [pk_mul, nI_add]) (by omega) (by omega) (by first | assumption | (simp only [mN_sF, mK_sF, mL_sF, mF_sF, mB_sF, mA_sF, mJ_sF, mP_sF, mO_sF, mN_sB, mK_sB, mL_sB, mF_sB, mB_sB, mA_sB, mJ_sB, mP_sB, mO_sB, mN_sA, mK_sA, mL_sA, mF_sA, mB_sA, mA_sA, mJ_sA, mP_sA, mO_sA, mN_sJ, mK_sJ, mL_sJ, mF_sJ, mB_sJ, mA_sJ, mJ_sJ, mP_sJ, mO_sJ, mN_sP, mK_sP, mL_sP, mF_sP, mB_sP, mA_sP, mJ_sP, mP_sP, mO_sP, mN_sO, mK_sO, mL_sO, mF_sO, mB_sO, mA_sO, mJ_sO, mP_sO, mO_sO, up2, if_true, if_false, eq_self, ite_true, ite_false, reduceIte, Nat.add_left_cancel_iff, Nat.add_eq_left, Nat.left_eq_add, Nat.reduceEqDiff]; assumption) | (simp only [mN_sF, mK_sF, mL_sF, mF_sF, mB_sF, mA_sF, mJ_sF, mP_sF, mO_sF, mN_sB, mK_sB, mL_sB, mF_sB, mB_sB, mA_sB, mJ_sB, mP_sB, mO_sB, mN_sA, mK_sA, mL_sA, mF_sA, mB_sA, mA_sA, mJ_sA, mP_sA, mO_sA, mN_sJ, mK_sJ, mL_sJ, mF_sJ, mB_sJ, mA_sJ, mJ_sJ, mP_sJ, mO_sJ, mN_sP, mK_sP, mL_sP, mF_sP, mB_sP, mA_sP, mJ_sP, mP_sP, mO_sP, mN_sO, mK_sO, mL_sO, mF_sO, mB_sO, mA_sO, mJ_sO, mP_sO, mO_sO, up2, if_true, if_false, eq_self, ite_true, ite_false, reduceIte, Nat.add_left_cancel_iff, Nat.add_eq_left, Nat.left_eq_add, Nat.reduceEqDiff]; done)) ?_ | refine e_iald 181 rfl dX10_fill_180 (by assumption) (by assumption) (by first | rfl | simp only [pk_mul, nI_add]) (by omega) (by omega) ?_
      first | refine e_if_geN 188 184 (by decide) rfl dX10_fill_181 rfl (by omega) ?_ | refine e_if_ge 188 184 (by decide) rfl dX10_fill_181 (fun h => ?_) (fun h => ?_)
      refine e_al0 189 rfl dX10_fill_188 ?_
      refine e_il2 190 rfl dX10_fill_189 ?_
      refine e_al0 191 rfl dX10_fill_190 ?_
      refine e_il2 192 rfl dX10_fill_191 ?_
      refine e_al0 193 rfl dX10_fill_192 ?_
      refine e_getR 196 rfl dX10_fill_193 f_X10_105 (by assumption) (by assumption) ?_
      refine e_il4 198 rfl dX10_fill_196 ?_
      first | refine e_ialdv 199 rfl dX10_fill_198 (by assumption) (by assumption) (by first | rfl | simp only [pk_mul, nI_add]) (by omega) (by omega) (by first | assumption | (simp only [mN_sF, mK_sF, mL_sF, mF_sF, mB_sF, mA_sF, mJ_sF, mP_sF, mO_sF, mN_sB, mK_sB, mL_sB, mF_sB, mB_sB, mA_sB, mJ_sB, mP_sB, mO_sB, mN_sA, mK_sA, mL_sA, mF_sA, mB_sA, mA_sA, mJ_sA, mP_sA, mO_sA, mN_sJ, mK_sJ, mL_sJ, mF_sJ, mB_sJ, mA_sJ, mJ_sJ, mP_sJ, mO_sJ, mN_sP, mK_sP, mL_sP, mF_sP, mB_sP, mA_sP, mJ_sP, mP_sP, mO_sP, mN_sO, mK_sO, mL_sO, mF_sO, mB_sO, mA_sO, mJ_sO, mP_sO, mO_sO, up2, if_true, if_false, eq_self, ite_true, ite_false, reduceIte, Nat.add_left_cancel_iff, Nat.add_eq_left, Nat.left_eq_add, Nat.reduceEqDiff]; assumption) | (simp only [mN_sF, mK_sF, mL_sF, mF_sF, mB_sF, mA_sF, mJ_sF, mP_sF, mO_sF, mN_sB, mK_sB, mL_sB, mF_sB, mB_sB, mA_sB, mJ_sB, mP_sB, mO_sB, mN_sA, mK_sA, mL_sA, mF_sA, mB_sA, mA_sA, mJ_sA, mP_sA, mO_sA, mN_sJ, mK_sJ, mL_sJ, mF_sJ, mB_sJ, mA_sJ, mJ_sJ, mP_sJ, mO_sJ, mN_sP, mK_sP, mL_sP, mF_sP, mB_sP, mA_sP, mJ_sP, mP_sP, mO_sP, mN_sO, mK_sO, mL_sO, mF_sO, mB_sO, mA_sO, mJ_sO, mP_sO, mO_sO, up2, if_true, if_false, eq_self, ite_true, ite_false, reduceIte, Nat.add_left_cancel_iff, Nat.add_eq_left, Nat.left_eq_add, Nat.reduceEqDiff]; done)) ?_ | refine e_iald 199 rfl dX10_fill_198 (by assumption) (by assumption) (by first | rfl | simp only [pk_mul, nI_add]) (by omega) (by omega) ?_
      refine e_il7 201 rfl dX10_fill_199 ?_
      refine e_invV0 [_, _, _] 204 rfl dX10_fill_201 k_X10_203 mo_X10_goes rm_X10_fill_X10_goes ⟨rfl, rfl⟩ rfl rfl (by assumption) (Nat.le_of_ble_eq_true rfl) ?_
      refine c_goes hg1 hl hs1 h8 hw hp18 hk7 (fun g hg18 hgb => ?_)
      refine e_invV0 [_, _] 207 rfl dX10_fill_204 k_X10_199 mo_X10_slips rm_X10_fill_X10_slips ⟨rfl, rfl⟩ rfl rfl (by assumption) (Nat.le_of_ble_eq_true rfl) ?_
      refine c_slips hg1 hl hs1 h8 hw hg18 (fun b hb18 hbb => ?_)
      have hPO2 := PO_step h8 hPO hgb hbb hb18
      have hb31 : b < 2 ^ 31 := Nat.lt_trans hb18 (by decide)
      have hz := PO_zero h8 hPO2
      refine e_is8 209 rfl dX10_fill_207 (by decide) rfl ?_
      refine e_il8 211 rfl dX10_fill_209 ?_
      first | refine e_if_neB 220 214 (by decide) rfl dX10_fill_211 rfl (fun y3 => ?_) (fun y3 => ?_) | refine e_if_neN 220 214 (by decide) rfl dX10_fill_211 rfl (by omega) (fun y3 => ?_) (fun y3 => ?_) | refine e_if_ne 220 214 (by decide) rfl dX10_fill_211 (fun y3 => ?_) (fun y3 => ?_)
      rotate_left
      · refine e_ii7 (nI (_ + 1)) 217 rfl dX10_fill_214 (ii1 _) rfl ?_
        refine e_goto 111 (by decide) dX10_fill_217 ?_
        refine nolen (AR_nil (fun d hd => Rn_ne h8 hd (hz.mp y3))) _ rfl
      have en : n - 1 - w = f + 1 := by omega
      rw [en, tlK_0 (n := n) (show n - (w + 1) = f + 1 by omega)] at hlen cont
      refine e_il4 222 rfl dX10_fill_220 ?_
      refine e_il3 223 rfl dX10_fill_222 ?_
      refine e_iconst (nI 1) 224 rfl dX10_fill_223 ic_1 ?_
      first | refine e_isubN 225 rfl dX10_fill_224 rfl rfl (by omega) ?_ | refine e_isub 225 rfl dX10_fill_224 ?_
      first | refine e_cmp_neN 300 228 (by decide) rfl dX10_fill_225 rfl rfl (by omega) (by omega) (fun y4 => ?_) (fun y4 => ?_) | refine e_cmp_ne 300 228 (by decide) rfl dX10_fill_225 (fun y4 => ?_) (fun y4 => ?_)
      rotate_left
      · omega
      refine e_il6 302 rfl dX10_fill_300 ?_
      refine e_al0 303 rfl dX10_fill_302 ?_
      refine e_getR 306 rfl dX10_fill_303 f_X10_102 (by assumption) (by assumption) ?_
      refine e_bipush (nI 7) 308 rfl dX10_fill_306 bc_7 ?_
      refine e_il4 310 rfl dX10_fill_308 ?_
      first | refine e_imulN 311 rfl dX10_fill_310 rfl rfl ?_ | refine e_imul 311 rfl dX10_fill_310 ?_
      refine e_il7 313 rfl dX10_fill_311 ?_
      first | refine e_iaddN 314 rfl dX10_fill_313 rfl rfl ?_ | refine e_iadd 314 rfl dX10_fill_313 ?_
      first | refine e_ialdv 315 rfl dX10_fill_314 (by assumption) (by assumption) (by first | rfl | simp only [pk_mul, nI_add]) (by omega) (by omega) (by first | assumption | (simp only [mN_sF, mK_sF, mL_sF, mF_sF, mB_sF, mA_sF, mJ_sF, mP_sF, mO_sF, mN_sB, mK_sB, mL_sB, mF_sB, mB_sB, mA_sB, mJ_sB, mP_sB, mO_sB, mN_sA, mK_sA, mL_sA, mF_sA, mB_sA, mA_sA, mJ_sA, mP_sA, mO_sA, mN_sJ, mK_sJ, mL_sJ, mF_sJ, mB_sJ, mA_sJ, mJ_sJ, mP_sJ, mO_sJ, mN_sP, mK_sP, mL_sP, mF_sP, mB_sP, mA_sP, mJ_sP, mP_sP, mO_sP, mN_sO, mK_sO, mL_sO, mF_sO, mB_sO, mA_sO, mJ_sO, mP_sO, mO_sO, up2, if_true, if_false, eq_self, ite_true, ite_false, reduceIte, Nat.add_left_cancel_iff, Nat.add_eq_left, Nat.left_eq_add, Nat.reduceEqDiff]; assumption) | (simp only [mN_sF, mK_sF, mL_sF, mF_sF, mB_sF, mA_sF, mJ_sF, mP_sF, mO_sF, mN_sB, mK_sB, mL_sB, mF_sB, mB_sB, mA_sB, mJ_sB, mP_sB, mO_sB, mN_sA, mK_sA, mL_sA, mF_sA, mB_sA, mA_sA, mJ_sA, mP_sA, mO_sA, mN_sJ, mK_sJ, mL_sJ, mF_sJ, mB_sJ, mA_sJ, mJ_sJ, mP_sJ, mO_sJ, mN_sP, mK_sP, mL_sP, mF_sP, mB_sP, mA_sP, mJ_sP, mP_sP, mO_sP, mN_sO, mK_sO, mL_sO, mF_sO, mB_sO, mA_sO, mJ_sO, mP_sO, mO_sO, up2, if_true, if_false, eq_self, ite_true, ite_false, reduceIte, Nat.add_left_cancel_iff, Nat.add_eq_left, Nat.left_eq_add, Nat.reduceEqDiff]; done)) ?_ | refine e_iald 315 rfl dX10_fill_314 (by assumption) (by assumption) (by first | rfl | simp only [pk_mul, nI_add]) (by omega) (by omega) ?_
      first | refine e_iaddN 316 rfl dX10_fill_315 rfl rfl ?_ | refine e_iadd 316 rfl dX10_fill_315 ?_
      refine e_is6 318 rfl dX10_fill_316 (by decide) rfl ?_
      refine e_il5 320 rfl dX10_fill_318 ?_
      refine e_iconst (nI 3) 321 rfl dX10_fill_320 ic_3 ?_
      refine e_ishl 322 rfl dX10_fill_321 ?_
      refine e_il7 324 rfl dX10_fill_322 ?_
      (rw [nI_shl (v := r) (s := 3) (by decide) (by omega)]; refine e_iorN 325 rfl dX10_fill_324 rfl rfl ?_)
      refine e_is5 327 rfl dX10_fill_325 (by decide) rfl ?_
      refine e_ii4 (nI (_ + 1)) 330 rfl dX10_fill_327 (ii1 _) rfl ?_
      rw [or3 (show k < 8 by omega)]
      refine e_al0 331 rfl dX10_fill_330 ?_
      refine e_getR 334 rfl dX10_fill_331 f_X10_105 (by assumption) (by assumption) ?_
      refine e_il4 336 rfl dX10_fill_334 ?_
      refine e_il8 338 rfl dX10_fill_336 ?_
      refine e_iast 339 rfl dX10_fill_338 (by assumption) (by assumption) (by first | rfl | simp only [pk_mul, nI_add]) (by omega) (by omega) ?_
      refine e_iconst (nI 0) 340 rfl dX10_fill_339 ic_0 ?_
      refine e_is7 342 rfl dX10_fill_340 (by decide) rfl ?_
      refine e_goto 111 (by decide) dX10_fill_342 ?_
      rw [← List.append_assoc] at hlen cont
      have hp3 : ∀ j, mA (sA μ1 (m + 31) (w + 1) (nI b)) (m + 31) j = if j = w + 1 then nI b else mA μ1 (m + 31) j := fun j => by rw [sA_s]
      have hR3 : mRw (sA μ1 (m + 31) (w + 1) (nI b)) m out := ⟨hR1.1, by rw [sA_o (by omega), sA_o (by omega)]; exact hR1.2⟩
      have hF3 := hF1.sA S31 (w + 1) (nI b)
      have hf3 : ∀ g, g ≠ 44 → mF (sA μ1 (m + 31) (w + 1) (nI b)) m g = mF μ m g := hf1
      generalize sA μ1 (m + 31) (w + 1) (nI b) = μ3 at hp3 hR3 hF3 hf3 ⊢
      have hpow : 8 ^ (w + 1) = 8 ^ w * 8 := Nat.pow_succ ..
      refine ihf (w + 1) (by omega) 7 0 (by omega) (c + C w k) (r * 8 + k) (stp sl o k) b out μ3 _ rfl (by omega) (by omega) hPO2 hF3 hf3 (by rw [hp3, if_pos rfl]) hR3 (by rw [List.length_append] at hlen; omega) (fun μ4 q8 hq8 hF4 hf4 hpl4 hR4 => ?_)
      have hg4 := hg.fr hF4
      have mk4 := hg4.1
      obtain ⟨pc4, kc4, lc4⟩ := hg4.costs
      have hcv4 : mA μ4 (m + 30) (7 * w + k) = nI (C w k) := by
        rw [(hF4.2.2.2.2.2 (m + 30) (nS _ (by omega))).2.2.1, hC w (by omega) k hk7]
        unfold cI
        rw [if_pos hcl]
      refine e_il4 113 rfl dX10_fill_111 ?_
      first | refine e_if_ltN 345 116 (by decide) rfl dX10_fill_113 rfl (by omega) ?_ | refine e_if_lt 345 116 (by decide) rfl dX10_fill_113 (fun h => ?_) (fun h => ?_)
      refine e_il7 118 rfl dX10_fill_116 ?_
      refine e_bipush (nI 7) 120 rfl dX10_fill_118 bc_7 ?_
      first | refine e_cmp_neN 168 123 (by decide) rfl dX10_fill_120 rfl rfl (by omega) (by omega) (fun y6 => ?_) (fun y6 => ?_) | refine e_cmp_ne 168 123 (by decide) rfl dX10_fill_120 (fun y6 => ?_) (fun y6 => ?_)
      · exact absurd rfl y6
      refine e_ii4 (nI _) 126 rfl dX10_fill_123 (iim1 _) rfl ?_
      refine e_il4 128 rfl dX10_fill_126 ?_
      first | refine e_if_ltN 111 131 (by decide) rfl dX10_fill_128 rfl (by omega) ?_ | refine e_if_lt 111 131 (by decide) rfl dX10_fill_128 (fun h => ?_) (fun h => ?_)
      have ek : (r * 8 + k) &&& 7 = k := by
        have := Nat.and_two_pow_sub_one_eq_mod (r * 8 + k) 3
        rw [show (2 : Nat) ^ 3 - 1 = 7 by decide] at this
        rw [this]; omega
      have er : (r * 8 + k) >>> 3 = r := by rw [Nat.shiftRight_eq_div_pow]; omega
      refine e_il5 133 rfl dX10_fill_131 ?_
      refine e_bipush (nI 7) 135 rfl dX10_fill_133 bc_7 ?_
      (refine e_iandN 136 rfl dX10_fill_135 rfl rfl ?_; rw [ek])
      refine e_is7 138 rfl dX10_fill_136 (by decide) rfl ?_
      refine e_il5 140 rfl dX10_fill_138 ?_
      refine e_iconst (nI 3) 141 rfl dX10_fill_140 ic_3 ?_
      (refine e_ishrN 142 rfl dX10_fill_141 rfl rfl (by omega) (by omega) ?_; rw [er])
      refine e_is5 144 rfl dX10_fill_142 (by decide) rfl ?_
      refine e_il6 146 rfl dX10_fill_144 ?_
      refine e_al0 147 rfl dX10_fill_146 ?_
      refine e_getR 150 rfl dX10_fill_147 f_X10_102 (by assumption) (by assumption) ?_
      refine e_bipush (nI 7) 152 rfl dX10_fill_150 bc_7 ?_
      refine e_il4 154 rfl dX10_fill_152 ?_
      first | refine e_imulN 155 rfl dX10_fill_154 rfl rfl ?_ | refine e_imul 155 rfl dX10_fill_154 ?_
      refine e_il7 157 rfl dX10_fill_155 ?_
      first | refine e_iaddN 158 rfl dX10_fill_157 rfl rfl ?_ | refine e_iadd 158 rfl dX10_fill_157 ?_
      first | refine e_ialdv 159 rfl dX10_fill_158 (by assumption) (by assumption) (by first | rfl | simp only [pk_mul, nI_add]) (by omega) (by omega) (by first | assumption | (simp only [mN_sF, mK_sF, mL_sF, mF_sF, mB_sF, mA_sF, mJ_sF, mP_sF, mO_sF, mN_sB, mK_sB, mL_sB, mF_sB, mB_sB, mA_sB, mJ_sB, mP_sB, mO_sB, mN_sA, mK_sA, mL_sA, mF_sA, mB_sA, mA_sA, mJ_sA, mP_sA, mO_sA, mN_sJ, mK_sJ, mL_sJ, mF_sJ, mB_sJ, mA_sJ, mJ_sJ, mP_sJ, mO_sJ, mN_sP, mK_sP, mL_sP, mF_sP, mB_sP, mA_sP, mJ_sP, mP_sP, mO_sP, mN_sO, mK_sO, mL_sO, mF_sO, mB_sO, mA_sO, mJ_sO, mP_sO, mO_sO, up2, if_true, if_false, eq_self, ite_true, ite_false, reduceIte, Nat.add_left_cancel_iff, Nat.add_eq_left, Nat.left_eq_add, Nat.reduceEqDiff]; assumption) | (simp only [mN_sF, mK_sF, mL_sF, mF_sF, mB_sF, mA_sF, mJ_sF, mP_sF, mO_sF, mN_sB, mK_sB, mL_sB, mF_sB, mB_sB, mA_sB, mJ_sB, mP_sB, mO_sB, mN_sA, mK_sA, mL_sA, mF_sA, mB_sA, mA_sA, mJ_sA, mP_sA, mO_sA, mN_sJ, mK_sJ, mL_sJ, mF_sJ, mB_sJ, mA_sJ, mJ_sJ, mP_sJ, mO_sJ, mN_sP, mK_sP, mL_sP, mF_sP, mB_sP, mA_sP, mJ_sP, mP_sP, mO_sP, mN_sO, mK_sO, mL_sO, mF_sO, mB_sO, mA_sO, mJ_sO, mP_sO, mO_sO, up2, if_true, if_false, eq_self, ite_true, ite_false, reduceIte, Nat.add_left_cancel_iff, Nat.add_eq_left, Nat.left_eq_add, Nat.reduceEqDiff]; done)) ?_ | refine e_iald 159 rfl dX10_fill_158 (by assumption) (by assumption) (by first | rfl | simp only [pk_mul, nI_add]) (by omega) (by omega) ?_
      first | refine e_isubN 160 rfl dX10_fill_159 rfl rfl (by omega) ?_ | refine e_isub 160 rfl dX10_fill_159 ?_
      refine e_is6 162 rfl dX10_fill_160 (by decide) rfl ?_
      refine e_ii7 (nI (_ + 1)) 165 rfl dX10_fill_162 (ii1 _) rfl ?_
      refine e_goto 111 (by decide) dX10_fill_165 ?_
      rw [show c + C w k - C w k = c by omega]
      exact ih (k + 1) (by omega) c r o p (out ++ tlK sl C n (w + 1) 0 (c + C w k) (r * 8 + k) (stp sl o k)) μ4 q8 hq8 hc hr hPO hF4 hf4 (by rw [hpl4 w (by omega), hp3, if_neg (by omega)]; exact hp1) hR4 hlen (fun μ5 r8 hr8 hF5 hf5 hpl5 hR5 => cont μ5 r8 hr8 hF5 hf5 (fun j hj => by rw [hpl5 j hj, hpl4 j (by omega), hp3, if_neg (by omega)]) hR5)
end MFILL
