/-! NameDesk$Reader: sortByCost -/
section SORT
variable {E : En} {μ : Mm} {K : Option Value → Mm → Prop}
def cE (R : List Rw) (c : Nat) : Nat := (R.filter (fun x => decide (x.1 = c))).length
def cL (R : List Rw) (c : Nat) : Nat := (R.filter (fun x => decide (x.1 < c))).length
theorem cL_s (R : List Rw) (c : Nat) : cL R (c + 1) = cL R c + cE R c := by
  unfold cL cE
  induction R with
  | nil => rfl
  | cons x R ih =>
    simp only [List.filter_cons]
    by_cases h1 : x.1 < c
    · rw [if_pos (by simp; omega), if_pos (by simp; omega), if_neg (by simp; omega)]; simp only [List.length_cons]; omega
    · by_cases h2 : x.1 = c
      · rw [if_pos (by simp; omega), if_neg (by simp; omega), if_pos (by simp; omega)]; simp only [List.length_cons]; omega
      · rw [if_neg (by simp; omega), if_neg (by simp; omega), if_neg (by simp; omega)]; exact ih
theorem cL_0 (R : List Rw) : cL R 0 = 0 := by unfold cL; simp
theorem cL_le (R : List Rw) (c : Nat) : cL R c ≤ R.length := List.length_filter_le _ _
theorem cL_all {R : List Rw} {n : Nat} (h : ∀ x ∈ R, x.1 < n) : cL R n = R.length := by
  unfold cL
  rw [List.filter_eq_self.mpr (fun x hx => by simpa using h x hx)]
theorem cL_mono (R : List Rw) (c d : Nat) (h : c ≤ d) : cL R c ≤ cL R d := by
  induction d with
  | zero => rw [show c = 0 by omega]; exact Nat.le_refl _
  | succ d ih =>
    by_cases e : c = d + 1
    · rw [e]; exact Nat.le_refl _
    · rw [cL_s]; have := ih (by omega); omega
theorem cE_take {R : List Rw} {i : Nat} (h : i < R.length) (c : Nat) : cE (R.take (i + 1)) c = cE (R.take i) c + if R[i].1 = c then 1 else 0 := by
  unfold cE
  rw [List.take_succ_eq_append_getElem h, List.filter_append, List.length_append]
  congr 1
  by_cases e : R[i].1 = c
  · rw [if_pos e]; simp [e]
  · rw [if_neg e]; simp [e]
theorem cE_tl (R : List Rw) (j c : Nat) : cE (R.take j) c ≤ cE R c := by
  unfold cE
  conv => rhs; rw [← List.take_append_drop j R, List.filter_append, List.length_append]
  omega
/-- sorted by the cost -/
def SRr (R : List Rw) (n : Nat) : List Rw := (List.range n).flatMap (fun c => R.filter (fun x => decide (x.1 = c)))
theorem SRr_s (R : List Rw) (n : Nat) : SRr R (n + 1) = SRr R n ++ R.filter (fun x => decide (x.1 = n)) := by unfold SRr; rw [List.range_succ, List.flatMap_append]; simp
theorem SRr_len (R : List Rw) : ∀ n, (SRr R n).length = cL R n := by
  intro n
  induction n with
  | zero => rw [cL_0]; rfl
  | succ n ih => rw [SRr_s, List.length_append, ih, cL_s]; rfl
theorem filt_get {p : Rw → Bool} : ∀ (R : List Rw) (q : Nat) (x : Rw), (R.filter p)[q]? = some x → ∃ j, R[j]? = some x ∧ p x = true ∧ ((R.take j).filter p).length = q := by
  intro R
  induction R with
  | nil => intro q x h; simp at h
  | cons y R ih =>
    intro q x h
    rw [List.filter_cons] at h
    by_cases e : p y = true
    · rw [if_pos e] at h
      cases q with
      | zero => simp at h; subst h; exact ⟨0, rfl, e, rfl⟩
      | succ q =>
        rw [List.getElem?_cons_succ] at h
        obtain ⟨j, a, b, c⟩ := ih q x h
        exact ⟨j + 1, by rw [List.getElem?_cons_succ]; exact a, b, by rw [List.take_succ_cons, List.filter_cons, if_pos e, List.length_cons, c]⟩
    · rw [if_neg e] at h
      obtain ⟨j, a, b, c⟩ := ih q x h
      exact ⟨j + 1, by rw [List.getElem?_cons_succ]; exact a, b, by rw [List.take_succ_cons, List.filter_cons, if_neg e, c]⟩
theorem SRr_get (R : List Rw) : ∀ (n p : Nat) (x : Rw), (SRr R n)[p]? = some x → ∃ j, R[j]? = some x ∧ p = cL R x.1 + cE (R.take j) x.1 := by
  intro n
  induction n with
  | zero => intro p x h; simp [SRr] at h
  | succ n ih =>
    intro p x h
    rw [SRr_s] at h
    by_cases e : p < (SRr R n).length
    · rw [List.getElem?_append_left e] at h; exact ih p x h
    · rw [List.getElem?_append_right (by omega), SRr_len] at h
      rw [SRr_len] at e
      obtain ⟨j, a, b, c⟩ := filt_get R _ x h
      have b' : x.1 = n := of_decide_eq_true b
      refine ⟨j, a, ?_⟩
      rw [b']
      unfold cE
      omega
theorem c_costIn {x : Rw} (hok : eOK x) (k : K (some (.int (nI x.1))) μ) : Cl E M_X3_costIn [.long (nL (enc x))] μ K := by
  have h40 := hok.1
  refine Cl.of0 0 pn_X3 (Nat.le_of_ble_eq_true rfl) ⟨rfl, rfl⟩ rfl ?_
  refine e_iconst (nI 0) 1 rfl dX3_costIn_0 ic_0 ?_
  refine e_ll0 2 rfl dX3_costIn_1 ?_
  refine e_bipush (nI 40) 4 rfl dX3_costIn_2 bc_40 ?_
  refine e_lshrN 5 rfl dX3_costIn_4 rfl rfl (enc_lt hok) (by decide) ?_
  rw [enc_c hok]
  refine e_l2iN 6 rfl dX3_costIn_5 rfl ?_
  refine e_bipush (nI 40) 8 rfl dX3_costIn_6 bc_40 ?_
  first | refine e_minN 11 rfl dX3_costIn_8 k_X3_47 (Nat.le_of_ble_eq_true rfl) (Nat.le_of_ble_eq_true rfl) rfl rfl (by omega) (by omega) ?_ | refine e_min 11 rfl dX3_costIn_8 k_X3_47 (Nat.le_of_ble_eq_true rfl) (Nat.le_of_ble_eq_true rfl) ?_
  first | refine e_maxN 14 rfl dX3_costIn_11 k_X3_116 (Nat.le_of_ble_eq_true rfl) (Nat.le_of_ble_eq_true rfl) rfl rfl (by omega) (by omega) ?_ | refine e_max 14 rfl dX3_costIn_11 k_X3_116 (Nat.le_of_ble_eq_true rfl) (Nat.le_of_ble_eq_true rfl) ?_
  refine e_iret dX3_costIn_14 rfl ?_
  rw [show max 0 (min x.1 40) = x.1 by omega]
  exact k
def soS (r : Nat) : Nat → Prop := fun q => q = r ∨ q = r + 28 ∨ q = r + 29 ∨ q = r + 30
theorem c_sortByCost {r ra sa : Nat} {R : List Rw} (hg : Rg μ r) (hp : Rp μ r ra sa) (hR : HJ (mJ μ ra) R) (hRl : mF μ r 6 = nI R.length) (hR6 : R.length ≤ 6435) (hok : ∀ x ∈ R, eOK x)
    (k : ∀ μ', Fx (soS r) μ μ' → Rp μ' r sa ra → (∀ f, mF μ' r f = mF μ r f) → (∀ f, f ≠ 4 → f ≠ 5 → mP μ' r f = mP μ r f) → HJ (mJ μ' sa) (SRr R 41) → (∀ c, c ≤ 40 → mA μ' (r + 30) c = nI (cL R (c + 1))) → K none μ') : Cl E M_X3_sortByCost [.ref r] μ K := by
  have hgeo := hp.2.2
  have hall : cL R 41 = R.length := cL_all (fun x hx => by have := (hok x hx).1; omega)
  have keep : ∀ μ1, Fr (fun q => q = sa ∨ q = r + 30) μ μ1 → (mK μ1 r = 4 ∧ mP μ1 r 7 = some (r + 30) ∧ mK μ1 (r + 30) = 13 ∧ mL μ1 (r + 30) = 41 ∧ mP μ1 r 4 = some ra ∧ mP μ1 r 5 = some sa ∧ mK μ1 ra = 14 ∧ mL μ1 ra = 6435 ∧ mK μ1 sa = 14 ∧ mL μ1 sa = 6435) ∧ HJ (mJ μ1 ra) R ∧ mF μ1 r 6 = nI R.length ∧ ∀ f, mF μ1 r f = mF μ r f := by
    intro μ1 hF
    obtain ⟨⟨gk, g2, g3, g7, k10, l10, k19, l19, k28, l28, k29, l29, k30, l30⟩, gw⟩ := hg
    have hfr := (hF.2.2.2.2.2 r (by omega)).1
    refine ⟨?_, by rw [(hF.2.2.2.2.2 ra (by omega)).2.2.2]; exact hR, by rw [hfr]; exact hRl, fun f => by rw [hfr]⟩
    rw [hF.2.1, hF.2.2.1, hF.2.2.2.1]
    refine ⟨gk, g7, k30, l30, hp.1, hp.2.1, ?_, ?_, ?_, ?_⟩
    · rcases hgeo with q | q <;> rw [q.1] <;> assumption
    · rcases hgeo with q | q <;> rw [q.1] <;> assumption
    · rcases hgeo with q | q <;> rw [q.2] <;> assumption
    · rcases hgeo with q | q <;> rw [q.2] <;> assumption
  have S30 : (fun q => q = sa ∨ q = r + 30) (r + 30) := Or.inr rfl
  have Ssa : (fun q => q = sa ∨ q = r + 30) sa := Or.inl rfl
  -- the last loop, behind the swap
  have loop5 : ∀ (fu c : Nat), c + fu = 40 → ∀ μ1 y2, Fr (fun q => q = sa ∨ q = r + 30) (sP (sP μ r 4 (some sa)) r 5 (some ra)) μ1 → HJ (mJ μ1 sa) (SRr R 41) → (∀ c', c' < c → mA μ1 (r + 30) c' = nI (cL R (c' + 1))) → (∀ c', c ≤ c' → c' ≤ 40 → mA μ1 (r + 30) c' = nI (cL R c')) → Ev E M_X3_sortByCost 0 0 146 [some (.ref r), some (.int (nI c)), y2] [] μ1 K := by
    have k5 : ∀ μ1, Fr (fun q => q = sa ∨ q = r + 30) (sP (sP μ r 4 (some sa)) r 5 (some ra)) μ1 → (mK μ1 r = 4 ∧ mP μ1 r 7 = some (r + 30) ∧ mK μ1 (r + 30) = 13 ∧ mL μ1 (r + 30) = 41 ∧ mF μ1 r 6 = nI R.length) ∧ ∀ f, mF μ1 r f = mF μ r f := by
      intro μ1 hF
      obtain ⟨⟨e1, e2, e3, e4, _⟩, e5, e6, e7⟩ := keep μ Fr.rf
      have hfr := (hF.2.2.2.2.2 r (by omega)).1
      refine ⟨⟨by rw [hF.2.1]; exact e1, ?_, by rw [hF.2.1]; exact e3, by rw [hF.2.2.1]; exact e4, by rw [hfr]; exact e6⟩, fun f => by rw [hfr]; rfl⟩
      rw [hF.2.2.2.1]
      show up2 (up2 _ r 4 _) r 5 _ r 7 = _
      rw [up2_k (by decide), up2_k (by decide)]; exact e2
    intro fu
    induction fu with
    | zero =>
      intro c hc μ1 y2 hF hH h1 h2
      obtain ⟨⟨a1, a2, a3, a4, a5⟩, a6⟩ := k5 μ1 hF
      refine e_il1 147 rfl dX3_sortByCost_146 ?_
      refine e_bipush (nI 40) 149 rfl dX3_sortByCost_147 bc_40 ?_
      first | refine e_cmp_geN 172 152 (by decide) rfl dX3_sortByCost_149 rfl rfl (by omega) (by omega) (fun y1 => ?_) (fun y1 => ?_) | refine e_cmp_ge 172 152 (by decide) rfl dX3_sortByCost_149 (fun y1 => ?_) (fun y1 => ?_)
      rotate_left
      · omega
      refine e_al0 173 rfl dX3_sortByCost_172 ?_
      refine e_getR 176 rfl dX3_sortByCost_173 f_X3_40 (by assumption) (by assumption) ?_
      refine e_bipush (nI 40) 178 rfl dX3_sortByCost_176 bc_40 ?_
      refine e_al0 179 rfl dX3_sortByCost_178 ?_
      first | refine e_getIv 182 rfl dX3_sortByCost_179 f_X3_37 (by assumption) (by first | assumption | (simp only [mN_sF, mK_sF, mL_sF, mF_sF, mB_sF, mA_sF, mJ_sF, mP_sF, mO_sF, mN_sB, mK_sB, mL_sB, mF_sB, mB_sB, mA_sB, mJ_sB, mP_sB, mO_sB, mN_sA, mK_sA, mL_sA, mF_sA, mB_sA, mA_sA, mJ_sA, mP_sA, mO_sA, mN_sJ, mK_sJ, mL_sJ, mF_sJ, mB_sJ, mA_sJ, mJ_sJ, mP_sJ, mO_sJ, mN_sP, mK_sP, mL_sP, mF_sP, mB_sP, mA_sP, mJ_sP, mP_sP, mO_sP, mN_sO, mK_sO, mL_sO, mF_sO, mB_sO, mA_sO, mJ_sO, mP_sO, mO_sO, up2, if_true, if_false, eq_self, ite_true, ite_false, reduceIte, Nat.add_left_cancel_iff, Nat.add_eq_left, Nat.left_eq_add, Nat.reduceEqDiff]; assumption) | (simp only [mN_sF, mK_sF, mL_sF, mF_sF, mB_sF, mA_sF, mJ_sF, mP_sF, mO_sF, mN_sB, mK_sB, mL_sB, mF_sB, mB_sB, mA_sB, mJ_sB, mP_sB, mO_sB, mN_sA, mK_sA, mL_sA, mF_sA, mB_sA, mA_sA, mJ_sA, mP_sA, mO_sA, mN_sJ, mK_sJ, mL_sJ, mF_sJ, mB_sJ, mA_sJ, mJ_sJ, mP_sJ, mO_sJ, mN_sP, mK_sP, mL_sP, mF_sP, mB_sP, mA_sP, mJ_sP, mP_sP, mO_sP, mN_sO, mK_sO, mL_sO, mF_sO, mB_sO, mA_sO, mJ_sO, mP_sO, mO_sO, up2, if_true, if_false, eq_self, ite_true, ite_false, reduceIte, Nat.add_left_cancel_iff, Nat.add_eq_left, Nat.left_eq_add, Nat.reduceEqDiff]; done)) ?_ | refine e_getI 182 rfl dX3_sortByCost_179 f_X3_37 (by assumption) ?_
      refine e_iast 183 rfl dX3_sortByCost_182 (by assumption) (by assumption) (by first | rfl | simp only [pk_mul, nI_add]) (by omega) (by omega) ?_
      refine e_ret dX3_sortByCost_183 rfl ?_
      have hX : Fx (soS r) μ (sA μ1 (r + 30) 40 (nI R.length)) := (((Fx.rf.sP (Or.inl rfl) _ _).sP (Or.inl rfl) _ _).trans (hF.fx.mono (fun q h => by unfold soS; omega))).sA (Or.inr (Or.inr (Or.inr rfl))) _ _
      refine k _ hX ⟨?_, ?_, by omega⟩ (fun f => a6 f) (fun f b1 b2 => ?_) hH (fun c' hc' => ?_)
      · show mP μ1 r 4 = _
        rw [hF.2.2.2.1]
        show up2 (up2 _ r 4 _) r 5 _ r 4 = _
        rw [up2_k (by decide), up2_s]
      · show mP μ1 r 5 = _
        rw [hF.2.2.2.1]
        show up2 (up2 _ r 4 _) r 5 _ r 5 = _
        rw [up2_s]
      · show mP μ1 r f = _
        rw [hF.2.2.2.1]
        show up2 (up2 _ r 4 _) r 5 _ r f = _
        rw [up2_k b2, up2_k b1]
      · show up2 _ (r + 30) _ _ (r + 30) c' = _
        by_cases e : c' = 40
        · rw [e, up2_s, hall]
        · rw [up2_k e]; exact h1 c' (by omega)
    | succ fu ih =>
      intro c hc μ1 y2 hF hH h1 h2
      obtain ⟨⟨a1, a2, a3, a4, a5⟩, a6⟩ := k5 μ1 hF
      have hv := h2 (c + 1) (by omega) (by omega)
      refine e_il1 147 rfl dX3_sortByCost_146 ?_
      refine e_bipush (nI 40) 149 rfl dX3_sortByCost_147 bc_40 ?_
      first | refine e_cmp_geN 172 152 (by decide) rfl dX3_sortByCost_149 rfl rfl (by omega) (by omega) (fun y1 => ?_) (fun y1 => ?_) | refine e_cmp_ge 172 152 (by decide) rfl dX3_sortByCost_149 (fun y1 => ?_) (fun y1 => ?_)
      · omega
      refine e_al0 153 rfl dX3_sortByCost_152 ?_
      refine e_getR 156 rfl dX3_sortByCost_153 f_X3_40 (by assumption) (by assumption) ?_
      refine e_il1 157 rfl dX3_sortByCost_156 ?_
      refine e_al0 158 rfl dX3_sortByCost_157 ?_
      refine e_getR 161 rfl dX3_sortByCost_158 f_X3_40 (by assumption) (by assumption) ?_
      refine e_il1 162 rfl dX3_sortByCost_161 ?_
      refine e_iconst (nI 1) 163 rfl dX3_sortByCost_162 ic_1 ?_
      first | refine e_iaddN 164 rfl dX3_sortByCost_163 rfl rfl ?_ | refine e_iadd 164 rfl dX3_sortByCost_163 ?_
      first | refine e_ialdv 165 rfl dX3_sortByCost_164 (by assumption) (by assumption) (by first | rfl | simp only [pk_mul, nI_add]) (by omega) (by omega) (by first | assumption | (simp only [mN_sF, mK_sF, mL_sF, mF_sF, mB_sF, mA_sF, mJ_sF, mP_sF, mO_sF, mN_sB, mK_sB, mL_sB, mF_sB, mB_sB, mA_sB, mJ_sB, mP_sB, mO_sB, mN_sA, mK_sA, mL_sA, mF_sA, mB_sA, mA_sA, mJ_sA, mP_sA, mO_sA, mN_sJ, mK_sJ, mL_sJ, mF_sJ, mB_sJ, mA_sJ, mJ_sJ, mP_sJ, mO_sJ, mN_sP, mK_sP, mL_sP, mF_sP, mB_sP, mA_sP, mJ_sP, mP_sP, mO_sP, mN_sO, mK_sO, mL_sO, mF_sO, mB_sO, mA_sO, mJ_sO, mP_sO, mO_sO, up2, if_true, if_false, eq_self, ite_true, ite_false, reduceIte, Nat.add_left_cancel_iff, Nat.add_eq_left, Nat.left_eq_add, Nat.reduceEqDiff]; assumption) | (simp only [mN_sF, mK_sF, mL_sF, mF_sF, mB_sF, mA_sF, mJ_sF, mP_sF, mO_sF, mN_sB, mK_sB, mL_sB, mF_sB, mB_sB, mA_sB, mJ_sB, mP_sB, mO_sB, mN_sA, mK_sA, mL_sA, mF_sA, mB_sA, mA_sA, mJ_sA, mP_sA, mO_sA, mN_sJ, mK_sJ, mL_sJ, mF_sJ, mB_sJ, mA_sJ, mJ_sJ, mP_sJ, mO_sJ, mN_sP, mK_sP, mL_sP, mF_sP, mB_sP, mA_sP, mJ_sP, mP_sP, mO_sP, mN_sO, mK_sO, mL_sO, mF_sO, mB_sO, mA_sO, mJ_sO, mP_sO, mO_sO, up2, if_true, if_false, eq_self, ite_true, ite_false, reduceIte, Nat.add_left_cancel_iff, Nat.add_eq_left, Nat.left_eq_add, Nat.reduceEqDiff]; done)) ?_ | refine e_iald 165 rfl dX3_sortByCost_164 (by assumption) (by assumption) (by first | rfl | simp only [pk_mul, nI_add]) (by omega) (by omega) ?_
      refine e_iast 166 rfl dX3_sortByCost_165 (by assumption) (by assumption) (by first | rfl | simp only [pk_mul, nI_add]) (by omega) (by omega) ?_
      refine e_ii1 (nI (_ + 1)) 169 rfl dX3_sortByCost_166 (ii1 _) rfl ?_
      refine e_goto 146 (by decide) dX3_sortByCost_169 ?_
      refine ih (c + 1) (by omega) _ _ (hF.sA S30 _ _) hH (fun c' hc' => ?_) (fun c' b1 b2 => ?_)
      · show up2 _ (r + 30) _ _ (r + 30) c' = _
        by_cases e : c' = c
        · rw [e, up2_s]
        · rw [up2_k e]; exact h1 c' (by omega)
      · show up2 _ (r + 30) _ _ (r + 30) c' = _
        rw [up2_k (by omega)]; exact h2 c' (by omega) b2
  have loop4 : ∀ (i : Nat), i ≤ R.length → ∀ (l : Int32), (i = 0 → l = -1) → (∀ j, i = j + 1 → l = nI j) → ∀ μ1 y2, Fr (fun q => q = sa ∨ q = r + 30) μ μ1 → (∀ c, c ≤ 40 → mA μ1 (r + 30) c = nI (cL R c + cE (R.take i) c)) → (∀ j x, i ≤ j → R[j]? = some x → mJ μ1 sa (cL R x.1 + cE (R.take j) x.1) = nL (enc x)) → Ev E M_X3_sortByCost 0 0 93 [some (.ref r), some (.int l), y2] [] μ1 K := by
    intro i
    induction i with
    | zero =>
      intro hi l hl _ μ1 y2 hF hA hJ
      obtain ⟨⟨a1, a2, a3, a4, a5, a6, a7, a8, a9, a10⟩, b1, b2, b3⟩ := keep μ1 hF
      rw [hl rfl]
      refine e_il1 94 rfl dX3_sortByCost_93 ?_
      refine e_if_lt 140 97 (by decide) rfl dX3_sortByCost_94 (fun y1 => ?_) (fun y1 => ?_)
      rotate_left
      · exact absurd (show (-1 : Int32) < 0 by decide) y1
      refine e_al0 141 rfl dX3_sortByCost_140 ?_
      refine e_invV0 [] 144 rfl dX3_sortByCost_141 k_X3_109 mo_X3_swapRows rm_X3_sortByCost_X3_swapRows ⟨rfl, rfl⟩ rfl rfl (by assumption) (Nat.le_of_ble_eq_true rfl) ?_
      refine c_swapRows a1 ⟨a5, a6, hgeo⟩ a7 a9 ?_
      refine e_iconst (nI 0) 145 rfl dX3_sortByCost_144 ic_0 ?_
      refine e_is1 146 rfl dX3_sortByCost_145 (by decide) rfl ?_
      have hF2 : Fr (fun q => q = sa ∨ q = r + 30) (sP (sP μ r 4 (some sa)) r 5 (some ra)) (sP (sP μ1 r 4 (some sa)) r 5 (some ra)) := by
        obtain ⟨f1, f2, f3, f4, f5, f6⟩ := hF
        refine ⟨f1, f2, f3, ?_, f5, f6⟩
        show up2 (up2 (mP μ1) r 4 _) r 5 _ = up2 (up2 (mP μ) r 4 _) r 5 _
        rw [f4]
      refine loop5 40 0 (by omega) _ _ hF2 (fun p x hx => ?_) (fun c' hc' => by omega) (fun c' _ hc' => ?_)
      · obtain ⟨j, e1, e2⟩ := SRr_get R 41 p x hx
        rw [e2]; exact hJ j x (Nat.zero_le _) e1
      · have := hA c' hc'
        rw [show cE (R.take 0) c' = 0 from rfl, Nat.add_zero] at this
        exact this
    | succ i ih =>
      intro hi l _ hl μ1 y2 hF hA hJ
      obtain ⟨⟨a1, a2, a3, a4, a5, a6, a7, a8, a9, a10⟩, b1, b2, b3⟩ := keep μ1 hF
      have hil : i < R.length := by omega
      have hx := List.getElem?_eq_getElem hil
      have hv := b1 i _ hx
      have hoki := hok R[i] (List.getElem_mem hil)
      have hc40 := hoki.1
      rw [hl i rfl]
      have hct : cE (R.take (i + 1)) R[i].1 = cE (R.take i) R[i].1 + 1 := by rw [cE_take hil, if_pos rfl]
      have hau : mA μ1 (r + 30) R[i].1 = nI (cL R R[i].1 + cE (R.take i) R[i].1 + 1) := by rw [hA _ hc40, hct, Nat.add_assoc]
      have hbd : cL R R[i].1 + cE (R.take i) R[i].1 < 6435 := by
        have h1 : cE (R.take i) R[i].1 + 1 ≤ cE R R[i].1 := by
          rw [← hct]; exact cE_tl _ _ _
        have h2 := cL_s R R[i].1
        have h3 := cL_le R (R[i].1 + 1)
        omega
      refine e_il1 94 rfl dX3_sortByCost_93 ?_
      first | refine e_if_ltN 140 97 (by decide) rfl dX3_sortByCost_94 rfl (by omega) ?_ | refine e_if_lt 140 97 (by decide) rfl dX3_sortByCost_94 (fun h => ?_) (fun h => ?_)
      refine e_al0 98 rfl dX3_sortByCost_97 ?_
      refine e_getR 101 rfl dX3_sortByCost_98 f_X3_30 (by assumption) (by assumption) ?_
      refine e_il1 102 rfl dX3_sortByCost_101 ?_
      first | refine e_laldv 103 rfl dX3_sortByCost_102 (by assumption) (by assumption) (by first | rfl | simp only [pk_mul, nI_add]) (by omega) (by omega) (by first | assumption | (simp only [mN_sF, mK_sF, mL_sF, mF_sF, mB_sF, mA_sF, mJ_sF, mP_sF, mO_sF, mN_sB, mK_sB, mL_sB, mF_sB, mB_sB, mA_sB, mJ_sB, mP_sB, mO_sB, mN_sA, mK_sA, mL_sA, mF_sA, mB_sA, mA_sA, mJ_sA, mP_sA, mO_sA, mN_sJ, mK_sJ, mL_sJ, mF_sJ, mB_sJ, mA_sJ, mJ_sJ, mP_sJ, mO_sJ, mN_sP, mK_sP, mL_sP, mF_sP, mB_sP, mA_sP, mJ_sP, mP_sP, mO_sP, mN_sO, mK_sO, mL_sO, mF_sO, mB_sO, mA_sO, mJ_sO, mP_sO, mO_sO, up2, if_true, if_false, eq_self, ite_true, ite_false, reduceIte, Nat.add_left_cancel_iff, Nat.add_eq_left, Nat.left_eq_add, Nat.reduceEqDiff]; assumption) | (simp only [mN_sF, mK_sF, mL_sF, mF_sF, mB_sF, mA_sF, mJ_sF, mP_sF, mO_sF, mN_sB, mK_sB, mL_sB, mF_sB, mB_sB, mA_sB, mJ_sB, mP_sB, mO_sB, mN_sA, mK_sA, mL_sA, mF_sA, mB_sA, mA_sA, mJ_sA, mP_sA, mO_sA, mN_sJ, mK_sJ, mL_sJ, mF_sJ, mB_sJ, mA_sJ, mJ_sJ, mP_sJ, mO_sJ, mN_sP, mK_sP, mL_sP, mF_sP, mB_sP, mA_sP, mJ_sP, mP_sP, mO_sP, mN_sO, mK_sO, mL_sO, mF_sO, mB_sO, mA_sO, mJ_sO, mP_sO, mO_sO, up2, if_true, if_false, eq_self, ite_true, ite_false, reduceIte, Nat.add_left_cancel_iff, Nat.add_eq_left, Nat.left_eq_add, Nat.reduceEqDiff]; done)) ?_ | refine e_lald 103 rfl dX3_sortByCost_102 (by assumption) (by assumption) (by first | rfl | simp only [pk_mul, nI_add]) (by omega) (by omega) ?_
      refine e_invS0 [_] 106 rfl dX3_sortByCost_103 k_X3_112 mo_X3_costIn rm_X3_sortByCost_X3_costIn ⟨rfl, rfl⟩ rfl rfl (Nat.le_of_ble_eq_true rfl) ?_
      refine c_costIn hoki ?_
      have m1 : mA (sA μ1 (r + 30) R[i].1 (nI (cL R R[i].1 + cE (R.take i) R[i].1))) (r + 30) R[i].1 = nI (cL R R[i].1 + cE (R.take i) R[i].1) := by show up2 _ (r + 30) _ _ (r + 30) _ = _; rw [up2_s]
      have m2 : mJ (sA μ1 (r + 30) R[i].1 (nI (cL R R[i].1 + cE (R.take i) R[i].1))) ra i = nL (enc R[i]) := hv
      have hF2 := (hF.sA S30 R[i].1 (nI (cL R R[i].1 + cE (R.take i) R[i].1)))
      obtain ⟨⟨c1, c2, c3, c4, c5, c6, c7, c8, c9, c10⟩, _⟩ := keep _ hF2
      refine e_is2 107 rfl dX3_sortByCost_106 (by decide) rfl ?_
      refine e_al0 108 rfl dX3_sortByCost_107 ?_
      refine e_getR 111 rfl dX3_sortByCost_108 f_X3_40 (by assumption) (by assumption) ?_
      refine e_il2 112 rfl dX3_sortByCost_111 ?_
      refine e_dup2 113 rfl dX3_sortByCost_112 rfl rfl ?_
      first | refine e_ialdv 114 rfl dX3_sortByCost_113 (by assumption) (by assumption) (by first | rfl | simp only [pk_mul, nI_add]) (by omega) (by omega) (by first | assumption | (simp only [mN_sF, mK_sF, mL_sF, mF_sF, mB_sF, mA_sF, mJ_sF, mP_sF, mO_sF, mN_sB, mK_sB, mL_sB, mF_sB, mB_sB, mA_sB, mJ_sB, mP_sB, mO_sB, mN_sA, mK_sA, mL_sA, mF_sA, mB_sA, mA_sA, mJ_sA, mP_sA, mO_sA, mN_sJ, mK_sJ, mL_sJ, mF_sJ, mB_sJ, mA_sJ, mJ_sJ, mP_sJ, mO_sJ, mN_sP, mK_sP, mL_sP, mF_sP, mB_sP, mA_sP, mJ_sP, mP_sP, mO_sP, mN_sO, mK_sO, mL_sO, mF_sO, mB_sO, mA_sO, mJ_sO, mP_sO, mO_sO, up2, if_true, if_false, eq_self, ite_true, ite_false, reduceIte, Nat.add_left_cancel_iff, Nat.add_eq_left, Nat.left_eq_add, Nat.reduceEqDiff]; assumption) | (simp only [mN_sF, mK_sF, mL_sF, mF_sF, mB_sF, mA_sF, mJ_sF, mP_sF, mO_sF, mN_sB, mK_sB, mL_sB, mF_sB, mB_sB, mA_sB, mJ_sB, mP_sB, mO_sB, mN_sA, mK_sA, mL_sA, mF_sA, mB_sA, mA_sA, mJ_sA, mP_sA, mO_sA, mN_sJ, mK_sJ, mL_sJ, mF_sJ, mB_sJ, mA_sJ, mJ_sJ, mP_sJ, mO_sJ, mN_sP, mK_sP, mL_sP, mF_sP, mB_sP, mA_sP, mJ_sP, mP_sP, mO_sP, mN_sO, mK_sO, mL_sO, mF_sO, mB_sO, mA_sO, mJ_sO, mP_sO, mO_sO, up2, if_true, if_false, eq_self, ite_true, ite_false, reduceIte, Nat.add_left_cancel_iff, Nat.add_eq_left, Nat.left_eq_add, Nat.reduceEqDiff]; done)) ?_ | refine e_iald 114 rfl dX3_sortByCost_113 (by assumption) (by assumption) (by first | rfl | simp only [pk_mul, nI_add]) (by omega) (by omega) ?_
      refine e_iconst (nI 1) 115 rfl dX3_sortByCost_114 ic_1 ?_
      first | refine e_isubN 116 rfl dX3_sortByCost_115 rfl rfl (by omega) ?_ | refine e_isub 116 rfl dX3_sortByCost_115 ?_
      refine e_iast 117 rfl dX3_sortByCost_116 (by assumption) (by assumption) (by first | rfl | simp only [pk_mul, nI_add]) (by omega) (by omega) ?_
      refine e_al0 118 rfl dX3_sortByCost_117 ?_
      refine e_getR 121 rfl dX3_sortByCost_118 f_X3_34 (by assumption) (by assumption) ?_
      refine e_al0 122 rfl dX3_sortByCost_121 ?_
      refine e_getR 125 rfl dX3_sortByCost_122 f_X3_40 (by assumption) (by assumption) ?_
      refine e_il2 126 rfl dX3_sortByCost_125 ?_
      first | refine e_ialdv 127 rfl dX3_sortByCost_126 (by assumption) (by assumption) (by first | rfl | simp only [pk_mul, nI_add]) (by omega) (by omega) (by first | assumption | (simp only [mN_sF, mK_sF, mL_sF, mF_sF, mB_sF, mA_sF, mJ_sF, mP_sF, mO_sF, mN_sB, mK_sB, mL_sB, mF_sB, mB_sB, mA_sB, mJ_sB, mP_sB, mO_sB, mN_sA, mK_sA, mL_sA, mF_sA, mB_sA, mA_sA, mJ_sA, mP_sA, mO_sA, mN_sJ, mK_sJ, mL_sJ, mF_sJ, mB_sJ, mA_sJ, mJ_sJ, mP_sJ, mO_sJ, mN_sP, mK_sP, mL_sP, mF_sP, mB_sP, mA_sP, mJ_sP, mP_sP, mO_sP, mN_sO, mK_sO, mL_sO, mF_sO, mB_sO, mA_sO, mJ_sO, mP_sO, mO_sO, up2, if_true, if_false, eq_self, ite_true, ite_false, reduceIte, Nat.add_left_cancel_iff, Nat.add_eq_left, Nat.left_eq_add, Nat.reduceEqDiff]; assumption) | (simp only [mN_sF, mK_sF, mL_sF, mF_sF, mB_sF, mA_sF, mJ_sF, mP_sF, mO_sF, mN_sB, mK_sB, mL_sB, mF_sB, mB_sB, mA_sB, mJ_sB, mP_sB, mO_sB, mN_sA, mK_sA, mL_sA, mF_sA, mB_sA, mA_sA, mJ_sA, mP_sA, mO_sA, mN_sJ, mK_sJ, mL_sJ, mF_sJ, mB_sJ, mA_sJ, mJ_sJ, mP_sJ, mO_sJ, mN_sP, mK_sP, mL_sP, mF_sP, mB_sP, mA_sP, mJ_sP, mP_sP, mO_sP, mN_sO, mK_sO, mL_sO, mF_sO, mB_sO, mA_sO, mJ_sO, mP_sO, mO_sO, up2, if_true, if_false, eq_self, ite_true, ite_false, reduceIte, Nat.add_left_cancel_iff, Nat.add_eq_left, Nat.left_eq_add, Nat.reduceEqDiff]; done)) ?_ | refine e_iald 127 rfl dX3_sortByCost_126 (by assumption) (by assumption) (by first | rfl | simp only [pk_mul, nI_add]) (by omega) (by omega) ?_
      refine e_al0 128 rfl dX3_sortByCost_127 ?_
      refine e_getR 131 rfl dX3_sortByCost_128 f_X3_30 (by assumption) (by assumption) ?_
      refine e_il1 132 rfl dX3_sortByCost_131 ?_
      first | refine e_laldv 133 rfl dX3_sortByCost_132 (by assumption) (by assumption) (by first | rfl | simp only [pk_mul, nI_add]) (by omega) (by omega) (by first | assumption | (simp only [mN_sF, mK_sF, mL_sF, mF_sF, mB_sF, mA_sF, mJ_sF, mP_sF, mO_sF, mN_sB, mK_sB, mL_sB, mF_sB, mB_sB, mA_sB, mJ_sB, mP_sB, mO_sB, mN_sA, mK_sA, mL_sA, mF_sA, mB_sA, mA_sA, mJ_sA, mP_sA, mO_sA, mN_sJ, mK_sJ, mL_sJ, mF_sJ, mB_sJ, mA_sJ, mJ_sJ, mP_sJ, mO_sJ, mN_sP, mK_sP, mL_sP, mF_sP, mB_sP, mA_sP, mJ_sP, mP_sP, mO_sP, mN_sO, mK_sO, mL_sO, mF_sO, mB_sO, mA_sO, mJ_sO, mP_sO, mO_sO, up2, if_true, if_false, eq_self, ite_true, ite_false, reduceIte, Nat.add_left_cancel_iff, Nat.add_eq_left, Nat.left_eq_add, Nat.reduceEqDiff]; assumption) | (simp only [mN_sF, mK_sF, mL_sF, mF_sF, mB_sF, mA_sF, mJ_sF, mP_sF, mO_sF, mN_sB, mK_sB, mL_sB, mF_sB, mB_sB, mA_sB, mJ_sB, mP_sB, mO_sB, mN_sA, mK_sA, mL_sA, mF_sA, mB_sA, mA_sA, mJ_sA, mP_sA, mO_sA, mN_sJ, mK_sJ, mL_sJ, mF_sJ, mB_sJ, mA_sJ, mJ_sJ, mP_sJ, mO_sJ, mN_sP, mK_sP, mL_sP, mF_sP, mB_sP, mA_sP, mJ_sP, mP_sP, mO_sP, mN_sO, mK_sO, mL_sO, mF_sO, mB_sO, mA_sO, mJ_sO, mP_sO, mO_sO, up2, if_true, if_false, eq_self, ite_true, ite_false, reduceIte, Nat.add_left_cancel_iff, Nat.add_eq_left, Nat.left_eq_add, Nat.reduceEqDiff]; done)) ?_ | refine e_lald 133 rfl dX3_sortByCost_132 (by assumption) (by assumption) (by first | rfl | simp only [pk_mul, nI_add]) (by omega) (by omega) ?_
      refine e_last 134 rfl dX3_sortByCost_133 (by assumption) (by assumption) (by first | rfl | simp only [pk_mul, nI_add]) (by omega) (by omega) ?_
      have last : ∀ l', (i = 0 → l' = -1) → (∀ j, i = j + 1 → l' = nI j) → Ev E M_X3_sortByCost 0 0 93 [some (.ref r), some (.int l'), some (.int (nI R[i].1))] [] (sJ (sA μ1 (r + 30) R[i].1 (nI (cL R R[i].1 + cE (R.take i) R[i].1))) sa (cL R R[i].1 + cE (R.take i) R[i].1) (nL (enc R[i]))) K := by
        intro l' q1 q2
        refine ih (by omega) l' q1 q2 _ _ (hF2.sJ Ssa _ _) (fun c hc => ?_) (fun j x q3 q4 => ?_)
        · show up2 _ (r + 30) _ _ (r + 30) c = _
          by_cases e : c = R[i].1
          · rw [e, up2_s]
          · rw [up2_k e, hA c hc, cE_take hil, if_neg (fun q => e q.symm), Nat.add_zero]
        · show up2 _ sa _ _ sa _ = _
          by_cases e : j = i
          · subst e; rw [hx] at q4; cases q4; rw [up2_s]
          · have hne : cL R x.1 + cE (R.take j) x.1 ≠ cL R R[i].1 + cE (R.take i) R[i].1 := by
              have hjl : j < R.length := (List.getElem?_eq_some_iff.mp q4).1
              have hjx : R[j] = x := (List.getElem?_eq_some_iff.mp q4).2
              have t1 : cE (R.take j) x.1 + 1 ≤ cE R x.1 := by
                have : cE (R.take (j + 1)) x.1 = cE (R.take j) x.1 + 1 := by rw [cE_take hjl, if_pos (by rw [hjx])]
                rw [← this]; exact cE_tl _ _ _
              have t2 : cE (R.take i) R[i].1 + 1 ≤ cE R R[i].1 := by
                rw [← hct]; exact cE_tl _ _ _
              rcases Nat.lt_trichotomy x.1 R[i].1 with q | q | q
              · have := cL_mono R (x.1 + 1) R[i].1 (by omega)
                rw [cL_s] at this
                omega
              · rw [q]
                have t3 : cE (R.take (i + 1)) R[i].1 ≤ cE (R.take j) R[i].1 := by
                  unfold cE
                  have : R.take j = R.take (i + 1) ++ (R.take j).drop (i + 1) := by
                    conv => lhs; rw [← List.take_append_drop (i + 1) (R.take j), List.take_take, Nat.min_eq_left (by omega)]
                  rw [this, List.filter_append, List.length_append]
                  omega
                omega
              · have := cL_mono R (R[i].1 + 1) x.1 (by omega)
                rw [cL_s] at this
                omega
            rw [up2_k hne]
            exact hJ j x (by omega) q4
      cases i with
      | zero =>
        refine e_ii1 (-1) 137 rfl dX3_sortByCost_134 (by decide) rfl ?_
        refine e_goto 93 (by decide) dX3_sortByCost_137 ?_
        exact last (-1) (fun _ => rfl) (fun j q => by omega)
      | succ i =>
        refine e_ii1 (nI _) 137 rfl dX3_sortByCost_134 (iim1 _) rfl ?_
        refine e_goto 93 (by decide) dX3_sortByCost_137 ?_
        exact last (nI i) (fun q => by omega) (fun j q => by rw [show i = j by omega])
  have loop3 : ∀ (fu c : Nat), c + fu = 41 → 1 ≤ c → ∀ μ1 y2, Fr (fun q => q = sa ∨ q = r + 30) μ μ1 → (∀ c', c' < c → mA μ1 (r + 30) c' = nI (cL R (c' + 1))) → (∀ c', c ≤ c' → c' ≤ 40 → mA μ1 (r + 30) c' = nI (cE R c')) → Ev E M_X3_sortByCost 0 0 57 [some (.ref r), some (.int (nI c)), y2] [] μ1 K := by
    intro fu
    induction fu with
    | zero =>
      intro c hc _ μ1 y2 hF h1 h2
      obtain ⟨⟨a1, a2, a3, a4, a5, a6, a7, a8, a9, a10⟩, b1, b2, b3⟩ := keep μ1 hF
      refine e_il1 58 rfl dX3_sortByCost_57 ?_
      refine e_bipush (nI 40) 60 rfl dX3_sortByCost_58 bc_40 ?_
      first | refine e_cmp_gtN 86 63 (by decide) rfl dX3_sortByCost_60 rfl rfl (by omega) (by omega) (fun y1 => ?_) (fun y1 => ?_) | refine e_cmp_gt 86 63 (by decide) rfl dX3_sortByCost_60 (fun y1 => ?_) (fun y1 => ?_)
      rotate_left
      · omega
      have hA : ∀ c, c ≤ 40 → mA μ1 (r + 30) c = nI (cL R c + cE (R.take R.length) c) := fun c' hc' => by
        rw [List.take_length, ← cL_s]; exact h1 c' (by omega)
      have hJ : ∀ j x, R.length ≤ j → R[j]? = some x → mJ μ1 sa (cL R x.1 + cE (R.take j) x.1) = nL (enc x) := fun j x q1 q2 => by
        have := (List.getElem?_eq_some_iff.mp q2).1; omega
      refine e_al0 87 rfl dX3_sortByCost_86 ?_
      first | refine e_getIv 90 rfl dX3_sortByCost_87 f_X3_37 (by assumption) (by first | assumption | (simp only [mN_sF, mK_sF, mL_sF, mF_sF, mB_sF, mA_sF, mJ_sF, mP_sF, mO_sF, mN_sB, mK_sB, mL_sB, mF_sB, mB_sB, mA_sB, mJ_sB, mP_sB, mO_sB, mN_sA, mK_sA, mL_sA, mF_sA, mB_sA, mA_sA, mJ_sA, mP_sA, mO_sA, mN_sJ, mK_sJ, mL_sJ, mF_sJ, mB_sJ, mA_sJ, mJ_sJ, mP_sJ, mO_sJ, mN_sP, mK_sP, mL_sP, mF_sP, mB_sP, mA_sP, mJ_sP, mP_sP, mO_sP, mN_sO, mK_sO, mL_sO, mF_sO, mB_sO, mA_sO, mJ_sO, mP_sO, mO_sO, up2, if_true, if_false, eq_self, ite_true, ite_false, reduceIte, Nat.add_left_cancel_iff, Nat.add_eq_left, Nat.left_eq_add, Nat.reduceEqDiff]; assumption) | (simp only [mN_sF, mK_sF, mL_sF, mF_sF, mB_sF, mA_sF, mJ_sF, mP_sF, mO_sF, mN_sB, mK_sB, mL_sB, mF_sB, mB_sB, mA_sB, mJ_sB, mP_sB, mO_sB, mN_sA, mK_sA, mL_sA, mF_sA, mB_sA, mA_sA, mJ_sA, mP_sA, mO_sA, mN_sJ, mK_sJ, mL_sJ, mF_sJ, mB_sJ, mA_sJ, mJ_sJ, mP_sJ, mO_sJ, mN_sP, mK_sP, mL_sP, mF_sP, mB_sP, mA_sP, mJ_sP, mP_sP, mO_sP, mN_sO, mK_sO, mL_sO, mF_sO, mB_sO, mA_sO, mJ_sO, mP_sO, mO_sO, up2, if_true, if_false, eq_self, ite_true, ite_false, reduceIte, Nat.add_left_cancel_iff, Nat.add_eq_left, Nat.left_eq_add, Nat.reduceEqDiff]; done)) ?_ | refine e_getI 90 rfl dX3_sortByCost_87 f_X3_37 (by assumption) ?_
      refine e_iconst (nI 1) 91 rfl dX3_sortByCost_90 ic_1 ?_
      refine e_isub 92 rfl dX3_sortByCost_91 ?_
      refine e_is1 93 rfl dX3_sortByCost_92 (by decide) rfl ?_
      cases e : R.length with
      | zero =>
        exact loop4 R.length (Nat.le_refl _) _ (fun _ => by decide) (fun j q => by omega) _ _ hF hA hJ
      | succ m =>
        refine loop4 R.length (Nat.le_refl _) _ (fun q => by omega) (fun j q => ?_) _ _ hF hA hJ
        rw [pk_sub (by omega)]
        congr 1
        omega
    | succ fu ih =>
      intro c hc hc1 μ1 y2 hF h1 h2
      obtain ⟨⟨a1, a2, a3, a4, a5, a6, a7, a8, a9, a10⟩, b1, b2, b3⟩ := keep μ1 hF
      have v1 := h2 c (Nat.le_refl _) (by omega)
      have v2 := h1 (c - 1) (by omega)
      rw [show c - 1 + 1 = c by omega] at v2
      refine e_il1 58 rfl dX3_sortByCost_57 ?_
      refine e_bipush (nI 40) 60 rfl dX3_sortByCost_58 bc_40 ?_
      first | refine e_cmp_gtN 86 63 (by decide) rfl dX3_sortByCost_60 rfl rfl (by omega) (by omega) (fun y1 => ?_) (fun y1 => ?_) | refine e_cmp_gt 86 63 (by decide) rfl dX3_sortByCost_60 (fun y1 => ?_) (fun y1 => ?_)
      · omega
      refine e_al0 64 rfl dX3_sortByCost_63 ?_
      refine e_getR 67 rfl dX3_sortByCost_64 f_X3_40 (by assumption) (by assumption) ?_
      refine e_il1 68 rfl dX3_sortByCost_67 ?_
      refine e_dup2 69 rfl dX3_sortByCost_68 rfl rfl ?_
      first | refine e_ialdv 70 rfl dX3_sortByCost_69 (by assumption) (by assumption) (by first | rfl | simp only [pk_mul, nI_add]) (by omega) (by omega) (by first | assumption | (simp only [mN_sF, mK_sF, mL_sF, mF_sF, mB_sF, mA_sF, mJ_sF, mP_sF, mO_sF, mN_sB, mK_sB, mL_sB, mF_sB, mB_sB, mA_sB, mJ_sB, mP_sB, mO_sB, mN_sA, mK_sA, mL_sA, mF_sA, mB_sA, mA_sA, mJ_sA, mP_sA, mO_sA, mN_sJ, mK_sJ, mL_sJ, mF_sJ, mB_sJ, mA_sJ, mJ_sJ, mP_sJ, mO_sJ, mN_sP, mK_sP, mL_sP, mF_sP, mB_sP, mA_sP, mJ_sP, mP_sP, mO_sP, mN_sO, mK_sO, mL_sO, mF_sO, mB_sO, mA_sO, mJ_sO, mP_sO, mO_sO, up2, if_true, if_false, eq_self, ite_true, ite_false, reduceIte, Nat.add_left_cancel_iff, Nat.add_eq_left, Nat.left_eq_add, Nat.reduceEqDiff]; assumption) | (simp only [mN_sF, mK_sF, mL_sF, mF_sF, mB_sF, mA_sF, mJ_sF, mP_sF, mO_sF, mN_sB, mK_sB, mL_sB, mF_sB, mB_sB, mA_sB, mJ_sB, mP_sB, mO_sB, mN_sA, mK_sA, mL_sA, mF_sA, mB_sA, mA_sA, mJ_sA, mP_sA, mO_sA, mN_sJ, mK_sJ, mL_sJ, mF_sJ, mB_sJ, mA_sJ, mJ_sJ, mP_sJ, mO_sJ, mN_sP, mK_sP, mL_sP, mF_sP, mB_sP, mA_sP, mJ_sP, mP_sP, mO_sP, mN_sO, mK_sO, mL_sO, mF_sO, mB_sO, mA_sO, mJ_sO, mP_sO, mO_sO, up2, if_true, if_false, eq_self, ite_true, ite_false, reduceIte, Nat.add_left_cancel_iff, Nat.add_eq_left, Nat.left_eq_add, Nat.reduceEqDiff]; done)) ?_ | refine e_iald 70 rfl dX3_sortByCost_69 (by assumption) (by assumption) (by first | rfl | simp only [pk_mul, nI_add]) (by omega) (by omega) ?_
      refine e_al0 71 rfl dX3_sortByCost_70 ?_
      refine e_getR 74 rfl dX3_sortByCost_71 f_X3_40 (by assumption) (by assumption) ?_
      refine e_il1 75 rfl dX3_sortByCost_74 ?_
      refine e_iconst (nI 1) 76 rfl dX3_sortByCost_75 ic_1 ?_
      first | refine e_isubN 77 rfl dX3_sortByCost_76 rfl rfl (by omega) ?_ | refine e_isub 77 rfl dX3_sortByCost_76 ?_
      first | refine e_ialdv 78 rfl dX3_sortByCost_77 (by assumption) (by assumption) (by first | rfl | simp only [pk_mul, nI_add]) (by omega) (by omega) (by first | assumption | (simp only [mN_sF, mK_sF, mL_sF, mF_sF, mB_sF, mA_sF, mJ_sF, mP_sF, mO_sF, mN_sB, mK_sB, mL_sB, mF_sB, mB_sB, mA_sB, mJ_sB, mP_sB, mO_sB, mN_sA, mK_sA, mL_sA, mF_sA, mB_sA, mA_sA, mJ_sA, mP_sA, mO_sA, mN_sJ, mK_sJ, mL_sJ, mF_sJ, mB_sJ, mA_sJ, mJ_sJ, mP_sJ, mO_sJ, mN_sP, mK_sP, mL_sP, mF_sP, mB_sP, mA_sP, mJ_sP, mP_sP, mO_sP, mN_sO, mK_sO, mL_sO, mF_sO, mB_sO, mA_sO, mJ_sO, mP_sO, mO_sO, up2, if_true, if_false, eq_self, ite_true, ite_false, reduceIte, Nat.add_left_cancel_iff, Nat.add_eq_left, Nat.left_eq_add, Nat.reduceEqDiff]; assumption) | (simp only [mN_sF, mK_sF, mL_sF, mF_sF, mB_sF, mA_sF, mJ_sF, mP_sF, mO_sF, mN_sB, mK_sB, mL_sB, mF_sB, mB_sB, mA_sB, mJ_sB, mP_sB, mO_sB, mN_sA, mK_sA, mL_sA, mF_sA, mB_sA, mA_sA, mJ_sA, mP_sA, mO_sA, mN_sJ, mK_sJ, mL_sJ, mF_sJ, mB_sJ, mA_sJ, mJ_sJ, mP_sJ, mO_sJ, mN_sP, mK_sP, mL_sP, mF_sP, mB_sP, mA_sP, mJ_sP, mP_sP, mO_sP, mN_sO, mK_sO, mL_sO, mF_sO, mB_sO, mA_sO, mJ_sO, mP_sO, mO_sO, up2, if_true, if_false, eq_self, ite_true, ite_false, reduceIte, Nat.add_left_cancel_iff, Nat.add_eq_left, Nat.left_eq_add, Nat.reduceEqDiff]; done)) ?_ | refine e_iald 78 rfl dX3_sortByCost_77 (by assumption) (by assumption) (by first | rfl | simp only [pk_mul, nI_add]) (by omega) (by omega) ?_
      first | refine e_iaddN 79 rfl dX3_sortByCost_78 rfl rfl ?_ | refine e_iadd 79 rfl dX3_sortByCost_78 ?_
      refine e_iast 80 rfl dX3_sortByCost_79 (by assumption) (by assumption) (by first | rfl | simp only [pk_mul, nI_add]) (by omega) (by omega) ?_
      refine e_ii1 (nI (_ + 1)) 83 rfl dX3_sortByCost_80 (ii1 _) rfl ?_
      refine e_goto 57 (by decide) dX3_sortByCost_83 ?_
      refine ih (c + 1) (by omega) (by omega) _ _ (hF.sA S30 _ _) (fun c' hc' => ?_) (fun c' q1 q2 => ?_)
      · show up2 _ (r + 30) _ _ (r + 30) c' = _
        by_cases e : c' = c
        · rw [e, up2_s, cL_s, Nat.add_comm]
        · rw [up2_k e]; exact h1 c' (by omega)
      · show up2 _ (r + 30) _ _ (r + 30) c' = _
        rw [up2_k (by omega)]; exact h2 c' (by omega) q2
  have loop2 : ∀ (fu i : Nat), i + fu = R.length → ∀ μ1 y2, Fr (fun q => q = sa ∨ q = r + 30) μ μ1 → (∀ c', c' ≤ 40 → mA μ1 (r + 30) c' = nI (cE (R.take i) c')) → Ev E M_X3_sortByCost 0 0 23 [some (.ref r), some (.int (nI i)), y2] [] μ1 K := by
    intro fu
    induction fu with
    | zero =>
      intro i hi μ1 y2 hF h1
      obtain ⟨⟨a1, a2, a3, a4, a5, a6, a7, a8, a9, a10⟩, b1, b2, b3⟩ := keep μ1 hF
      rw [List.take_of_length_le (by omega)] at h1
      refine e_il1 24 rfl dX3_sortByCost_23 ?_
      refine e_al0 25 rfl dX3_sortByCost_24 ?_
      first | refine e_getIv 28 rfl dX3_sortByCost_25 f_X3_37 (by assumption) (by first | assumption | (simp only [mN_sF, mK_sF, mL_sF, mF_sF, mB_sF, mA_sF, mJ_sF, mP_sF, mO_sF, mN_sB, mK_sB, mL_sB, mF_sB, mB_sB, mA_sB, mJ_sB, mP_sB, mO_sB, mN_sA, mK_sA, mL_sA, mF_sA, mB_sA, mA_sA, mJ_sA, mP_sA, mO_sA, mN_sJ, mK_sJ, mL_sJ, mF_sJ, mB_sJ, mA_sJ, mJ_sJ, mP_sJ, mO_sJ, mN_sP, mK_sP, mL_sP, mF_sP, mB_sP, mA_sP, mJ_sP, mP_sP, mO_sP, mN_sO, mK_sO, mL_sO, mF_sO, mB_sO, mA_sO, mJ_sO, mP_sO, mO_sO, up2, if_true, if_false, eq_self, ite_true, ite_false, reduceIte, Nat.add_left_cancel_iff, Nat.add_eq_left, Nat.left_eq_add, Nat.reduceEqDiff]; assumption) | (simp only [mN_sF, mK_sF, mL_sF, mF_sF, mB_sF, mA_sF, mJ_sF, mP_sF, mO_sF, mN_sB, mK_sB, mL_sB, mF_sB, mB_sB, mA_sB, mJ_sB, mP_sB, mO_sB, mN_sA, mK_sA, mL_sA, mF_sA, mB_sA, mA_sA, mJ_sA, mP_sA, mO_sA, mN_sJ, mK_sJ, mL_sJ, mF_sJ, mB_sJ, mA_sJ, mJ_sJ, mP_sJ, mO_sJ, mN_sP, mK_sP, mL_sP, mF_sP, mB_sP, mA_sP, mJ_sP, mP_sP, mO_sP, mN_sO, mK_sO, mL_sO, mF_sO, mB_sO, mA_sO, mJ_sO, mP_sO, mO_sO, up2, if_true, if_false, eq_self, ite_true, ite_false, reduceIte, Nat.add_left_cancel_iff, Nat.add_eq_left, Nat.left_eq_add, Nat.reduceEqDiff]; done)) ?_ | refine e_getI 28 rfl dX3_sortByCost_25 f_X3_37 (by assumption) ?_
      first | refine e_cmp_geN 55 31 (by decide) rfl dX3_sortByCost_28 rfl rfl (by omega) (by omega) (fun y1 => ?_) (fun y1 => ?_) | refine e_cmp_ge 55 31 (by decide) rfl dX3_sortByCost_28 (fun y1 => ?_) (fun y1 => ?_)
      rotate_left
      · omega
      refine e_iconst (nI 1) 56 rfl dX3_sortByCost_55 ic_1 ?_
      refine e_is1 57 rfl dX3_sortByCost_56 (by decide) rfl ?_
      refine loop3 40 1 (by omega) (by omega) _ _ hF (fun c' hc' => ?_) (fun c' _ q2 => h1 c' q2)
      rw [show c' = 0 by omega, cL_s, cL_0, Nat.zero_add]
      exact h1 0 (by omega)
    | succ fu ih =>
      intro i hi μ1 y2 hF h1
      obtain ⟨⟨a1, a2, a3, a4, a5, a6, a7, a8, a9, a10⟩, b1, b2, b3⟩ := keep μ1 hF
      have hil : i < R.length := by omega
      have hv := b1 i _ (List.getElem?_eq_getElem hil)
      have hoki := hok R[i] (List.getElem_mem hil)
      have hc40 := hoki.1
      have v1 := h1 _ hc40
      refine e_il1 24 rfl dX3_sortByCost_23 ?_
      refine e_al0 25 rfl dX3_sortByCost_24 ?_
      first | refine e_getIv 28 rfl dX3_sortByCost_25 f_X3_37 (by assumption) (by first | assumption | (simp only [mN_sF, mK_sF, mL_sF, mF_sF, mB_sF, mA_sF, mJ_sF, mP_sF, mO_sF, mN_sB, mK_sB, mL_sB, mF_sB, mB_sB, mA_sB, mJ_sB, mP_sB, mO_sB, mN_sA, mK_sA, mL_sA, mF_sA, mB_sA, mA_sA, mJ_sA, mP_sA, mO_sA, mN_sJ, mK_sJ, mL_sJ, mF_sJ, mB_sJ, mA_sJ, mJ_sJ, mP_sJ, mO_sJ, mN_sP, mK_sP, mL_sP, mF_sP, mB_sP, mA_sP, mJ_sP, mP_sP, mO_sP, mN_sO, mK_sO, mL_sO, mF_sO, mB_sO, mA_sO, mJ_sO, mP_sO, mO_sO, up2, if_true, if_false, eq_self, ite_true, ite_false, reduceIte, Nat.add_left_cancel_iff, Nat.add_eq_left, Nat.left_eq_add, Nat.reduceEqDiff]; assumption) | (simp only [mN_sF, mK_sF, mL_sF, mF_sF, mB_sF, mA_sF, mJ_sF, mP_sF, mO_sF, mN_sB, mK_sB, mL_sB, mF_sB, mB_sB, mA_sB, mJ_sB, mP_sB, mO_sB, mN_sA, mK_sA, mL_sA, mF_sA, mB_sA, mA_sA, mJ_sA, mP_sA, mO_sA, mN_sJ, mK_sJ, mL_sJ, mF_sJ, mB_sJ, mA_sJ, mJ_sJ, mP_sJ, mO_sJ, mN_sP, mK_sP, mL_sP, mF_sP, mB_sP, mA_sP, mJ_sP, mP_sP, mO_sP, mN_sO, mK_sO, mL_sO, mF_sO, mB_sO, mA_sO, mJ_sO, mP_sO, mO_sO, up2, if_true, if_false, eq_self, ite_true, ite_false, reduceIte, Nat.add_left_cancel_iff, Nat.add_eq_left, Nat.left_eq_add, Nat.reduceEqDiff]; done)) ?_ | refine e_getI 28 rfl dX3_sortByCost_25 f_X3_37 (by assumption) ?_
      first | refine e_cmp_geN 55 31 (by decide) rfl dX3_sortByCost_28 rfl rfl (by omega) (by omega) (fun y1 => ?_) (fun y1 => ?_) | refine e_cmp_ge 55 31 (by decide) rfl dX3_sortByCost_28 (fun y1 => ?_) (fun y1 => ?_)
      · omega
      refine e_al0 32 rfl dX3_sortByCost_31 ?_
      refine e_getR 35 rfl dX3_sortByCost_32 f_X3_40 (by assumption) (by assumption) ?_
      refine e_al0 36 rfl dX3_sortByCost_35 ?_
      refine e_getR 39 rfl dX3_sortByCost_36 f_X3_30 (by assumption) (by assumption) ?_
      refine e_il1 40 rfl dX3_sortByCost_39 ?_
      first | refine e_laldv 41 rfl dX3_sortByCost_40 (by assumption) (by assumption) (by first | rfl | simp only [pk_mul, nI_add]) (by omega) (by omega) (by first | assumption | (simp only [mN_sF, mK_sF, mL_sF, mF_sF, mB_sF, mA_sF, mJ_sF, mP_sF, mO_sF, mN_sB, mK_sB, mL_sB, mF_sB, mB_sB, mA_sB, mJ_sB, mP_sB, mO_sB, mN_sA, mK_sA, mL_sA, mF_sA, mB_sA, mA_sA, mJ_sA, mP_sA, mO_sA, mN_sJ, mK_sJ, mL_sJ, mF_sJ, mB_sJ, mA_sJ, mJ_sJ, mP_sJ, mO_sJ, mN_sP, mK_sP, mL_sP, mF_sP, mB_sP, mA_sP, mJ_sP, mP_sP, mO_sP, mN_sO, mK_sO, mL_sO, mF_sO, mB_sO, mA_sO, mJ_sO, mP_sO, mO_sO, up2, if_true, if_false, eq_self, ite_true, ite_false, reduceIte, Nat.add_left_cancel_iff, Nat.add_eq_left, Nat.left_eq_add, Nat.reduceEqDiff]; assumption) | (simp only [mN_sF, mK_sF, mL_sF, mF_sF, mB_sF, mA_sF, mJ_sF, mP_sF, mO_sF, mN_sB, mK_sB, mL_sB, mF_sB, mB_sB, mA_sB, mJ_sB, mP_sB, mO_sB, mN_sA, mK_sA, mL_sA, mF_sA, mB_sA, mA_sA, mJ_sA, mP_sA, mO_sA, mN_sJ, mK_sJ, mL_sJ, mF_sJ, mB_sJ, mA_sJ, mJ_sJ, mP_sJ, mO_sJ, mN_sP, mK_sP, mL_sP, mF_sP, mB_sP, mA_sP, mJ_sP, mP_sP, mO_sP, mN_sO, mK_sO, mL_sO, mF_sO, mB_sO, mA_sO, mJ_sO, mP_sO, mO_sO, up2, if_true, if_false, eq_self, ite_true, ite_false, reduceIte, Nat.add_left_cancel_iff, Nat.add_eq_left, Nat.left_eq_add, Nat.reduceEqDiff]; done)) ?_ | refine e_lald 41 rfl dX3_sortByCost_40 (by assumption) (by assumption) (by first | rfl | simp only [pk_mul, nI_add]) (by omega) (by omega) ?_
      refine e_invS0 [_] 44 rfl dX3_sortByCost_41 k_X3_112 mo_X3_costIn rm_X3_sortByCost_X3_costIn ⟨rfl, rfl⟩ rfl rfl (Nat.le_of_ble_eq_true rfl) ?_
      refine c_costIn hoki ?_
      refine e_dup2 45 rfl dX3_sortByCost_44 rfl rfl ?_
      first | refine e_ialdv 46 rfl dX3_sortByCost_45 (by assumption) (by assumption) (by first | rfl | simp only [pk_mul, nI_add]) (by omega) (by omega) (by first | assumption | (simp only [mN_sF, mK_sF, mL_sF, mF_sF, mB_sF, mA_sF, mJ_sF, mP_sF, mO_sF, mN_sB, mK_sB, mL_sB, mF_sB, mB_sB, mA_sB, mJ_sB, mP_sB, mO_sB, mN_sA, mK_sA, mL_sA, mF_sA, mB_sA, mA_sA, mJ_sA, mP_sA, mO_sA, mN_sJ, mK_sJ, mL_sJ, mF_sJ, mB_sJ, mA_sJ, mJ_sJ, mP_sJ, mO_sJ, mN_sP, mK_sP, mL_sP, mF_sP, mB_sP, mA_sP, mJ_sP, mP_sP, mO_sP, mN_sO, mK_sO, mL_sO, mF_sO, mB_sO, mA_sO, mJ_sO, mP_sO, mO_sO, up2, if_true, if_false, eq_self, ite_true, ite_false, reduceIte, Nat.add_left_cancel_iff, Nat.add_eq_left, Nat.left_eq_add, Nat.reduceEqDiff]; assumption) | (simp only [mN_sF, mK_sF, mL_sF, mF_sF, mB_sF, mA_sF, mJ_sF, mP_sF, mO_sF, mN_sB, mK_sB, mL_sB, mF_sB, mB_sB, mA_sB, mJ_sB, mP_sB, mO_sB, mN_sA, mK_sA, mL_sA, mF_sA, mB_sA, mA_sA, mJ_sA, mP_sA, mO_sA, mN_sJ, mK_sJ, mL_sJ, mF_sJ, mB_sJ, mA_sJ, mJ_sJ, mP_sJ, mO_sJ, mN_sP, mK_sP, mL_sP, mF_sP, mB_sP, mA_sP, mJ_sP, mP_sP, mO_sP, mN_sO, mK_sO, mL_sO, mF_sO, mB_sO, mA_sO, mJ_sO, mP_sO, mO_sO, up2, if_true, if_false, eq_self, ite_true, ite_false, reduceIte, Nat.add_left_cancel_iff, Nat.add_eq_left, Nat.left_eq_add, Nat.reduceEqDiff]; done)) ?_ | refine e_iald 46 rfl dX3_sortByCost_45 (by assumption) (by assumption) (by first | rfl | simp only [pk_mul, nI_add]) (by omega) (by omega) ?_
      refine e_iconst (nI 1) 47 rfl dX3_sortByCost_46 ic_1 ?_
      first | refine e_iaddN 48 rfl dX3_sortByCost_47 rfl rfl ?_ | refine e_iadd 48 rfl dX3_sortByCost_47 ?_
      refine e_iast 49 rfl dX3_sortByCost_48 (by assumption) (by assumption) (by first | rfl | simp only [pk_mul, nI_add]) (by omega) (by omega) ?_
      refine e_ii1 (nI (_ + 1)) 52 rfl dX3_sortByCost_49 (ii1 _) rfl ?_
      refine e_goto 23 (by decide) dX3_sortByCost_52 ?_
      refine ih (i + 1) (by omega) _ _ (hF.sA S30 _ _) (fun c' hc' => ?_)
      show up2 _ (r + 30) _ _ (r + 30) c' = _
      rw [cE_take hil]
      by_cases e : c' = R[i].1
      · rw [e, up2_s, if_pos rfl]
      · rw [up2_k e, if_neg (fun q => e q.symm)]; exact h1 c' hc'
  have loop1 : ∀ (fu c : Nat), c + fu = 41 → ∀ μ1 y2, Fr (fun q => q = sa ∨ q = r + 30) μ μ1 → (∀ c', c' < c → mA μ1 (r + 30) c' = nI 0) → Ev E M_X3_sortByCost 0 0 2 [some (.ref r), some (.int (nI c)), y2] [] μ1 K := by
    intro fu
    induction fu with
    | zero =>
      intro c hc μ1 y2 hF h1
      refine e_il1 3 rfl dX3_sortByCost_2 ?_
      refine e_bipush (nI 40) 5 rfl dX3_sortByCost_3 bc_40 ?_
      first | refine e_cmp_gtN 21 8 (by decide) rfl dX3_sortByCost_5 rfl rfl (by omega) (by omega) (fun y1 => ?_) (fun y1 => ?_) | refine e_cmp_gt 21 8 (by decide) rfl dX3_sortByCost_5 (fun y1 => ?_) (fun y1 => ?_)
      rotate_left
      · omega
      refine e_iconst (nI 0) 22 rfl dX3_sortByCost_21 ic_0 ?_
      refine e_is1 23 rfl dX3_sortByCost_22 (by decide) rfl ?_
      exact loop2 R.length 0 (by omega) _ _ hF (fun c' hc' => by rw [h1 c' (by omega)]; rfl)
    | succ fu ih =>
      intro c hc μ1 y2 hF h1
      obtain ⟨⟨a1, a2, a3, a4, a5, a6, a7, a8, a9, a10⟩, b1, b2, b3⟩ := keep μ1 hF
      refine e_il1 3 rfl dX3_sortByCost_2 ?_
      refine e_bipush (nI 40) 5 rfl dX3_sortByCost_3 bc_40 ?_
      first | refine e_cmp_gtN 21 8 (by decide) rfl dX3_sortByCost_5 rfl rfl (by omega) (by omega) (fun y1 => ?_) (fun y1 => ?_) | refine e_cmp_gt 21 8 (by decide) rfl dX3_sortByCost_5 (fun y1 => ?_) (fun y1 => ?_)
      · omega
      refine e_al0 9 rfl dX3_sortByCost_8 ?_
      refine e_getR 12 rfl dX3_sortByCost_9 f_X3_40 (by assumption) (by assumption) ?_
      refine e_il1 13 rfl dX3_sortByCost_12 ?_
      refine e_iconst (nI 0) 14 rfl dX3_sortByCost_13 ic_0 ?_
      refine e_iast 15 rfl dX3_sortByCost_14 (by assumption) (by assumption) (by first | rfl | simp only [pk_mul, nI_add]) (by omega) (by omega) ?_
      refine e_ii1 (nI (_ + 1)) 18 rfl dX3_sortByCost_15 (ii1 _) rfl ?_
      refine e_goto 2 (by decide) dX3_sortByCost_18 ?_
      refine ih (c + 1) (by omega) _ _ (hF.sA S30 _ _) (fun c' hc' => ?_)
      show up2 _ (r + 30) _ _ (r + 30) c' = _
      by_cases e : c' = c
      · rw [e, up2_s]
      · rw [up2_k e]; exact h1 c' (by omega)
  refine Cl.of0 2 pn_X3 (Nat.le_of_ble_eq_true rfl) ⟨rfl, rfl⟩ rfl ?_
  refine e_iconst (nI 0) 1 rfl dX3_sortByCost_0 ic_0 ?_
  refine e_is1 2 rfl dX3_sortByCost_1 (by decide) rfl ?_
  exact loop1 41 0 (by omega) μ _ Fr.rf (fun c' hc' => by omega)
end SORT
