/-! NameDesk$Tape, NameDesk$Line -/
section LINE
variable {E : En} {μ : Mm} {K : Option Value → Mm → Prop}
/-- the tape at a -/
def Tp (μ : Mm) (a : Nat) : Prop := mK μ a = 8 ∧ mP μ a 0 = some (a + 1) ∧ mK μ (a + 1) = 12 ∧ mL μ (a + 1) = 400
def s2 (a : Nat) : Nat → Prop := fun b => a ≤ b ∧ b < a + 2
theorem Tp.fr {S : Nat → Prop} {μ' : Mm} {a : Nat} (h : Tp μ a) (f : Fr S μ μ') : Tp μ' a := by unfold Tp; rw [f.2.1, f.2.2.1, f.2.2.2.1]; exact h
/-- bytes of a tape -/
def Tb (f : Nat → Int32) (l : List Nat) : Prop := ∀ i c, l[i]? = some c → f i = sb_b c
theorem Tb.push {f g : Nat → Int32} {l : List Nat} {c : Nat} (h : Tb f l) (ho : ∀ i, i < l.length → g i = f i) (hc : g l.length = sb_b c) : Tb g (l ++ [c]) := by
  intro i d hi
  rcases Nat.lt_trichotomy i l.length with q | q | q
  · rw [List.getElem?_append_left q] at hi
    rw [ho i q]
    exact h i d hi
  · subst q
    simp at hi
    subst hi
    exact hc
  · rw [List.getElem?_append_right (by omega)] at hi
    have : i - l.length < 1 := (List.getElem?_eq_some_iff.mp hi).1
    omega
def Tc (μ : Mm) (a : Nat) (l : List Nat) : Prop := mF μ a 1 = nI l.length ∧ Tb (mB μ (a + 1)) l ∧ l.length ≤ 400 ∧ (∀ c ∈ l, c < 256) ∧ ∀ i, i < 400 → ∃ c, c < 256 ∧ mB μ (a + 1) i = sb_b c
/-- the byte at s of a number -/
def by8 (x : Int32) (s : Nat) : Nat := (x >>> (nI s &&& 31)).toBitVec.toNat % 256
theorem by8_lt (x : Int32) (s : Nat) : by8 x s < 256 := Nat.mod_lt _ (by decide)
theorem low8 (y : Int32) : y.toInt8.toInt32 = sb_b (y.toBitVec.toNat % 256) := by
  unfold sb_b
  congr 1
  apply Int8.toBitVec_inj.mp
  apply BitVec.eq_of_toNat_eq
  simp [nI, BitVec.signExtend_eq_setWidth_of_le]
theorem by8_b (x : Int32) (s : Nat) : (x >>> (nI s &&& 31)).toInt8.toInt32.toInt8.toInt32 = sb_b (by8 x s) := by
  rw [low8 (x >>> (nI s &&& 31)), sb_b8 _ (Nat.mod_lt _ (by decide))]
  rfl
def by4 (x : Int32) : List Nat := [by8 x 24, by8 x 16, by8 x 8, by8 x 0]
theorem Tc.push {a c : Nat} {l : List Nat} {v : Int32} (h : Tc μ a l) (hl : l.length < 400) (hc : c < 256) (hv : v = sb_b c) : Tc (sF (sB μ (a + 1) l.length v) a 1 (nI (l.length + 1))) a (l ++ [c]) := by
  refine ⟨by simp only [mN_sF, mK_sF, mL_sF, mF_sF, mB_sF, mA_sF, mJ_sF, mP_sF, mO_sF, mN_sB, mK_sB, mL_sB, mF_sB, mB_sB, mA_sB, mJ_sB, mP_sB, mO_sB, mN_sA, mK_sA, mL_sA, mF_sA, mB_sA, mA_sA, mJ_sA, mP_sA, mO_sA, mN_sJ, mK_sJ, mL_sJ, mF_sJ, mB_sJ, mA_sJ, mJ_sJ, mP_sJ, mO_sJ, mN_sP, mK_sP, mL_sP, mF_sP, mB_sP, mA_sP, mJ_sP, mP_sP, mO_sP, mN_sO, mK_sO, mL_sO, mF_sO, mB_sO, mA_sO, mJ_sO, mP_sO, mO_sO, up2, if_true, if_false, eq_self, ite_true, ite_false, reduceIte, Nat.add_left_cancel_iff, Nat.add_eq_left, Nat.left_eq_add, Nat.reduceEqDiff]; simp, h.2.1.push (fun i hi => ?_) ?_, by simp; omega, fun d hd => ?_, fun i hi => ?_⟩
  · show up2 _ (a + 1) _ _ (a + 1) i = _
    rw [up2_k (by omega)]
  · show up2 _ (a + 1) _ _ (a + 1) _ = _
    rw [up2_s, hv]
  · rcases List.mem_append.mp hd with q | q
    · exact h.2.2.2.1 d q
    · simp at q; subst q; exact hc
  · show ∃ c, c < 256 ∧ up2 _ (a + 1) _ _ (a + 1) i = _
    by_cases e : i = l.length
    · rw [e, up2_s]; exact ⟨c, hc, hv⟩
    · rw [up2_k e]; exact h.2.2.2.2 i hi
theorem c_tadd {a : Nat} {l : List Nat} {x : Int32} (ht : Tp μ a) (hc : Tc μ a l) (hl : l.length + 4 ≤ 400) (k : ∀ μ', Fr (s2 a) μ μ' → Tc μ' a (l ++ by4 x) → K none μ') : Cl E M_X7_add [.ref a, .int x] μ K := by
  have Sa : s2 a a := ⟨by omega, by omega⟩
  have Sa1 : s2 a (a + 1) := ⟨by omega, by omega⟩
  refine Cl.of0 1 pn_X7 (Nat.le_of_ble_eq_true rfl) ⟨rfl, rfl⟩ rfl ?_
  refine e_bipush (nI 24) 2 rfl dX7_add_0 bc_24 ?_
  refine e_is2 3 rfl dX7_add_2 (by decide) rfl ?_
  have step : ∀ (s : Nat) (s' : Int32), s < 32 → nI s + Int32.ofInt (-8) = s' → ∀ μ' l', Fr (s2 a) μ μ' → Tc μ' a l' → l'.length < 400 → (∀ μ2, Fr (s2 a) μ μ2 → Tc μ2 a (l' ++ [by8 x s]) → Ev E M_X7_add 0 0 3 [some (.ref a), some (.int x), some (.int s')] [] μ2 K) → Ev E M_X7_add 0 0 3 [some (.ref a), some (.int x), some (.int (nI s))] [] μ' K := by
    intro s s' hs hs' μ' l' hF hT hl' next
    obtain ⟨hk, h0, hk1, hl1⟩ := ht.fr hF
    obtain ⟨t1, t2, t3, t4⟩ := id hT
    refine e_il2 4 rfl dX7_add_3 ?_
    first | refine e_if_ltN 46 7 (by decide) rfl dX7_add_4 rfl (by omega) ?_ | refine e_if_lt 46 7 (by decide) rfl dX7_add_4 (fun h => ?_) (fun h => ?_)
    refine e_al0 8 rfl dX7_add_7 ?_
    first | refine e_getIv 11 rfl dX7_add_8 f_X7_15 (by assumption) (by first | assumption | (simp only [mN_sF, mK_sF, mL_sF, mF_sF, mB_sF, mA_sF, mJ_sF, mP_sF, mO_sF, mN_sB, mK_sB, mL_sB, mF_sB, mB_sB, mA_sB, mJ_sB, mP_sB, mO_sB, mN_sA, mK_sA, mL_sA, mF_sA, mB_sA, mA_sA, mJ_sA, mP_sA, mO_sA, mN_sJ, mK_sJ, mL_sJ, mF_sJ, mB_sJ, mA_sJ, mJ_sJ, mP_sJ, mO_sJ, mN_sP, mK_sP, mL_sP, mF_sP, mB_sP, mA_sP, mJ_sP, mP_sP, mO_sP, mN_sO, mK_sO, mL_sO, mF_sO, mB_sO, mA_sO, mJ_sO, mP_sO, mO_sO, up2, if_true, if_false, eq_self, ite_true, ite_false, reduceIte, Nat.add_left_cancel_iff, Nat.add_eq_left, Nat.left_eq_add, Nat.reduceEqDiff]; assumption) | (simp only [mN_sF, mK_sF, mL_sF, mF_sF, mB_sF, mA_sF, mJ_sF, mP_sF, mO_sF, mN_sB, mK_sB, mL_sB, mF_sB, mB_sB, mA_sB, mJ_sB, mP_sB, mO_sB, mN_sA, mK_sA, mL_sA, mF_sA, mB_sA, mA_sA, mJ_sA, mP_sA, mO_sA, mN_sJ, mK_sJ, mL_sJ, mF_sJ, mB_sJ, mA_sJ, mJ_sJ, mP_sJ, mO_sJ, mN_sP, mK_sP, mL_sP, mF_sP, mB_sP, mA_sP, mJ_sP, mP_sP, mO_sP, mN_sO, mK_sO, mL_sO, mF_sO, mB_sO, mA_sO, mJ_sO, mP_sO, mO_sO, up2, if_true, if_false, eq_self, ite_true, ite_false, reduceIte, Nat.add_left_cancel_iff, Nat.add_eq_left, Nat.left_eq_add, Nat.reduceEqDiff]; done)) ?_ | refine e_getI 11 rfl dX7_add_8 f_X7_15 (by assumption) ?_
    refine e_sipush (nI 400) 14 rfl dX7_add_11 sc_400 ?_
    first | refine e_cmp_geN 46 17 (by decide) rfl dX7_add_14 rfl rfl (by omega) (by omega) (fun h1 => ?_) (fun h1 => ?_) | refine e_cmp_ge 46 17 (by decide) rfl dX7_add_14 (fun h1 => ?_) (fun h1 => ?_)
    · omega
    refine e_al0 18 rfl dX7_add_17 ?_
    refine e_getR 21 rfl dX7_add_18 f_X7_9 (by assumption) (by assumption) ?_
    refine e_al0 22 rfl dX7_add_21 ?_
    first | refine e_getIv 25 rfl dX7_add_22 f_X7_15 (by assumption) (by first | assumption | (simp only [mN_sF, mK_sF, mL_sF, mF_sF, mB_sF, mA_sF, mJ_sF, mP_sF, mO_sF, mN_sB, mK_sB, mL_sB, mF_sB, mB_sB, mA_sB, mJ_sB, mP_sB, mO_sB, mN_sA, mK_sA, mL_sA, mF_sA, mB_sA, mA_sA, mJ_sA, mP_sA, mO_sA, mN_sJ, mK_sJ, mL_sJ, mF_sJ, mB_sJ, mA_sJ, mJ_sJ, mP_sJ, mO_sJ, mN_sP, mK_sP, mL_sP, mF_sP, mB_sP, mA_sP, mJ_sP, mP_sP, mO_sP, mN_sO, mK_sO, mL_sO, mF_sO, mB_sO, mA_sO, mJ_sO, mP_sO, mO_sO, up2, if_true, if_false, eq_self, ite_true, ite_false, reduceIte, Nat.add_left_cancel_iff, Nat.add_eq_left, Nat.left_eq_add, Nat.reduceEqDiff]; assumption) | (simp only [mN_sF, mK_sF, mL_sF, mF_sF, mB_sF, mA_sF, mJ_sF, mP_sF, mO_sF, mN_sB, mK_sB, mL_sB, mF_sB, mB_sB, mA_sB, mJ_sB, mP_sB, mO_sB, mN_sA, mK_sA, mL_sA, mF_sA, mB_sA, mA_sA, mJ_sA, mP_sA, mO_sA, mN_sJ, mK_sJ, mL_sJ, mF_sJ, mB_sJ, mA_sJ, mJ_sJ, mP_sJ, mO_sJ, mN_sP, mK_sP, mL_sP, mF_sP, mB_sP, mA_sP, mJ_sP, mP_sP, mO_sP, mN_sO, mK_sO, mL_sO, mF_sO, mB_sO, mA_sO, mJ_sO, mP_sO, mO_sO, up2, if_true, if_false, eq_self, ite_true, ite_false, reduceIte, Nat.add_left_cancel_iff, Nat.add_eq_left, Nat.left_eq_add, Nat.reduceEqDiff]; done)) ?_ | refine e_getI 25 rfl dX7_add_22 f_X7_15 (by assumption) ?_
    refine e_il1 26 rfl dX7_add_25 ?_
    refine e_il2 27 rfl dX7_add_26 ?_
    refine e_ishr 28 rfl dX7_add_27 ?_
    refine e_i2b 29 rfl dX7_add_28 ?_
    first | refine e_bast 30 rfl dX7_add_29 (by assumption) (by assumption) (by first | rfl | simp only [pk_mul, nI_add]) (by omega) (by omega) ?_ | refine e_zast 30 rfl dX7_add_29 (by assumption) (by assumption) (by first | rfl | simp only [pk_mul, nI_add]) (by omega) (by omega) (by first | exact z0 | exact z1 | exact bI01 _ | assumption) ?_
    refine e_al0 31 rfl dX7_add_30 ?_
    refine e_dup 32 rfl dX7_add_31 rfl ?_
    first | refine e_getIv 35 rfl dX7_add_32 f_X7_15 (by assumption) (by first | assumption | (simp only [mN_sF, mK_sF, mL_sF, mF_sF, mB_sF, mA_sF, mJ_sF, mP_sF, mO_sF, mN_sB, mK_sB, mL_sB, mF_sB, mB_sB, mA_sB, mJ_sB, mP_sB, mO_sB, mN_sA, mK_sA, mL_sA, mF_sA, mB_sA, mA_sA, mJ_sA, mP_sA, mO_sA, mN_sJ, mK_sJ, mL_sJ, mF_sJ, mB_sJ, mA_sJ, mJ_sJ, mP_sJ, mO_sJ, mN_sP, mK_sP, mL_sP, mF_sP, mB_sP, mA_sP, mJ_sP, mP_sP, mO_sP, mN_sO, mK_sO, mL_sO, mF_sO, mB_sO, mA_sO, mJ_sO, mP_sO, mO_sO, up2, if_true, if_false, eq_self, ite_true, ite_false, reduceIte, Nat.add_left_cancel_iff, Nat.add_eq_left, Nat.left_eq_add, Nat.reduceEqDiff]; assumption) | (simp only [mN_sF, mK_sF, mL_sF, mF_sF, mB_sF, mA_sF, mJ_sF, mP_sF, mO_sF, mN_sB, mK_sB, mL_sB, mF_sB, mB_sB, mA_sB, mJ_sB, mP_sB, mO_sB, mN_sA, mK_sA, mL_sA, mF_sA, mB_sA, mA_sA, mJ_sA, mP_sA, mO_sA, mN_sJ, mK_sJ, mL_sJ, mF_sJ, mB_sJ, mA_sJ, mJ_sJ, mP_sJ, mO_sJ, mN_sP, mK_sP, mL_sP, mF_sP, mB_sP, mA_sP, mJ_sP, mP_sP, mO_sP, mN_sO, mK_sO, mL_sO, mF_sO, mB_sO, mA_sO, mJ_sO, mP_sO, mO_sO, up2, if_true, if_false, eq_self, ite_true, ite_false, reduceIte, Nat.add_left_cancel_iff, Nat.add_eq_left, Nat.left_eq_add, Nat.reduceEqDiff]; done)) ?_ | refine e_getI 35 rfl dX7_add_32 f_X7_15 (by assumption) ?_
    refine e_iconst (nI 1) 36 rfl dX7_add_35 ic_1 ?_
    first | refine e_iaddN 37 rfl dX7_add_36 rfl rfl ?_ | refine e_iadd 37 rfl dX7_add_36 ?_
    refine e_putI 40 rfl dX7_add_37 f_X7_15 (by assumption) ?_
    refine e_ii2 s' 43 rfl dX7_add_40 hs' rfl ?_
    refine e_goto 3 (by decide) dX7_add_43 ?_
    exact next _ ((hF.sB Sa1 _ _).sF Sa _ _) (hT.push hl' (by8_lt x s) (by8_b x s))
  refine step 24 (nI 16) (by decide) (by decide) μ l Fr.rf hc (by omega) (fun μ1 hF1 hT1 => ?_)
  refine step 16 (nI 8) (by decide) (by decide) μ1 _ hF1 hT1 (by simp; omega) (fun μ2 hF2 hT2 => ?_)
  refine step 8 (nI 0) (by decide) (by decide) μ2 _ hF2 hT2 (by simp; omega) (fun μ3 hF3 hT3 => ?_)
  refine step 0 (-8) (by decide) (by decide) μ3 _ hF3 hT3 (by simp; omega) (fun μ4 hF4 hT4 => ?_)
  refine e_il2 4 rfl dX7_add_3 ?_
  first | refine e_if_ltN 46 7 (by decide) rfl dX7_add_4 rfl (by omega) ?_ | refine e_if_lt 46 7 (by decide) rfl dX7_add_4 (fun h9 => ?_) (fun h9 => ?_)
  · refine e_ret dX7_add_46 rfl ?_
    refine k μ4 hF4 ?_
    simpa [by4] using hT4
  · exact absurd (by decide) h9
/-- the line at a -/
def Ln (μ : Mm) (a : Nat) : Prop := mK μ a = 2 ∧ mP μ a 0 = some (a + 1) ∧ mK μ (a + 1) = 12 ∧ mL μ (a + 1) = 488
theorem Ln.fr {S : Nat → Prop} {μ' : Mm} {a : Nat} (h : Ln μ a) (f : Fr S μ μ') : Ln μ' a := by unfold Ln; rw [f.2.1, f.2.2.1, f.2.2.2.1]; exact h
def Lc (μ : Mm) (a : Nat) (l : List Nat) : Prop := mF μ a 1 = nI l.length ∧ Hd (mB μ (a + 1)) l ∧ l.length ≤ 488 ∧ ∀ c ∈ l, c < 128
theorem Lc.fr {S : Nat → Prop} {μ' : Mm} {a : Nat} {l : List Nat} (h : Lc μ a l) (f : Fr S μ μ') (h1 : ¬ S a) (h2 : ¬ S (a + 1)) : Lc μ' a l := by
  unfold Lc
  rw [(f.2.2.2.2.2 a h1).1, (f.2.2.2.2.2 (a + 1) h2).2.1]
  exact h
theorem c_ladd {a c : Nat} {l : List Nat} (ht : Ln μ a) (hc : Lc μ a l) (hl : l.length < 488) (hcc : c < 128) (k : ∀ μ', Fr (s2 a) μ μ' → Lc μ' a (l ++ [c]) → K none μ') : Cl E M_X1_add [.ref a, .int (nI c)] μ K := by
  have Sa : s2 a a := ⟨by omega, by omega⟩
  have Sa1 : s2 a (a + 1) := ⟨by omega, by omega⟩
  obtain ⟨hk, h0, hk1, hl1⟩ := ht
  obtain ⟨t1, t2, t3, t4⟩ := hc
  refine Cl.of0 0 pn_X1 (Nat.le_of_ble_eq_true rfl) ⟨rfl, rfl⟩ rfl ?_
  refine e_al0 1 rfl dX1_add_0 ?_
  first | refine e_getIv 4 rfl dX1_add_1 f_X1_15 (by assumption) (by first | assumption | (simp only [mN_sF, mK_sF, mL_sF, mF_sF, mB_sF, mA_sF, mJ_sF, mP_sF, mO_sF, mN_sB, mK_sB, mL_sB, mF_sB, mB_sB, mA_sB, mJ_sB, mP_sB, mO_sB, mN_sA, mK_sA, mL_sA, mF_sA, mB_sA, mA_sA, mJ_sA, mP_sA, mO_sA, mN_sJ, mK_sJ, mL_sJ, mF_sJ, mB_sJ, mA_sJ, mJ_sJ, mP_sJ, mO_sJ, mN_sP, mK_sP, mL_sP, mF_sP, mB_sP, mA_sP, mJ_sP, mP_sP, mO_sP, mN_sO, mK_sO, mL_sO, mF_sO, mB_sO, mA_sO, mJ_sO, mP_sO, mO_sO, up2, if_true, if_false, eq_self, ite_true, ite_false, reduceIte, Nat.add_left_cancel_iff, Nat.add_eq_left, Nat.left_eq_add, Nat.reduceEqDiff]; assumption) | (simp only [mN_sF, mK_sF, mL_sF, mF_sF, mB_sF, mA_sF, mJ_sF, mP_sF, mO_sF, mN_sB, mK_sB, mL_sB, mF_sB, mB_sB, mA_sB, mJ_sB, mP_sB, mO_sB, mN_sA, mK_sA, mL_sA, mF_sA, mB_sA, mA_sA, mJ_sA, mP_sA, mO_sA, mN_sJ, mK_sJ, mL_sJ, mF_sJ, mB_sJ, mA_sJ, mJ_sJ, mP_sJ, mO_sJ, mN_sP, mK_sP, mL_sP, mF_sP, mB_sP, mA_sP, mJ_sP, mP_sP, mO_sP, mN_sO, mK_sO, mL_sO, mF_sO, mB_sO, mA_sO, mJ_sO, mP_sO, mO_sO, up2, if_true, if_false, eq_self, ite_true, ite_false, reduceIte, Nat.add_left_cancel_iff, Nat.add_eq_left, Nat.left_eq_add, Nat.reduceEqDiff]; done)) ?_ | refine e_getI 4 rfl dX1_add_1 f_X1_15 (by assumption) ?_
  refine e_sipush (nI 488) 7 rfl dX1_add_4 sc_488 ?_
  first | refine e_cmp_geN 30 10 (by decide) rfl dX1_add_7 rfl rfl (by omega) (by omega) (fun h1 => ?_) (fun h1 => ?_) | refine e_cmp_ge 30 10 (by decide) rfl dX1_add_7 (fun h1 => ?_) (fun h1 => ?_)
  · omega
  refine e_al0 11 rfl dX1_add_10 ?_
  refine e_getR 14 rfl dX1_add_11 f_X1_9 (by assumption) (by assumption) ?_
  refine e_al0 15 rfl dX1_add_14 ?_
  first | refine e_getIv 18 rfl dX1_add_15 f_X1_15 (by assumption) (by first | assumption | (simp only [mN_sF, mK_sF, mL_sF, mF_sF, mB_sF, mA_sF, mJ_sF, mP_sF, mO_sF, mN_sB, mK_sB, mL_sB, mF_sB, mB_sB, mA_sB, mJ_sB, mP_sB, mO_sB, mN_sA, mK_sA, mL_sA, mF_sA, mB_sA, mA_sA, mJ_sA, mP_sA, mO_sA, mN_sJ, mK_sJ, mL_sJ, mF_sJ, mB_sJ, mA_sJ, mJ_sJ, mP_sJ, mO_sJ, mN_sP, mK_sP, mL_sP, mF_sP, mB_sP, mA_sP, mJ_sP, mP_sP, mO_sP, mN_sO, mK_sO, mL_sO, mF_sO, mB_sO, mA_sO, mJ_sO, mP_sO, mO_sO, up2, if_true, if_false, eq_self, ite_true, ite_false, reduceIte, Nat.add_left_cancel_iff, Nat.add_eq_left, Nat.left_eq_add, Nat.reduceEqDiff]; assumption) | (simp only [mN_sF, mK_sF, mL_sF, mF_sF, mB_sF, mA_sF, mJ_sF, mP_sF, mO_sF, mN_sB, mK_sB, mL_sB, mF_sB, mB_sB, mA_sB, mJ_sB, mP_sB, mO_sB, mN_sA, mK_sA, mL_sA, mF_sA, mB_sA, mA_sA, mJ_sA, mP_sA, mO_sA, mN_sJ, mK_sJ, mL_sJ, mF_sJ, mB_sJ, mA_sJ, mJ_sJ, mP_sJ, mO_sJ, mN_sP, mK_sP, mL_sP, mF_sP, mB_sP, mA_sP, mJ_sP, mP_sP, mO_sP, mN_sO, mK_sO, mL_sO, mF_sO, mB_sO, mA_sO, mJ_sO, mP_sO, mO_sO, up2, if_true, if_false, eq_self, ite_true, ite_false, reduceIte, Nat.add_left_cancel_iff, Nat.add_eq_left, Nat.left_eq_add, Nat.reduceEqDiff]; done)) ?_ | refine e_getI 18 rfl dX1_add_15 f_X1_15 (by assumption) ?_
  refine e_il1 19 rfl dX1_add_18 ?_
  first | refine e_bast 20 rfl dX1_add_19 (by assumption) (by assumption) (by first | rfl | simp only [pk_mul, nI_add]) (by omega) (by omega) ?_ | refine e_zast 20 rfl dX1_add_19 (by assumption) (by assumption) (by first | rfl | simp only [pk_mul, nI_add]) (by omega) (by omega) (by first | exact z0 | exact z1 | exact bI01 _ | assumption) ?_
  refine e_al0 21 rfl dX1_add_20 ?_
  refine e_dup 22 rfl dX1_add_21 rfl ?_
  first | refine e_getIv 25 rfl dX1_add_22 f_X1_15 (by assumption) (by first | assumption | (simp only [mN_sF, mK_sF, mL_sF, mF_sF, mB_sF, mA_sF, mJ_sF, mP_sF, mO_sF, mN_sB, mK_sB, mL_sB, mF_sB, mB_sB, mA_sB, mJ_sB, mP_sB, mO_sB, mN_sA, mK_sA, mL_sA, mF_sA, mB_sA, mA_sA, mJ_sA, mP_sA, mO_sA, mN_sJ, mK_sJ, mL_sJ, mF_sJ, mB_sJ, mA_sJ, mJ_sJ, mP_sJ, mO_sJ, mN_sP, mK_sP, mL_sP, mF_sP, mB_sP, mA_sP, mJ_sP, mP_sP, mO_sP, mN_sO, mK_sO, mL_sO, mF_sO, mB_sO, mA_sO, mJ_sO, mP_sO, mO_sO, up2, if_true, if_false, eq_self, ite_true, ite_false, reduceIte, Nat.add_left_cancel_iff, Nat.add_eq_left, Nat.left_eq_add, Nat.reduceEqDiff]; assumption) | (simp only [mN_sF, mK_sF, mL_sF, mF_sF, mB_sF, mA_sF, mJ_sF, mP_sF, mO_sF, mN_sB, mK_sB, mL_sB, mF_sB, mB_sB, mA_sB, mJ_sB, mP_sB, mO_sB, mN_sA, mK_sA, mL_sA, mF_sA, mB_sA, mA_sA, mJ_sA, mP_sA, mO_sA, mN_sJ, mK_sJ, mL_sJ, mF_sJ, mB_sJ, mA_sJ, mJ_sJ, mP_sJ, mO_sJ, mN_sP, mK_sP, mL_sP, mF_sP, mB_sP, mA_sP, mJ_sP, mP_sP, mO_sP, mN_sO, mK_sO, mL_sO, mF_sO, mB_sO, mA_sO, mJ_sO, mP_sO, mO_sO, up2, if_true, if_false, eq_self, ite_true, ite_false, reduceIte, Nat.add_left_cancel_iff, Nat.add_eq_left, Nat.left_eq_add, Nat.reduceEqDiff]; done)) ?_ | refine e_getI 25 rfl dX1_add_22 f_X1_15 (by assumption) ?_
  refine e_iconst (nI 1) 26 rfl dX1_add_25 ic_1 ?_
  first | refine e_iaddN 27 rfl dX1_add_26 rfl rfl ?_ | refine e_iadd 27 rfl dX1_add_26 ?_
  refine e_putI 30 rfl dX1_add_27 f_X1_15 (by assumption) ?_
  refine e_ret dX1_add_30 rfl ?_
  refine k _ ((Fr.rf.sB Sa1 _ _).sF Sa _ _) ⟨by simp only [mN_sF, mK_sF, mL_sF, mF_sF, mB_sF, mA_sF, mJ_sF, mP_sF, mO_sF, mN_sB, mK_sB, mL_sB, mF_sB, mB_sB, mA_sB, mJ_sB, mP_sB, mO_sB, mN_sA, mK_sA, mL_sA, mF_sA, mB_sA, mA_sA, mJ_sA, mP_sA, mO_sA, mN_sJ, mK_sJ, mL_sJ, mF_sJ, mB_sJ, mA_sJ, mJ_sJ, mP_sJ, mO_sJ, mN_sP, mK_sP, mL_sP, mF_sP, mB_sP, mA_sP, mJ_sP, mP_sP, mO_sP, mN_sO, mK_sO, mL_sO, mF_sO, mB_sO, mA_sO, mJ_sO, mP_sO, mO_sO, up2, if_true, if_false, eq_self, ite_true, ite_false, reduceIte, Nat.add_left_cancel_iff, Nat.add_eq_left, Nat.left_eq_add, Nat.reduceEqDiff]; simp, t2.push (fun i hi => ?_) ?_, by simp; omega, fun d hd => ?_⟩
  · show up2 _ (a + 1) _ _ (a + 1) i = _
    rw [up2_k (by omega)]
  · show up2 _ (a + 1) _ _ (a + 1) _ = _
    rw [up2_s]; exact nI_b8 c hcc
  · rcases List.mem_append.mp hd with q | q
    · exact t4 d q
    · simp at q; subst q; exact hcc
def bl (ahead : Nat) : List Nat := if ahead = 0 then [] else [32]
/-- a blank, if something stands ahead -/
theorem c_addWord {a t n ah : Nat} {l w : List Nat} (ht : Ln μ a) (hc : Lc μ a l) (hkt : mK μ t = 12) (hlt : mL μ t = n) (hn : n < 2 ^ 31) (hw : Hd (mB μ t) w) (hwc : ∀ c ∈ w, c < 128) (hwn : w.length ≤ n) (hne : ¬ s2 a t) (hah : ah < 2 ^ 31) (hl : l.length + 1 + w.length ≤ 488) (k : ∀ μ', Fr (s2 a) μ μ' → Lc μ' a (l ++ bl ah ++ w) → K none μ') : Cl E M_X1_addWord [.ref a, .ref t, .int (nI w.length), .int (nI ah)] μ K := by
  have loop : ∀ (fu i : Nat), i + fu = w.length → ∀ μ', Fr (s2 a) μ μ' → Lc μ' a (l ++ bl ah ++ w.take i) → Ev E M_X1_addWord 0 0 13 [some (.ref a), some (.ref t), some (.int (nI w.length)), some (.int (nI ah)), some (.int (nI i))] [] μ' K := by
    intro fu
    induction fu with
    | zero =>
      intro i hi μ' hF hL
      refine e_il4 15 rfl dX1_addWord_13 ?_
      refine e_il2 16 rfl dX1_addWord_15 ?_
      first | refine e_cmp_geN 40 19 (by decide) rfl dX1_addWord_16 rfl rfl (by omega) (by omega) (fun h1 => ?_) (fun h1 => ?_) | refine e_cmp_ge 40 19 (by decide) rfl dX1_addWord_16 (fun h1 => ?_) (fun h1 => ?_)
      · refine e_ret dX1_addWord_40 rfl ?_
        refine k μ' hF ?_
        rw [List.take_of_length_le (by omega)] at hL
        exact hL
      · omega
    | succ fu ih =>
      intro i hi μ' hF hL
      have hk' : mK μ' a = 2 := (ht.fr hF).1
      have hkt' : mK μ' t = 12 := by rw [hF.2.1]; exact hkt
      have hlt' : mL μ' t = n := by rw [hF.2.2.1]; exact hlt
      have hB : mB μ' t i = nI (w[i]'(by omega)) := by rw [(hF.2.2.2.2.2 t hne).2.1]; exact hw.at (by omega)
      have hbl : (bl ah).length ≤ 1 := by unfold bl; split <;> simp
      refine e_il4 15 rfl dX1_addWord_13 ?_
      refine e_il2 16 rfl dX1_addWord_15 ?_
      first | refine e_cmp_geN 40 19 (by decide) rfl dX1_addWord_16 rfl rfl (by omega) (by omega) (fun h1 => ?_) (fun h1 => ?_) | refine e_cmp_ge 40 19 (by decide) rfl dX1_addWord_16 (fun h1 => ?_) (fun h1 => ?_)
      · omega
      refine e_il4 21 rfl dX1_addWord_19 ?_
      refine e_al1 22 rfl dX1_addWord_21 ?_
      refine e_alen 23 rfl dX1_addWord_22 (by first | exact Or.inl (by assumption) | exact Or.inr (Or.inl (by assumption)) | exact Or.inr (Or.inr (by assumption))) (by assumption) ?_
      first | refine e_cmp_geN 40 26 (by decide) rfl dX1_addWord_23 rfl rfl (by omega) (by omega) (fun h2 => ?_) (fun h2 => ?_) | refine e_cmp_ge 40 26 (by decide) rfl dX1_addWord_23 (fun h2 => ?_) (fun h2 => ?_)
      · omega
      refine e_al0 27 rfl dX1_addWord_26 ?_
      refine e_al1 28 rfl dX1_addWord_27 ?_
      refine e_il4 30 rfl dX1_addWord_28 ?_
      first | refine e_baldv 31 rfl dX1_addWord_30 (by assumption) (by assumption) (by first | rfl | simp only [pk_mul, nI_add]) (by omega) (by omega) (by first | assumption | (simp only [mN_sF, mK_sF, mL_sF, mF_sF, mB_sF, mA_sF, mJ_sF, mP_sF, mO_sF, mN_sB, mK_sB, mL_sB, mF_sB, mB_sB, mA_sB, mJ_sB, mP_sB, mO_sB, mN_sA, mK_sA, mL_sA, mF_sA, mB_sA, mA_sA, mJ_sA, mP_sA, mO_sA, mN_sJ, mK_sJ, mL_sJ, mF_sJ, mB_sJ, mA_sJ, mJ_sJ, mP_sJ, mO_sJ, mN_sP, mK_sP, mL_sP, mF_sP, mB_sP, mA_sP, mJ_sP, mP_sP, mO_sP, mN_sO, mK_sO, mL_sO, mF_sO, mB_sO, mA_sO, mJ_sO, mP_sO, mO_sO, up2, if_true, if_false, eq_self, ite_true, ite_false, reduceIte, Nat.add_left_cancel_iff, Nat.add_eq_left, Nat.left_eq_add, Nat.reduceEqDiff]; assumption) | (simp only [mN_sF, mK_sF, mL_sF, mF_sF, mB_sF, mA_sF, mJ_sF, mP_sF, mO_sF, mN_sB, mK_sB, mL_sB, mF_sB, mB_sB, mA_sB, mJ_sB, mP_sB, mO_sB, mN_sA, mK_sA, mL_sA, mF_sA, mB_sA, mA_sA, mJ_sA, mP_sA, mO_sA, mN_sJ, mK_sJ, mL_sJ, mF_sJ, mB_sJ, mA_sJ, mJ_sJ, mP_sJ, mO_sJ, mN_sP, mK_sP, mL_sP, mF_sP, mB_sP, mA_sP, mJ_sP, mP_sP, mO_sP, mN_sO, mK_sO, mL_sO, mF_sO, mB_sO, mA_sO, mJ_sO, mP_sO, mO_sO, up2, if_true, if_false, eq_self, ite_true, ite_false, reduceIte, Nat.add_left_cancel_iff, Nat.add_eq_left, Nat.left_eq_add, Nat.reduceEqDiff]; done)) ?_ | refine e_zaldv 31 rfl dX1_addWord_30 (by assumption) (by assumption) (by first | rfl | simp only [pk_mul, nI_add]) (by omega) (by omega) (by first | assumption | (simp only [mN_sF, mK_sF, mL_sF, mF_sF, mB_sF, mA_sF, mJ_sF, mP_sF, mO_sF, mN_sB, mK_sB, mL_sB, mF_sB, mB_sB, mA_sB, mJ_sB, mP_sB, mO_sB, mN_sA, mK_sA, mL_sA, mF_sA, mB_sA, mA_sA, mJ_sA, mP_sA, mO_sA, mN_sJ, mK_sJ, mL_sJ, mF_sJ, mB_sJ, mA_sJ, mJ_sJ, mP_sJ, mO_sJ, mN_sP, mK_sP, mL_sP, mF_sP, mB_sP, mA_sP, mJ_sP, mP_sP, mO_sP, mN_sO, mK_sO, mL_sO, mF_sO, mB_sO, mA_sO, mJ_sO, mP_sO, mO_sO, up2, if_true, if_false, eq_self, ite_true, ite_false, reduceIte, Nat.add_left_cancel_iff, Nat.add_eq_left, Nat.left_eq_add, Nat.reduceEqDiff]; assumption) | (simp only [mN_sF, mK_sF, mL_sF, mF_sF, mB_sF, mA_sF, mJ_sF, mP_sF, mO_sF, mN_sB, mK_sB, mL_sB, mF_sB, mB_sB, mA_sB, mJ_sB, mP_sB, mO_sB, mN_sA, mK_sA, mL_sA, mF_sA, mB_sA, mA_sA, mJ_sA, mP_sA, mO_sA, mN_sJ, mK_sJ, mL_sJ, mF_sJ, mB_sJ, mA_sJ, mJ_sJ, mP_sJ, mO_sJ, mN_sP, mK_sP, mL_sP, mF_sP, mB_sP, mA_sP, mJ_sP, mP_sP, mO_sP, mN_sO, mK_sO, mL_sO, mF_sO, mB_sO, mA_sO, mJ_sO, mP_sO, mO_sO, up2, if_true, if_false, eq_self, ite_true, ite_false, reduceIte, Nat.add_left_cancel_iff, Nat.add_eq_left, Nat.left_eq_add, Nat.reduceEqDiff]; done)) ?_ | refine e_bald 31 rfl dX1_addWord_30 (by assumption) (by assumption) (by first | rfl | simp only [pk_mul, nI_add]) (by omega) (by omega) ?_ | refine e_zald 31 rfl dX1_addWord_30 (by assumption) (by assumption) (by first | rfl | simp only [pk_mul, nI_add]) (by omega) (by omega) ?_
      refine e_invV0 [_] 34 rfl dX1_addWord_31 k_X1_19 mo_X1_add rm_X1_addWord_X1_add ⟨rfl, rfl⟩ rfl rfl (by assumption) (Nat.le_of_ble_eq_true rfl) ?_
      refine c_ladd (ht.fr hF) hL (by simp; omega) (hwc _ (List.getElem_mem _)) (fun μ2 hF2 hL2 => ?_)
      refine e_ii4 (nI (_ + 1)) 37 rfl dX1_addWord_34 (ii1 _) rfl ?_
      refine e_goto 13 (by decide) dX1_addWord_37 ?_
      refine ih (i + 1) (by omega) μ2 (hF.trans hF2) ?_
      rw [List.take_succ_eq_append_getElem (by omega), ← List.append_assoc]
      exact hL2
  have hk := ht.1
  refine Cl.of0 1 pn_X1 (Nat.le_of_ble_eq_true rfl) ⟨rfl, rfl⟩ rfl ?_
  refine e_il3 1 rfl dX1_addWord_0 ?_
  first | refine e_if_leN 10 4 (by decide) rfl dX1_addWord_1 rfl (by omega) (fun h0 => ?_) (fun h0 => ?_) | refine e_if_le 10 4 (by decide) rfl dX1_addWord_1 (fun h0 => ?_) (fun h0 => ?_)
  · refine e_iconst (nI 0) 11 rfl dX1_addWord_10 ic_0 ?_
    refine e_is4 13 rfl dX1_addWord_11 (by decide) rfl ?_
    refine loop w.length 0 (by omega) μ Fr.rf ?_
    simpa [bl, h0] using hc
  · refine e_al0 5 rfl dX1_addWord_4 ?_
    refine e_bipush (nI 32) 7 rfl dX1_addWord_5 bc_32 ?_
    refine e_invV0 [_] 10 rfl dX1_addWord_7 k_X1_19 mo_X1_add rm_X1_addWord_X1_add ⟨rfl, rfl⟩ rfl rfl (by assumption) (Nat.le_of_ble_eq_true rfl) ?_
    refine c_ladd ht hc (by omega) (by decide) (fun μ2 hF2 hL2 => ?_)
    refine e_iconst (nI 0) 11 rfl dX1_addWord_10 ic_0 ?_
    refine e_is4 13 rfl dX1_addWord_11 (by decide) rfl ?_
    refine loop w.length 0 (by omega) μ2 hF2 ?_
    simpa [bl, Nat.ne_of_gt h0] using hL2
/-- signAt(k) -/
def sgn (l : List Nat) (k : Int32) : Int32 := if k < 0 then -1 else match l[k.toNatClampNeg]? with
  | some c => nI c
  | none => -1
theorem c_signAt {a : Nat} {l : List Nat} {x : Int32} (ht : Ln μ a) (hc : Lc μ a l) (k : K (some (.int (sgn l x))) μ) : Cl E M_X1_signAt [.ref a, .int x] μ K := by
  obtain ⟨hk, h0, hk1, hl1⟩ := ht
  obtain ⟨t1, t2, t3, t4⟩ := hc
  refine Cl.of0 0 pn_X1 (Nat.le_of_ble_eq_true rfl) ⟨rfl, rfl⟩ rfl ?_
  rcases pk_ix x (n := l.length) (by omega) with q | q | ⟨j, hj, rfl⟩
  · refine e_il1 1 rfl dX1_signAt_0 ?_
    first | refine e_if_ltN 21 4 (by decide) rfl dX1_signAt_1 rfl (by omega) ?_ | refine e_if_lt 21 4 (by decide) rfl dX1_signAt_1 (fun h1 => ?_) (fun h1 => ?_)
    · refine e_iconst (-1) 22 rfl dX1_signAt_21 ic_m1 ?_
      refine e_iret dX1_signAt_22 rfl ?_
      have e : sgn l x = -1 := by simp [sgn, q]
      rw [← e]; exact k
    · exact absurd q h1
  · have q0 : ¬ x < 0 := fun h => by
      have : (0 : Int32) ≤ nI l.length := nI_pos' (by omega)
      exact absurd (Int32.lt_of_le_of_lt q h) (by rw [Int32.not_lt]; exact this)
    refine e_il1 1 rfl dX1_signAt_0 ?_
    first | refine e_if_ltN 21 4 (by decide) rfl dX1_signAt_1 rfl (by omega) ?_ | refine e_if_lt 21 4 (by decide) rfl dX1_signAt_1 (fun h1 => ?_) (fun h1 => ?_)
    · exact absurd h1 q0
    refine e_il1 5 rfl dX1_signAt_4 ?_
    refine e_al0 6 rfl dX1_signAt_5 ?_
    first | refine e_getIv 9 rfl dX1_signAt_6 f_X1_15 (by assumption) (by first | assumption | (simp only [mN_sF, mK_sF, mL_sF, mF_sF, mB_sF, mA_sF, mJ_sF, mP_sF, mO_sF, mN_sB, mK_sB, mL_sB, mF_sB, mB_sB, mA_sB, mJ_sB, mP_sB, mO_sB, mN_sA, mK_sA, mL_sA, mF_sA, mB_sA, mA_sA, mJ_sA, mP_sA, mO_sA, mN_sJ, mK_sJ, mL_sJ, mF_sJ, mB_sJ, mA_sJ, mJ_sJ, mP_sJ, mO_sJ, mN_sP, mK_sP, mL_sP, mF_sP, mB_sP, mA_sP, mJ_sP, mP_sP, mO_sP, mN_sO, mK_sO, mL_sO, mF_sO, mB_sO, mA_sO, mJ_sO, mP_sO, mO_sO, up2, if_true, if_false, eq_self, ite_true, ite_false, reduceIte, Nat.add_left_cancel_iff, Nat.add_eq_left, Nat.left_eq_add, Nat.reduceEqDiff]; assumption) | (simp only [mN_sF, mK_sF, mL_sF, mF_sF, mB_sF, mA_sF, mJ_sF, mP_sF, mO_sF, mN_sB, mK_sB, mL_sB, mF_sB, mB_sB, mA_sB, mJ_sB, mP_sB, mO_sB, mN_sA, mK_sA, mL_sA, mF_sA, mB_sA, mA_sA, mJ_sA, mP_sA, mO_sA, mN_sJ, mK_sJ, mL_sJ, mF_sJ, mB_sJ, mA_sJ, mJ_sJ, mP_sJ, mO_sJ, mN_sP, mK_sP, mL_sP, mF_sP, mB_sP, mA_sP, mJ_sP, mP_sP, mO_sP, mN_sO, mK_sO, mL_sO, mF_sO, mB_sO, mA_sO, mJ_sO, mP_sO, mO_sO, up2, if_true, if_false, eq_self, ite_true, ite_false, reduceIte, Nat.add_left_cancel_iff, Nat.add_eq_left, Nat.left_eq_add, Nat.reduceEqDiff]; done)) ?_ | refine e_getI 9 rfl dX1_signAt_6 f_X1_15 (by assumption) ?_
    first | refine e_cmp_geN 21 12 (by decide) rfl dX1_signAt_9 rfl rfl (by omega) (by omega) (fun h2 => ?_) (fun h2 => ?_) | refine e_cmp_ge 21 12 (by decide) rfl dX1_signAt_9 (fun h2 => ?_) (fun h2 => ?_)
    · refine e_iconst (-1) 22 rfl dX1_signAt_21 ic_m1 ?_
      refine e_iret dX1_signAt_22 rfl ?_
      obtain ⟨m, hm, rfl⟩ := nI_of q0
      have hm2 : l.length ≤ m := (nI_leI (by omega) hm).mp q
      have e : sgn l (nI m) = -1 := by
        unfold sgn
        rw [if_neg q0, nI_clamp hm, List.getElem?_eq_none hm2]
      rw [← e]; exact k
    · exact absurd q h2
  · refine e_il1 1 rfl dX1_signAt_0 ?_
    first | refine e_if_ltN 21 4 (by decide) rfl dX1_signAt_1 rfl (by omega) ?_ | refine e_if_lt 21 4 (by decide) rfl dX1_signAt_1 (fun h => ?_) (fun h => ?_)
    refine e_il1 5 rfl dX1_signAt_4 ?_
    refine e_al0 6 rfl dX1_signAt_5 ?_
    first | refine e_getIv 9 rfl dX1_signAt_6 f_X1_15 (by assumption) (by first | assumption | (simp only [mN_sF, mK_sF, mL_sF, mF_sF, mB_sF, mA_sF, mJ_sF, mP_sF, mO_sF, mN_sB, mK_sB, mL_sB, mF_sB, mB_sB, mA_sB, mJ_sB, mP_sB, mO_sB, mN_sA, mK_sA, mL_sA, mF_sA, mB_sA, mA_sA, mJ_sA, mP_sA, mO_sA, mN_sJ, mK_sJ, mL_sJ, mF_sJ, mB_sJ, mA_sJ, mJ_sJ, mP_sJ, mO_sJ, mN_sP, mK_sP, mL_sP, mF_sP, mB_sP, mA_sP, mJ_sP, mP_sP, mO_sP, mN_sO, mK_sO, mL_sO, mF_sO, mB_sO, mA_sO, mJ_sO, mP_sO, mO_sO, up2, if_true, if_false, eq_self, ite_true, ite_false, reduceIte, Nat.add_left_cancel_iff, Nat.add_eq_left, Nat.left_eq_add, Nat.reduceEqDiff]; assumption) | (simp only [mN_sF, mK_sF, mL_sF, mF_sF, mB_sF, mA_sF, mJ_sF, mP_sF, mO_sF, mN_sB, mK_sB, mL_sB, mF_sB, mB_sB, mA_sB, mJ_sB, mP_sB, mO_sB, mN_sA, mK_sA, mL_sA, mF_sA, mB_sA, mA_sA, mJ_sA, mP_sA, mO_sA, mN_sJ, mK_sJ, mL_sJ, mF_sJ, mB_sJ, mA_sJ, mJ_sJ, mP_sJ, mO_sJ, mN_sP, mK_sP, mL_sP, mF_sP, mB_sP, mA_sP, mJ_sP, mP_sP, mO_sP, mN_sO, mK_sO, mL_sO, mF_sO, mB_sO, mA_sO, mJ_sO, mP_sO, mO_sO, up2, if_true, if_false, eq_self, ite_true, ite_false, reduceIte, Nat.add_left_cancel_iff, Nat.add_eq_left, Nat.left_eq_add, Nat.reduceEqDiff]; done)) ?_ | refine e_getI 9 rfl dX1_signAt_6 f_X1_15 (by assumption) ?_
    first | refine e_cmp_geN 21 12 (by decide) rfl dX1_signAt_9 rfl rfl (by omega) (by omega) (fun h2 => ?_) (fun h2 => ?_) | refine e_cmp_ge 21 12 (by decide) rfl dX1_signAt_9 (fun h2 => ?_) (fun h2 => ?_)
    · omega
    · refine e_al0 13 rfl dX1_signAt_12 ?_
      refine e_getR 16 rfl dX1_signAt_13 f_X1_9 (by assumption) (by assumption) ?_
      refine e_il1 17 rfl dX1_signAt_16 ?_
      first | refine e_baldv 18 rfl dX1_signAt_17 (by assumption) (by assumption) (by first | rfl | simp only [pk_mul, nI_add]) (by omega) (by omega) (by first | assumption | (simp only [mN_sF, mK_sF, mL_sF, mF_sF, mB_sF, mA_sF, mJ_sF, mP_sF, mO_sF, mN_sB, mK_sB, mL_sB, mF_sB, mB_sB, mA_sB, mJ_sB, mP_sB, mO_sB, mN_sA, mK_sA, mL_sA, mF_sA, mB_sA, mA_sA, mJ_sA, mP_sA, mO_sA, mN_sJ, mK_sJ, mL_sJ, mF_sJ, mB_sJ, mA_sJ, mJ_sJ, mP_sJ, mO_sJ, mN_sP, mK_sP, mL_sP, mF_sP, mB_sP, mA_sP, mJ_sP, mP_sP, mO_sP, mN_sO, mK_sO, mL_sO, mF_sO, mB_sO, mA_sO, mJ_sO, mP_sO, mO_sO, up2, if_true, if_false, eq_self, ite_true, ite_false, reduceIte, Nat.add_left_cancel_iff, Nat.add_eq_left, Nat.left_eq_add, Nat.reduceEqDiff]; assumption) | (simp only [mN_sF, mK_sF, mL_sF, mF_sF, mB_sF, mA_sF, mJ_sF, mP_sF, mO_sF, mN_sB, mK_sB, mL_sB, mF_sB, mB_sB, mA_sB, mJ_sB, mP_sB, mO_sB, mN_sA, mK_sA, mL_sA, mF_sA, mB_sA, mA_sA, mJ_sA, mP_sA, mO_sA, mN_sJ, mK_sJ, mL_sJ, mF_sJ, mB_sJ, mA_sJ, mJ_sJ, mP_sJ, mO_sJ, mN_sP, mK_sP, mL_sP, mF_sP, mB_sP, mA_sP, mJ_sP, mP_sP, mO_sP, mN_sO, mK_sO, mL_sO, mF_sO, mB_sO, mA_sO, mJ_sO, mP_sO, mO_sO, up2, if_true, if_false, eq_self, ite_true, ite_false, reduceIte, Nat.add_left_cancel_iff, Nat.add_eq_left, Nat.left_eq_add, Nat.reduceEqDiff]; done)) ?_ | refine e_zaldv 18 rfl dX1_signAt_17 (by assumption) (by assumption) (by first | rfl | simp only [pk_mul, nI_add]) (by omega) (by omega) (by first | assumption | (simp only [mN_sF, mK_sF, mL_sF, mF_sF, mB_sF, mA_sF, mJ_sF, mP_sF, mO_sF, mN_sB, mK_sB, mL_sB, mF_sB, mB_sB, mA_sB, mJ_sB, mP_sB, mO_sB, mN_sA, mK_sA, mL_sA, mF_sA, mB_sA, mA_sA, mJ_sA, mP_sA, mO_sA, mN_sJ, mK_sJ, mL_sJ, mF_sJ, mB_sJ, mA_sJ, mJ_sJ, mP_sJ, mO_sJ, mN_sP, mK_sP, mL_sP, mF_sP, mB_sP, mA_sP, mJ_sP, mP_sP, mO_sP, mN_sO, mK_sO, mL_sO, mF_sO, mB_sO, mA_sO, mJ_sO, mP_sO, mO_sO, up2, if_true, if_false, eq_self, ite_true, ite_false, reduceIte, Nat.add_left_cancel_iff, Nat.add_eq_left, Nat.left_eq_add, Nat.reduceEqDiff]; assumption) | (simp only [mN_sF, mK_sF, mL_sF, mF_sF, mB_sF, mA_sF, mJ_sF, mP_sF, mO_sF, mN_sB, mK_sB, mL_sB, mF_sB, mB_sB, mA_sB, mJ_sB, mP_sB, mO_sB, mN_sA, mK_sA, mL_sA, mF_sA, mB_sA, mA_sA, mJ_sA, mP_sA, mO_sA, mN_sJ, mK_sJ, mL_sJ, mF_sJ, mB_sJ, mA_sJ, mJ_sJ, mP_sJ, mO_sJ, mN_sP, mK_sP, mL_sP, mF_sP, mB_sP, mA_sP, mJ_sP, mP_sP, mO_sP, mN_sO, mK_sO, mL_sO, mF_sO, mB_sO, mA_sO, mJ_sO, mP_sO, mO_sO, up2, if_true, if_false, eq_self, ite_true, ite_false, reduceIte, Nat.add_left_cancel_iff, Nat.add_eq_left, Nat.left_eq_add, Nat.reduceEqDiff]; done)) ?_ | refine e_bald 18 rfl dX1_signAt_17 (by assumption) (by assumption) (by first | rfl | simp only [pk_mul, nI_add]) (by omega) (by omega) ?_ | refine e_zald 18 rfl dX1_signAt_17 (by assumption) (by assumption) (by first | rfl | simp only [pk_mul, nI_add]) (by omega) (by omega) ?_
      refine e_goto 22 (by decide) dX1_signAt_18 ?_
      refine e_iret dX1_signAt_22 rfl ?_
      have e : sgn l (nI j) = mB μ (a + 1) j := by
        unfold sgn
        rw [if_neg (nI_pos (by omega)), nI_clamp (by omega), List.getElem?_eq_getElem hj, t2.at hj]
      rw [← e]; exact k
/-- Line.alike -/
theorem c_lalike {a o : Nat} {la lo : List Nat} (hw : Ln μ a) (ho : Ln μ o) (ha : Lc μ a la) (hb : Lc μ o lo) (k : K (some (.int (bI (decide (la = lo))))) μ) : Cl E M_X1_alike [.ref a, .ref o] μ K := by
  obtain ⟨hk, h0, hk1, hl1⟩ := hw
  obtain ⟨ok, o0, ok1, ol1⟩ := ho
  obtain ⟨a3, af, al, ac⟩ := ha
  obtain ⟨b3, bf, bl, bc⟩ := hb
  have no : ¬ la = lo → K (some (.int (nI 0))) μ := fun h => by rw [← bI_f (b := decide (la = lo)) (by simp [h])]; exact k
  refine Cl.of0 1 pn_X1 (Nat.le_of_ble_eq_true rfl) ⟨rfl, rfl⟩ rfl ?_
  refine e_al0 1 rfl dX1_alike_0 ?_
  first | refine e_getIv 4 rfl dX1_alike_1 f_X1_15 (by assumption) (by first | assumption | (simp only [mN_sF, mK_sF, mL_sF, mF_sF, mB_sF, mA_sF, mJ_sF, mP_sF, mO_sF, mN_sB, mK_sB, mL_sB, mF_sB, mB_sB, mA_sB, mJ_sB, mP_sB, mO_sB, mN_sA, mK_sA, mL_sA, mF_sA, mB_sA, mA_sA, mJ_sA, mP_sA, mO_sA, mN_sJ, mK_sJ, mL_sJ, mF_sJ, mB_sJ, mA_sJ, mJ_sJ, mP_sJ, mO_sJ, mN_sP, mK_sP, mL_sP, mF_sP, mB_sP, mA_sP, mJ_sP, mP_sP, mO_sP, mN_sO, mK_sO, mL_sO, mF_sO, mB_sO, mA_sO, mJ_sO, mP_sO, mO_sO, up2, if_true, if_false, eq_self, ite_true, ite_false, reduceIte, Nat.add_left_cancel_iff, Nat.add_eq_left, Nat.left_eq_add, Nat.reduceEqDiff]; assumption) | (simp only [mN_sF, mK_sF, mL_sF, mF_sF, mB_sF, mA_sF, mJ_sF, mP_sF, mO_sF, mN_sB, mK_sB, mL_sB, mF_sB, mB_sB, mA_sB, mJ_sB, mP_sB, mO_sB, mN_sA, mK_sA, mL_sA, mF_sA, mB_sA, mA_sA, mJ_sA, mP_sA, mO_sA, mN_sJ, mK_sJ, mL_sJ, mF_sJ, mB_sJ, mA_sJ, mJ_sJ, mP_sJ, mO_sJ, mN_sP, mK_sP, mL_sP, mF_sP, mB_sP, mA_sP, mJ_sP, mP_sP, mO_sP, mN_sO, mK_sO, mL_sO, mF_sO, mB_sO, mA_sO, mJ_sO, mP_sO, mO_sO, up2, if_true, if_false, eq_self, ite_true, ite_false, reduceIte, Nat.add_left_cancel_iff, Nat.add_eq_left, Nat.left_eq_add, Nat.reduceEqDiff]; done)) ?_ | refine e_getI 4 rfl dX1_alike_1 f_X1_15 (by assumption) ?_
  refine e_al1 5 rfl dX1_alike_4 ?_
  first | refine e_getIv 8 rfl dX1_alike_5 f_X1_15 (by assumption) (by first | assumption | (simp only [mN_sF, mK_sF, mL_sF, mF_sF, mB_sF, mA_sF, mJ_sF, mP_sF, mO_sF, mN_sB, mK_sB, mL_sB, mF_sB, mB_sB, mA_sB, mJ_sB, mP_sB, mO_sB, mN_sA, mK_sA, mL_sA, mF_sA, mB_sA, mA_sA, mJ_sA, mP_sA, mO_sA, mN_sJ, mK_sJ, mL_sJ, mF_sJ, mB_sJ, mA_sJ, mJ_sJ, mP_sJ, mO_sJ, mN_sP, mK_sP, mL_sP, mF_sP, mB_sP, mA_sP, mJ_sP, mP_sP, mO_sP, mN_sO, mK_sO, mL_sO, mF_sO, mB_sO, mA_sO, mJ_sO, mP_sO, mO_sO, up2, if_true, if_false, eq_self, ite_true, ite_false, reduceIte, Nat.add_left_cancel_iff, Nat.add_eq_left, Nat.left_eq_add, Nat.reduceEqDiff]; assumption) | (simp only [mN_sF, mK_sF, mL_sF, mF_sF, mB_sF, mA_sF, mJ_sF, mP_sF, mO_sF, mN_sB, mK_sB, mL_sB, mF_sB, mB_sB, mA_sB, mJ_sB, mP_sB, mO_sB, mN_sA, mK_sA, mL_sA, mF_sA, mB_sA, mA_sA, mJ_sA, mP_sA, mO_sA, mN_sJ, mK_sJ, mL_sJ, mF_sJ, mB_sJ, mA_sJ, mJ_sJ, mP_sJ, mO_sJ, mN_sP, mK_sP, mL_sP, mF_sP, mB_sP, mA_sP, mJ_sP, mP_sP, mO_sP, mN_sO, mK_sO, mL_sO, mF_sO, mB_sO, mA_sO, mJ_sO, mP_sO, mO_sO, up2, if_true, if_false, eq_self, ite_true, ite_false, reduceIte, Nat.add_left_cancel_iff, Nat.add_eq_left, Nat.left_eq_add, Nat.reduceEqDiff]; done)) ?_ | refine e_getI 8 rfl dX1_alike_5 f_X1_15 (by assumption) ?_
  first | refine e_cmp_eqN 13 11 (by decide) rfl dX1_alike_8 rfl rfl (by omega) (by omega) (fun h1 => ?_) (fun h1 => ?_) | refine e_cmp_eq 13 11 (by decide) rfl dX1_alike_8 (fun h1 => ?_) (fun h1 => ?_)
  rotate_left
  · refine e_iconst (nI 0) 12 rfl dX1_alike_11 ic_0 ?_
    refine e_zret dX1_alike_12 rfl (by first | exact z0 | exact z1 | exact bI01 _ | assumption) ?_
    exact no (fun q => h1 (by rw [q]))
  refine e_iconst (nI 0) 14 rfl dX1_alike_13 ic_0 ?_
  refine e_is2 15 rfl dX1_alike_14 (by decide) rfl ?_
  have loop : ∀ (fu i : Nat), i + fu = la.length → la.take i = lo.take i → Ev E M_X1_alike 0 0 15 [some (.ref a), some (.ref o), some (.int (nI i))] [] μ K := by
    intro fu
    induction fu with
    | zero =>
      intro i hi he
      refine e_il2 16 rfl dX1_alike_15 ?_
      refine e_al0 17 rfl dX1_alike_16 ?_
      first | refine e_getIv 20 rfl dX1_alike_17 f_X1_15 (by assumption) (by first | assumption | (simp only [mN_sF, mK_sF, mL_sF, mF_sF, mB_sF, mA_sF, mJ_sF, mP_sF, mO_sF, mN_sB, mK_sB, mL_sB, mF_sB, mB_sB, mA_sB, mJ_sB, mP_sB, mO_sB, mN_sA, mK_sA, mL_sA, mF_sA, mB_sA, mA_sA, mJ_sA, mP_sA, mO_sA, mN_sJ, mK_sJ, mL_sJ, mF_sJ, mB_sJ, mA_sJ, mJ_sJ, mP_sJ, mO_sJ, mN_sP, mK_sP, mL_sP, mF_sP, mB_sP, mA_sP, mJ_sP, mP_sP, mO_sP, mN_sO, mK_sO, mL_sO, mF_sO, mB_sO, mA_sO, mJ_sO, mP_sO, mO_sO, up2, if_true, if_false, eq_self, ite_true, ite_false, reduceIte, Nat.add_left_cancel_iff, Nat.add_eq_left, Nat.left_eq_add, Nat.reduceEqDiff]; assumption) | (simp only [mN_sF, mK_sF, mL_sF, mF_sF, mB_sF, mA_sF, mJ_sF, mP_sF, mO_sF, mN_sB, mK_sB, mL_sB, mF_sB, mB_sB, mA_sB, mJ_sB, mP_sB, mO_sB, mN_sA, mK_sA, mL_sA, mF_sA, mB_sA, mA_sA, mJ_sA, mP_sA, mO_sA, mN_sJ, mK_sJ, mL_sJ, mF_sJ, mB_sJ, mA_sJ, mJ_sJ, mP_sJ, mO_sJ, mN_sP, mK_sP, mL_sP, mF_sP, mB_sP, mA_sP, mJ_sP, mP_sP, mO_sP, mN_sO, mK_sO, mL_sO, mF_sO, mB_sO, mA_sO, mJ_sO, mP_sO, mO_sO, up2, if_true, if_false, eq_self, ite_true, ite_false, reduceIte, Nat.add_left_cancel_iff, Nat.add_eq_left, Nat.left_eq_add, Nat.reduceEqDiff]; done)) ?_ | refine e_getI 20 rfl dX1_alike_17 f_X1_15 (by assumption) ?_
      first | refine e_cmp_geN 46 23 (by decide) rfl dX1_alike_20 rfl rfl (by omega) (by omega) (fun h4 => ?_) (fun h4 => ?_) | refine e_cmp_ge 46 23 (by decide) rfl dX1_alike_20 (fun h4 => ?_) (fun h4 => ?_)
      · refine e_iconst (nI 1) 47 rfl dX1_alike_46 ic_1 ?_
        refine e_zret dX1_alike_47 rfl (by first | exact z0 | exact z1 | exact bI01 _ | assumption) ?_
        rw [List.take_of_length_le (by omega), List.take_of_length_le (by omega)] at he
        rw [← bI_t (b := decide (la = lo)) (by simp [he])]
        exact k
      · omega
    | succ fu ih =>
      intro i hi he
      refine e_il2 16 rfl dX1_alike_15 ?_
      refine e_al0 17 rfl dX1_alike_16 ?_
      first | refine e_getIv 20 rfl dX1_alike_17 f_X1_15 (by assumption) (by first | assumption | (simp only [mN_sF, mK_sF, mL_sF, mF_sF, mB_sF, mA_sF, mJ_sF, mP_sF, mO_sF, mN_sB, mK_sB, mL_sB, mF_sB, mB_sB, mA_sB, mJ_sB, mP_sB, mO_sB, mN_sA, mK_sA, mL_sA, mF_sA, mB_sA, mA_sA, mJ_sA, mP_sA, mO_sA, mN_sJ, mK_sJ, mL_sJ, mF_sJ, mB_sJ, mA_sJ, mJ_sJ, mP_sJ, mO_sJ, mN_sP, mK_sP, mL_sP, mF_sP, mB_sP, mA_sP, mJ_sP, mP_sP, mO_sP, mN_sO, mK_sO, mL_sO, mF_sO, mB_sO, mA_sO, mJ_sO, mP_sO, mO_sO, up2, if_true, if_false, eq_self, ite_true, ite_false, reduceIte, Nat.add_left_cancel_iff, Nat.add_eq_left, Nat.left_eq_add, Nat.reduceEqDiff]; assumption) | (simp only [mN_sF, mK_sF, mL_sF, mF_sF, mB_sF, mA_sF, mJ_sF, mP_sF, mO_sF, mN_sB, mK_sB, mL_sB, mF_sB, mB_sB, mA_sB, mJ_sB, mP_sB, mO_sB, mN_sA, mK_sA, mL_sA, mF_sA, mB_sA, mA_sA, mJ_sA, mP_sA, mO_sA, mN_sJ, mK_sJ, mL_sJ, mF_sJ, mB_sJ, mA_sJ, mJ_sJ, mP_sJ, mO_sJ, mN_sP, mK_sP, mL_sP, mF_sP, mB_sP, mA_sP, mJ_sP, mP_sP, mO_sP, mN_sO, mK_sO, mL_sO, mF_sO, mB_sO, mA_sO, mJ_sO, mP_sO, mO_sO, up2, if_true, if_false, eq_self, ite_true, ite_false, reduceIte, Nat.add_left_cancel_iff, Nat.add_eq_left, Nat.left_eq_add, Nat.reduceEqDiff]; done)) ?_ | refine e_getI 20 rfl dX1_alike_17 f_X1_15 (by assumption) ?_
      first | refine e_cmp_geN 46 23 (by decide) rfl dX1_alike_20 rfl rfl (by omega) (by omega) (fun h4 => ?_) (fun h4 => ?_) | refine e_cmp_ge 46 23 (by decide) rfl dX1_alike_20 (fun h4 => ?_) (fun h4 => ?_)
      · omega
      have key := af.eq bf (fun c hc => by have := ac c hc; omega) (fun c hc => by have := bc c hc; omega) h4 (show i < lo.length by omega)
      refine e_al0 24 rfl dX1_alike_23 ?_
      refine e_getR 27 rfl dX1_alike_24 f_X1_9 (by assumption) (by assumption) ?_
      refine e_il2 28 rfl dX1_alike_27 ?_
      first | refine e_baldv 29 rfl dX1_alike_28 (by assumption) (by assumption) (by first | rfl | simp only [pk_mul, nI_add]) (by omega) (by omega) (by first | assumption | (simp only [mN_sF, mK_sF, mL_sF, mF_sF, mB_sF, mA_sF, mJ_sF, mP_sF, mO_sF, mN_sB, mK_sB, mL_sB, mF_sB, mB_sB, mA_sB, mJ_sB, mP_sB, mO_sB, mN_sA, mK_sA, mL_sA, mF_sA, mB_sA, mA_sA, mJ_sA, mP_sA, mO_sA, mN_sJ, mK_sJ, mL_sJ, mF_sJ, mB_sJ, mA_sJ, mJ_sJ, mP_sJ, mO_sJ, mN_sP, mK_sP, mL_sP, mF_sP, mB_sP, mA_sP, mJ_sP, mP_sP, mO_sP, mN_sO, mK_sO, mL_sO, mF_sO, mB_sO, mA_sO, mJ_sO, mP_sO, mO_sO, up2, if_true, if_false, eq_self, ite_true, ite_false, reduceIte, Nat.add_left_cancel_iff, Nat.add_eq_left, Nat.left_eq_add, Nat.reduceEqDiff]; assumption) | (simp only [mN_sF, mK_sF, mL_sF, mF_sF, mB_sF, mA_sF, mJ_sF, mP_sF, mO_sF, mN_sB, mK_sB, mL_sB, mF_sB, mB_sB, mA_sB, mJ_sB, mP_sB, mO_sB, mN_sA, mK_sA, mL_sA, mF_sA, mB_sA, mA_sA, mJ_sA, mP_sA, mO_sA, mN_sJ, mK_sJ, mL_sJ, mF_sJ, mB_sJ, mA_sJ, mJ_sJ, mP_sJ, mO_sJ, mN_sP, mK_sP, mL_sP, mF_sP, mB_sP, mA_sP, mJ_sP, mP_sP, mO_sP, mN_sO, mK_sO, mL_sO, mF_sO, mB_sO, mA_sO, mJ_sO, mP_sO, mO_sO, up2, if_true, if_false, eq_self, ite_true, ite_false, reduceIte, Nat.add_left_cancel_iff, Nat.add_eq_left, Nat.left_eq_add, Nat.reduceEqDiff]; done)) ?_ | refine e_zaldv 29 rfl dX1_alike_28 (by assumption) (by assumption) (by first | rfl | simp only [pk_mul, nI_add]) (by omega) (by omega) (by first | assumption | (simp only [mN_sF, mK_sF, mL_sF, mF_sF, mB_sF, mA_sF, mJ_sF, mP_sF, mO_sF, mN_sB, mK_sB, mL_sB, mF_sB, mB_sB, mA_sB, mJ_sB, mP_sB, mO_sB, mN_sA, mK_sA, mL_sA, mF_sA, mB_sA, mA_sA, mJ_sA, mP_sA, mO_sA, mN_sJ, mK_sJ, mL_sJ, mF_sJ, mB_sJ, mA_sJ, mJ_sJ, mP_sJ, mO_sJ, mN_sP, mK_sP, mL_sP, mF_sP, mB_sP, mA_sP, mJ_sP, mP_sP, mO_sP, mN_sO, mK_sO, mL_sO, mF_sO, mB_sO, mA_sO, mJ_sO, mP_sO, mO_sO, up2, if_true, if_false, eq_self, ite_true, ite_false, reduceIte, Nat.add_left_cancel_iff, Nat.add_eq_left, Nat.left_eq_add, Nat.reduceEqDiff]; assumption) | (simp only [mN_sF, mK_sF, mL_sF, mF_sF, mB_sF, mA_sF, mJ_sF, mP_sF, mO_sF, mN_sB, mK_sB, mL_sB, mF_sB, mB_sB, mA_sB, mJ_sB, mP_sB, mO_sB, mN_sA, mK_sA, mL_sA, mF_sA, mB_sA, mA_sA, mJ_sA, mP_sA, mO_sA, mN_sJ, mK_sJ, mL_sJ, mF_sJ, mB_sJ, mA_sJ, mJ_sJ, mP_sJ, mO_sJ, mN_sP, mK_sP, mL_sP, mF_sP, mB_sP, mA_sP, mJ_sP, mP_sP, mO_sP, mN_sO, mK_sO, mL_sO, mF_sO, mB_sO, mA_sO, mJ_sO, mP_sO, mO_sO, up2, if_true, if_false, eq_self, ite_true, ite_false, reduceIte, Nat.add_left_cancel_iff, Nat.add_eq_left, Nat.left_eq_add, Nat.reduceEqDiff]; done)) ?_ | refine e_bald 29 rfl dX1_alike_28 (by assumption) (by assumption) (by first | rfl | simp only [pk_mul, nI_add]) (by omega) (by omega) ?_ | refine e_zald 29 rfl dX1_alike_28 (by assumption) (by assumption) (by first | rfl | simp only [pk_mul, nI_add]) (by omega) (by omega) ?_
      refine e_al1 30 rfl dX1_alike_29 ?_
      refine e_getR 33 rfl dX1_alike_30 f_X1_9 (by assumption) (by assumption) ?_
      refine e_il2 34 rfl dX1_alike_33 ?_
      first | refine e_baldv 35 rfl dX1_alike_34 (by assumption) (by assumption) (by first | rfl | simp only [pk_mul, nI_add]) (by omega) (by omega) (by first | assumption | (simp only [mN_sF, mK_sF, mL_sF, mF_sF, mB_sF, mA_sF, mJ_sF, mP_sF, mO_sF, mN_sB, mK_sB, mL_sB, mF_sB, mB_sB, mA_sB, mJ_sB, mP_sB, mO_sB, mN_sA, mK_sA, mL_sA, mF_sA, mB_sA, mA_sA, mJ_sA, mP_sA, mO_sA, mN_sJ, mK_sJ, mL_sJ, mF_sJ, mB_sJ, mA_sJ, mJ_sJ, mP_sJ, mO_sJ, mN_sP, mK_sP, mL_sP, mF_sP, mB_sP, mA_sP, mJ_sP, mP_sP, mO_sP, mN_sO, mK_sO, mL_sO, mF_sO, mB_sO, mA_sO, mJ_sO, mP_sO, mO_sO, up2, if_true, if_false, eq_self, ite_true, ite_false, reduceIte, Nat.add_left_cancel_iff, Nat.add_eq_left, Nat.left_eq_add, Nat.reduceEqDiff]; assumption) | (simp only [mN_sF, mK_sF, mL_sF, mF_sF, mB_sF, mA_sF, mJ_sF, mP_sF, mO_sF, mN_sB, mK_sB, mL_sB, mF_sB, mB_sB, mA_sB, mJ_sB, mP_sB, mO_sB, mN_sA, mK_sA, mL_sA, mF_sA, mB_sA, mA_sA, mJ_sA, mP_sA, mO_sA, mN_sJ, mK_sJ, mL_sJ, mF_sJ, mB_sJ, mA_sJ, mJ_sJ, mP_sJ, mO_sJ, mN_sP, mK_sP, mL_sP, mF_sP, mB_sP, mA_sP, mJ_sP, mP_sP, mO_sP, mN_sO, mK_sO, mL_sO, mF_sO, mB_sO, mA_sO, mJ_sO, mP_sO, mO_sO, up2, if_true, if_false, eq_self, ite_true, ite_false, reduceIte, Nat.add_left_cancel_iff, Nat.add_eq_left, Nat.left_eq_add, Nat.reduceEqDiff]; done)) ?_ | refine e_zaldv 35 rfl dX1_alike_34 (by assumption) (by assumption) (by first | rfl | simp only [pk_mul, nI_add]) (by omega) (by omega) (by first | assumption | (simp only [mN_sF, mK_sF, mL_sF, mF_sF, mB_sF, mA_sF, mJ_sF, mP_sF, mO_sF, mN_sB, mK_sB, mL_sB, mF_sB, mB_sB, mA_sB, mJ_sB, mP_sB, mO_sB, mN_sA, mK_sA, mL_sA, mF_sA, mB_sA, mA_sA, mJ_sA, mP_sA, mO_sA, mN_sJ, mK_sJ, mL_sJ, mF_sJ, mB_sJ, mA_sJ, mJ_sJ, mP_sJ, mO_sJ, mN_sP, mK_sP, mL_sP, mF_sP, mB_sP, mA_sP, mJ_sP, mP_sP, mO_sP, mN_sO, mK_sO, mL_sO, mF_sO, mB_sO, mA_sO, mJ_sO, mP_sO, mO_sO, up2, if_true, if_false, eq_self, ite_true, ite_false, reduceIte, Nat.add_left_cancel_iff, Nat.add_eq_left, Nat.left_eq_add, Nat.reduceEqDiff]; assumption) | (simp only [mN_sF, mK_sF, mL_sF, mF_sF, mB_sF, mA_sF, mJ_sF, mP_sF, mO_sF, mN_sB, mK_sB, mL_sB, mF_sB, mB_sB, mA_sB, mJ_sB, mP_sB, mO_sB, mN_sA, mK_sA, mL_sA, mF_sA, mB_sA, mA_sA, mJ_sA, mP_sA, mO_sA, mN_sJ, mK_sJ, mL_sJ, mF_sJ, mB_sJ, mA_sJ, mJ_sJ, mP_sJ, mO_sJ, mN_sP, mK_sP, mL_sP, mF_sP, mB_sP, mA_sP, mJ_sP, mP_sP, mO_sP, mN_sO, mK_sO, mL_sO, mF_sO, mB_sO, mA_sO, mJ_sO, mP_sO, mO_sO, up2, if_true, if_false, eq_self, ite_true, ite_false, reduceIte, Nat.add_left_cancel_iff, Nat.add_eq_left, Nat.left_eq_add, Nat.reduceEqDiff]; done)) ?_ | refine e_bald 35 rfl dX1_alike_34 (by assumption) (by assumption) (by first | rfl | simp only [pk_mul, nI_add]) (by omega) (by omega) ?_ | refine e_zald 35 rfl dX1_alike_34 (by assumption) (by assumption) (by first | rfl | simp only [pk_mul, nI_add]) (by omega) (by omega) ?_
      first | refine e_cmp_eqN 40 38 (by decide) rfl dX1_alike_35 rfl rfl (by omega) (by omega) (fun h5 => ?_) (fun h5 => ?_) | refine e_cmp_eq 40 38 (by decide) rfl dX1_alike_35 (fun h5 => ?_) (fun h5 => ?_)
      · refine e_ii2 (nI (_ + 1)) 43 rfl dX1_alike_40 (ii1 _) rfl ?_
        refine e_goto 15 (by decide) dX1_alike_43 ?_
        exact ih (i + 1) (by omega) ((take_succ_eq h4 (by omega) he).mpr (key.mp h5))
      · refine e_iconst (nI 0) 39 rfl dX1_alike_38 ic_0 ?_
        refine e_zret dX1_alike_39 rfl (by first | exact z0 | exact z1 | exact bI01 _ | assumption) ?_
        exact no (fun q => h5 (key.mpr (by simp [q])))
  exact loop la.length 0 (by omega) rfl
end LINE
