/-! NameDeskModel: first, pick -/
section MFIRST
variable {E : En} {μ : Mm} {K : Option Value → Mm → Prop}
def fsS (m : Nat) : Nat → Prop := fun q => q = m ∨ (m + 30 ≤ q ∧ q ≤ m + 35)
/-- the first reading of name i lies there -/
def mFs (μ : Mm) (m i : Nat) (S : Ast) (nm : Nm) : Prop := mB μ (m + 35) i = bI (rB S nm) ∧ (rB S nm = true → Hd (fun w => mA μ (m + 34) (8 * i + w)) (rK S nm))
theorem mFs.fr {S0 : Nat → Prop} {μ' : Mm} {m i : Nat} {S : Ast} {nm : Nm} (h : mFs μ m i S nm) (f : Fr S0 μ μ') (h1 : ¬ S0 (m + 35)) (h2 : ¬ S0 (m + 34)) : mFs μ' m i S nm := by
  unfold mFs; rw [(f.2.2.2.2.2 _ h1).2.1, (f.2.2.2.2.2 _ h2).2.2.1]; exact h
theorem fsS_mQ {m : Nat} {μ' : Mm} (h : Fr (fsS m) μ μ') : Fr (mQ m) μ μ' := h.mono (fun q a => by unfold fsS at a; unfold mQ; omega)
theorem rowAt_0 (T : List Rw) : rowAt T (nI 0) = fr1 T := by unfold rowAt fr1; rw [iN_nI (by decide)]; rfl
theorem rK_lt {S : Ast} {nm : Nm} (hW : WF S) (hn : nm.2.length ≤ 8) (hr : rB S nm = true) : ∀ k ∈ rK S nm, k < 7 := by
  intro k hk
  unfold rK rdK at hk
  obtain ⟨j, hj, e⟩ := List.mem_map.mp hk
  rw [← e]
  unfold rB rdB at hr
  cases ef : fr1 (rdT (aS S nm.1) (aB S) nm) with
  | none => rw [ef] at hr; cases hr
  | some y =>
    unfold fr1m
    rw [ef]
    have hy : y ∈ rdT (aS S nm.1) (aB S) nm := SR_mem ef
    have h1 := rdT_AR (nm := nm) hW
    have hm : pr2 y ∈ (rdT (aS S nm.1) (aB S) nm).map pr2 := List.mem_map.mpr ⟨y, hy, rfl⟩
    rw [h1] at hm
    have := AR_dg _ 0 0 0 _ _ hm (fun j hj => by omega) j (by rw [Nat.zero_add]; exact List.mem_range.mp hj)
    rw [Nat.zero_add] at this
    exact this
theorem c_first {m i : Nat} {S : Ast} {nm : Nm} (hW : WF S) (hM : MI m S μ) (hi : (aN S)[i]? = some nm)
    (k : ∀ μ', Fr (fsS m) μ μ' → (∀ g, g ≠ 44 → mF μ' m g = mF μ m g) → mFs μ' m i S nm → (∀ u, u ≠ i → mB μ' (m + 35) u = mB μ (m + 35) u) → (∀ u, ¬ (8 * i ≤ u ∧ u < 8 * i + 8) → mA μ' (m + 34) u = mA μ (m + 34) u) → K none μ') : Cl E M_X10_first [.ref m, .int (nI i)] μ K := by
  have mk := hM.1.1
  have hil := (List.getElem?_eq_some_iff.mp hi).1
  have n30 := hW.2.2.2.1.1
  have hwf := hW.2.2.2.1.2 nm (List.mem_of_getElem? hi)
  have hn8 := hwf.2.2.1
  obtain ⟨hok, hlen⟩ := rdT_ok (nm := nm) hW hwf.2.2.1
  refine Cl.of0 2 pn_X10 (Nat.le_of_ble_eq_true rfl) ⟨rfl, rfl⟩ rfl ?_
  refine e_al0 1 rfl dX10_first_0 ?_
  refine e_il1 2 rfl dX10_first_1 ?_
  refine e_iconst (nI 0) 3 rfl dX10_first_2 ic_0 ?_
  refine e_invV0 [_, _] 6 rfl dX10_first_3 k_X10_213 mo_X10_reading rm_X10_first_X10_reading ⟨rfl, rfl⟩ rfl rfl (by assumption) (Nat.le_of_ble_eq_true rfl) ?_
  refine c_reading hW hM hi (fun hno μ1 hF1 hf1 hR1 => ?_) (fun j y hj hat μ1 hF1 hf1 hR1 => ?_)
  · rw [rowAt_0] at hno
    have hrb : rB S nm = false := by unfold rB rdB; rw [hno]; rfl
    have hM1 : MI m S μ1 := hM.scr (flS_mQ hF1) (fun f hf => hf1 f (by omega))
    have mk1 := hM1.1.1
    obtain ⟨pr, kr, lr⟩ := hM1.1.isRead
    obtain ⟨pw, kw, lw⟩ := hM1.1.nWords
    have v2 := (hM1.2.2.2.2.2.1.2 i nm hi).2.1
    refine e_is2 7 rfl dX10_first_6 (by decide) rfl ?_
    refine e_al0 8 rfl dX10_first_7 ?_
    refine e_getR 11 rfl dX10_first_8 f_X10_117 (by assumption) (by assumption) ?_
    refine e_il1 12 rfl dX10_first_11 ?_
    refine e_il2 13 rfl dX10_first_12 ?_
    refine e_if_lt 20 16 (by decide) rfl dX10_first_13 (fun y2 => ?_) (fun y2 => ?_)
    rotate_left
    · exact absurd (by decide) y2
    refine e_iconst (nI 0) 21 rfl dX10_first_20 ic_0 ?_
    first | refine e_bast 22 rfl dX10_first_21 (by assumption) (by assumption) (by first | rfl | simp only [pk_mul, nI_add]) (by omega) (by omega) ?_ | refine e_zast 22 rfl dX10_first_21 (by assumption) (by assumption) (by first | rfl | simp only [pk_mul, nI_add]) (by omega) (by omega) (by first | exact z0 | exact z1 | exact bI01 _ | assumption) ?_
    refine e_iconst (nI 0) 23 rfl dX10_first_22 ic_0 ?_
    refine e_is3 24 rfl dX10_first_23 (by decide) rfl ?_
    have v3 : mA (sB μ1 (m + 35) i (nI 0)) (m + 17) i = nI nm.2.length := v2
    have hn1 := hwf.2.1
    refine e_il3 25 rfl dX10_first_24 ?_
    refine e_al0 26 rfl dX10_first_25 ?_
    refine e_getR 29 rfl dX10_first_26 f_X10_63 (by assumption) (by assumption) ?_
    refine e_il1 30 rfl dX10_first_29 ?_
    first | refine e_ialdv 31 rfl dX10_first_30 (by assumption) (by assumption) (by first | rfl | simp only [pk_mul, nI_add]) (by omega) (by omega) (by first | assumption | (simp only [mN_sF, mK_sF, mL_sF, mF_sF, mB_sF, mA_sF, mJ_sF, mP_sF, mO_sF, mN_sB, mK_sB, mL_sB, mF_sB, mB_sB, mA_sB, mJ_sB, mP_sB, mO_sB, mN_sA, mK_sA, mL_sA, mF_sA, mB_sA, mA_sA, mJ_sA, mP_sA, mO_sA, mN_sJ, mK_sJ, mL_sJ, mF_sJ, mB_sJ, mA_sJ, mJ_sJ, mP_sJ, mO_sJ, mN_sP, mK_sP, mL_sP, mF_sP, mB_sP, mA_sP, mJ_sP, mP_sP, mO_sP, mN_sO, mK_sO, mL_sO, mF_sO, mB_sO, mA_sO, mJ_sO, mP_sO, mO_sO, up2, if_true, if_false, eq_self, ite_true, ite_false, reduceIte, Nat.add_left_cancel_iff, Nat.add_eq_left, Nat.left_eq_add, Nat.reduceEqDiff]; assumption) | (simp only [mN_sF, mK_sF, mL_sF, mF_sF, mB_sF, mA_sF, mJ_sF, mP_sF, mO_sF, mN_sB, mK_sB, mL_sB, mF_sB, mB_sB, mA_sB, mJ_sB, mP_sB, mO_sB, mN_sA, mK_sA, mL_sA, mF_sA, mB_sA, mA_sA, mJ_sA, mP_sA, mO_sA, mN_sJ, mK_sJ, mL_sJ, mF_sJ, mB_sJ, mA_sJ, mJ_sJ, mP_sJ, mO_sJ, mN_sP, mK_sP, mL_sP, mF_sP, mB_sP, mA_sP, mJ_sP, mP_sP, mO_sP, mN_sO, mK_sO, mL_sO, mF_sO, mB_sO, mA_sO, mJ_sO, mP_sO, mO_sO, up2, if_true, if_false, eq_self, ite_true, ite_false, reduceIte, Nat.add_left_cancel_iff, Nat.add_eq_left, Nat.left_eq_add, Nat.reduceEqDiff]; done)) ?_ | refine e_iald 31 rfl dX10_first_30 (by assumption) (by assumption) (by first | rfl | simp only [pk_mul, nI_add]) (by omega) (by omega) ?_
    first | refine e_cmp_geN 62 34 (by decide) rfl dX10_first_31 rfl rfl (by omega) (by omega) (fun y3 => ?_) (fun y3 => ?_) | refine e_cmp_ge 62 34 (by decide) rfl dX10_first_31 (fun y3 => ?_) (fun y3 => ?_)
    · omega
    refine e_il2 35 rfl dX10_first_34 ?_
    refine e_if_lt 62 38 (by decide) rfl dX10_first_35 (fun y4 => ?_) (fun y4 => ?_)
    rotate_left
    · exact absurd (by decide) y4
    refine e_ret dX10_first_62 rfl ?_
    refine k _ ((hF1.mono (S' := fsS m) (fun q h => by unfold flS at h; unfold fsS; omega)).sB (show fsS m (m + 35) from Or.inr ⟨by omega, by omega⟩) _ _) hf1 ⟨by rw [sB_s, hrb]; simp; rfl, fun h => by rw [hrb] at h; cases h⟩ (fun u hu => ?_) (fun u _ => ?_)
    · rw [sB_s]
      show (if _ then _ else _) = _
      rw [if_neg hu, (hF1.2.2.2.2.2 (m + 35) (by unfold flS; omega)).2.1]
    · show mA μ1 (m + 34) u = _
      rw [(hF1.2.2.2.2.2 (m + 34) (by unfold flS; omega)).2.2.1]
  · rw [rowAt_0] at hat
    have hrb : rB S nm = true := by unfold rB rdB; rw [hat]; rfl
    have hrk : rK S nm = (List.range nm.2.length).map (dg nm.2.length y.2.1) := by unfold rK rdK fr1m; rw [hat]
    have hM1 : MI m S μ1 := hM.scr (flS_mQ hF1) (fun f hf => hf1 f (by omega))
    have mk1 := hM1.1.1
    have hjl := (List.getElem?_eq_some_iff.mp hj).1
    obtain ⟨pr, kr, lr⟩ := hM1.1.isRead
    refine e_is2 7 rfl dX10_first_6 (by decide) rfl ?_
    refine e_al0 8 rfl dX10_first_7 ?_
    refine e_getR 11 rfl dX10_first_8 f_X10_117 (by assumption) (by assumption) ?_
    refine e_il1 12 rfl dX10_first_11 ?_
    refine e_il2 13 rfl dX10_first_12 ?_
    first | refine e_if_ltN 20 16 (by decide) rfl dX10_first_13 rfl (by omega) ?_ | refine e_if_lt 20 16 (by decide) rfl dX10_first_13 (fun h => ?_) (fun h => ?_)
    refine e_iconst (nI 1) 17 rfl dX10_first_16 ic_1 ?_
    refine e_goto 21 (by decide) dX10_first_17 ?_
    first | refine e_bast 22 rfl dX10_first_21 (by assumption) (by assumption) (by first | rfl | simp only [pk_mul, nI_add]) (by omega) (by omega) ?_ | refine e_zast 22 rfl dX10_first_21 (by assumption) (by assumption) (by first | rfl | simp only [pk_mul, nI_add]) (by omega) (by omega) (by first | exact z0 | exact z1 | exact bI01 _ | assumption) ?_
    refine e_iconst (nI 0) 23 rfl dX10_first_22 ic_0 ?_
    refine e_is3 24 rfl dX10_first_23 (by decide) rfl ?_
    have hFb : Fr (fun q => q = m + 35) μ1 (sB μ1 (m + 35) i (nI 1)) := (Fr.rf (S := fun q => q = m + 35)).sB rfl i (nI 1)
    have b35 : mB (sB μ1 (m + 35) i (nI 1)) (m + 35) = fun u => if u = i then nI 1 else mB μ1 (m + 35) u := sB_s
    generalize sB μ1 (m + 35) i (nI 1) = μ2 at hFb b35 ⊢
    have hM2 : MI m S μ2 := hM1.scr (hFb.mono (fun q h => Or.inr ⟨by omega, by omega⟩)) (kF.of hFb (by omega))
    have hR2 : mRw μ2 m ((rdT (aS S nm.1) (aB S) nm).map pr2) := by
      unfold mRw
      rw [(hFb.2.2.2.2.2 m (by omega)).1, (hFb.2.2.2.2.2 (m + 33) (by omega)).2.2.1, (hFb.2.2.2.2.2 (m + 32) (by omega)).2.2.1]; exact hR1
    have loop : ∀ (fu w : Nat), w + fu = nm.2.length → ∀ μ3, Fr (fun q => q = m + 34) μ2 μ3 → (∀ u, mA μ3 (m + 34) u = if 8 * i ≤ u ∧ u < 8 * i + w then nI (dg nm.2.length y.2.1 (u - 8 * i)) else mA μ2 (m + 34) u) → Ev E M_X10_first 0 0 24 [some (.ref m), some (.int (nI i)), some (.int (nI j)), some (.int (nI w))] [] μ3 K := by
      intro fu
      induction fu with
      | zero =>
        intro w hw μ3 hF3 hk3
        have hM3 : MI m S μ3 := hM2.scr (hF3.mono (fun q h => Or.inr ⟨by omega, by omega⟩)) (kF.of hF3 (by omega))
        have mk3 := hM3.1.1
        obtain ⟨pw, kw, lw⟩ := hM3.1.nWords
        have v2 := (hM3.2.2.2.2.2.1.2 i nm hi).2.1
        refine e_il3 25 rfl dX10_first_24 ?_
        refine e_al0 26 rfl dX10_first_25 ?_
        refine e_getR 29 rfl dX10_first_26 f_X10_63 (by assumption) (by assumption) ?_
        refine e_il1 30 rfl dX10_first_29 ?_
        first | refine e_ialdv 31 rfl dX10_first_30 (by assumption) (by assumption) (by first | rfl | simp only [pk_mul, nI_add]) (by omega) (by omega) (by first | assumption | (simp only [mN_sF, mK_sF, mL_sF, mF_sF, mB_sF, mA_sF, mJ_sF, mP_sF, mO_sF, mN_sB, mK_sB, mL_sB, mF_sB, mB_sB, mA_sB, mJ_sB, mP_sB, mO_sB, mN_sA, mK_sA, mL_sA, mF_sA, mB_sA, mA_sA, mJ_sA, mP_sA, mO_sA, mN_sJ, mK_sJ, mL_sJ, mF_sJ, mB_sJ, mA_sJ, mJ_sJ, mP_sJ, mO_sJ, mN_sP, mK_sP, mL_sP, mF_sP, mB_sP, mA_sP, mJ_sP, mP_sP, mO_sP, mN_sO, mK_sO, mL_sO, mF_sO, mB_sO, mA_sO, mJ_sO, mP_sO, mO_sO, up2, if_true, if_false, eq_self, ite_true, ite_false, reduceIte, Nat.add_left_cancel_iff, Nat.add_eq_left, Nat.left_eq_add, Nat.reduceEqDiff]; assumption) | (simp only [mN_sF, mK_sF, mL_sF, mF_sF, mB_sF, mA_sF, mJ_sF, mP_sF, mO_sF, mN_sB, mK_sB, mL_sB, mF_sB, mB_sB, mA_sB, mJ_sB, mP_sB, mO_sB, mN_sA, mK_sA, mL_sA, mF_sA, mB_sA, mA_sA, mJ_sA, mP_sA, mO_sA, mN_sJ, mK_sJ, mL_sJ, mF_sJ, mB_sJ, mA_sJ, mJ_sJ, mP_sJ, mO_sJ, mN_sP, mK_sP, mL_sP, mF_sP, mB_sP, mA_sP, mJ_sP, mP_sP, mO_sP, mN_sO, mK_sO, mL_sO, mF_sO, mB_sO, mA_sO, mJ_sO, mP_sO, mO_sO, up2, if_true, if_false, eq_self, ite_true, ite_false, reduceIte, Nat.add_left_cancel_iff, Nat.add_eq_left, Nat.left_eq_add, Nat.reduceEqDiff]; done)) ?_ | refine e_iald 31 rfl dX10_first_30 (by assumption) (by assumption) (by first | rfl | simp only [pk_mul, nI_add]) (by omega) (by omega) ?_
        first | refine e_cmp_geN 62 34 (by decide) rfl dX10_first_31 rfl rfl (by omega) (by omega) (fun y3 => ?_) (fun y3 => ?_) | refine e_cmp_ge 62 34 (by decide) rfl dX10_first_31 (fun y3 => ?_) (fun y3 => ?_)
        rotate_left
        · omega
        refine e_ret dX10_first_62 rfl ?_
        have hF13 : Fr (fun q => q = m + 34 ∨ q = m + 35) μ1 μ3 := (hFb.mono (S' := fun q => q = m + 34 ∨ q = m + 35) (fun q h => Or.inr h)).trans (hF3.mono (fun q h => Or.inl h))
        refine k μ3 ((hF1.mono (S' := fsS m) (fun q h => by unfold flS at h; unfold fsS; omega)).trans (hF13.mono (fun q h => by unfold fsS; omega))) (fun g hg => by rw [(hF13.2.2.2.2.2 m (by omega)).1]; exact hf1 g hg) ⟨?_, fun _ => ?_⟩ (fun u hu => ?_) (fun u hu => ?_)
        · rw [(hF3.2.2.2.2.2 (m + 35) (by omega)).2.1, b35, hrb]; simp; rfl
        · rw [hrk]
          intro t c ht
          rw [List.getElem?_map] at ht
          obtain ⟨q, hq, hc⟩ := Option.map_eq_some_iff.mp ht
          obtain ⟨hr1, hr2⟩ := List.getElem?_eq_some_iff.mp hq
          rw [List.getElem_range] at hr2
          rw [List.length_range] at hr1
          subst hr2
          show mA μ3 (m + 34) (8 * i + t) = _
          rw [hk3, if_pos (by omega), ← hc, show 8 * i + t - 8 * i = t by omega]
        · rw [(hF3.2.2.2.2.2 (m + 35) (by omega)).2.1, b35]
          show (if _ then _ else _) = _
          rw [if_neg hu, (hF1.2.2.2.2.2 (m + 35) (by unfold flS; omega)).2.1]
        · rw [hk3, if_neg (by omega), (hFb.2.2.2.2.2 (m + 34) (by omega)).2.2.1, (hF1.2.2.2.2.2 (m + 34) (by unfold flS; omega)).2.2.1]
      | succ fu ih =>
        intro w hw μ3 hF3 hk3
        have hM3 : MI m S μ3 := hM2.scr (hF3.mono (fun q h => Or.inr ⟨by omega, by omega⟩)) (kF.of hF3 (by omega))
        have mk3 := hM3.1.1
        obtain ⟨pw, kw, lw⟩ := hM3.1.nWords
        obtain ⟨pk, kk, lk⟩ := hM3.1.kinds
        have v2 := (hM3.2.2.2.2.2.1.2 i nm hi).2.1
        have hR3 : mRw μ3 m ((rdT (aS S nm.1) (aB S) nm).map pr2) := by
          unfold mRw
          rw [(hF3.2.2.2.2.2 m (by omega)).1, (hF3.2.2.2.2.2 (m + 33) (by omega)).2.2.1, (hF3.2.2.2.2.2 (m + 32) (by omega)).2.2.1]; exact hR2
        refine e_il3 25 rfl dX10_first_24 ?_
        refine e_al0 26 rfl dX10_first_25 ?_
        refine e_getR 29 rfl dX10_first_26 f_X10_63 (by assumption) (by assumption) ?_
        refine e_il1 30 rfl dX10_first_29 ?_
        first | refine e_ialdv 31 rfl dX10_first_30 (by assumption) (by assumption) (by first | rfl | simp only [pk_mul, nI_add]) (by omega) (by omega) (by first | assumption | (simp only [mN_sF, mK_sF, mL_sF, mF_sF, mB_sF, mA_sF, mJ_sF, mP_sF, mO_sF, mN_sB, mK_sB, mL_sB, mF_sB, mB_sB, mA_sB, mJ_sB, mP_sB, mO_sB, mN_sA, mK_sA, mL_sA, mF_sA, mB_sA, mA_sA, mJ_sA, mP_sA, mO_sA, mN_sJ, mK_sJ, mL_sJ, mF_sJ, mB_sJ, mA_sJ, mJ_sJ, mP_sJ, mO_sJ, mN_sP, mK_sP, mL_sP, mF_sP, mB_sP, mA_sP, mJ_sP, mP_sP, mO_sP, mN_sO, mK_sO, mL_sO, mF_sO, mB_sO, mA_sO, mJ_sO, mP_sO, mO_sO, up2, if_true, if_false, eq_self, ite_true, ite_false, reduceIte, Nat.add_left_cancel_iff, Nat.add_eq_left, Nat.left_eq_add, Nat.reduceEqDiff]; assumption) | (simp only [mN_sF, mK_sF, mL_sF, mF_sF, mB_sF, mA_sF, mJ_sF, mP_sF, mO_sF, mN_sB, mK_sB, mL_sB, mF_sB, mB_sB, mA_sB, mJ_sB, mP_sB, mO_sB, mN_sA, mK_sA, mL_sA, mF_sA, mB_sA, mA_sA, mJ_sA, mP_sA, mO_sA, mN_sJ, mK_sJ, mL_sJ, mF_sJ, mB_sJ, mA_sJ, mJ_sJ, mP_sJ, mO_sJ, mN_sP, mK_sP, mL_sP, mF_sP, mB_sP, mA_sP, mJ_sP, mP_sP, mO_sP, mN_sO, mK_sO, mL_sO, mF_sO, mB_sO, mA_sO, mJ_sO, mP_sO, mO_sO, up2, if_true, if_false, eq_self, ite_true, ite_false, reduceIte, Nat.add_left_cancel_iff, Nat.add_eq_left, Nat.left_eq_add, Nat.reduceEqDiff]; done)) ?_ | refine e_iald 31 rfl dX10_first_30 (by assumption) (by assumption) (by first | rfl | simp only [pk_mul, nI_add]) (by omega) (by omega) ?_
        first | refine e_cmp_geN 62 34 (by decide) rfl dX10_first_31 rfl rfl (by omega) (by omega) (fun y3 => ?_) (fun y3 => ?_) | refine e_cmp_ge 62 34 (by decide) rfl dX10_first_31 (fun y3 => ?_) (fun y3 => ?_)
        · omega
        refine e_il2 35 rfl dX10_first_34 ?_
        first | refine e_if_ltN 62 38 (by decide) rfl dX10_first_35 rfl (by omega) ?_ | refine e_if_lt 62 38 (by decide) rfl dX10_first_35 (fun h => ?_) (fun h => ?_)
        refine e_al0 39 rfl dX10_first_38 ?_
        refine e_getR 42 rfl dX10_first_39 f_X10_114 (by assumption) (by assumption) ?_
        refine e_bipush (nI 8) 44 rfl dX10_first_42 bc_8 ?_
        refine e_il1 45 rfl dX10_first_44 ?_
        first | refine e_imulN 46 rfl dX10_first_45 rfl rfl ?_ | refine e_imul 46 rfl dX10_first_45 ?_
        refine e_il3 47 rfl dX10_first_46 ?_
        first | refine e_iaddN 48 rfl dX10_first_47 rfl rfl ?_ | refine e_iadd 48 rfl dX10_first_47 ?_
        refine e_al0 49 rfl dX10_first_48 ?_
        refine e_il1 50 rfl dX10_first_49 ?_
        refine e_il2 51 rfl dX10_first_50 ?_
        refine e_il3 52 rfl dX10_first_51 ?_
        refine e_invV0 [_, _, _] 55 rfl dX10_first_52 k_X10_216 mo_X10_kindIn rm_X10_first_X10_kindIn ⟨rfl, rfl⟩ rfl rfl (by assumption) (Nat.le_of_ble_eq_true rfl) ?_
        refine c_kindIn hW hM3 hi hR3 hj hlen hok (by omega) ?_
        refine e_iast 56 rfl dX10_first_55 (by assumption) (by assumption) (by first | rfl | simp only [pk_mul, nI_add]) (by omega) (by omega) ?_
        refine e_ii3 (nI (_ + 1)) 59 rfl dX10_first_56 (ii1 _) rfl ?_
        refine e_goto 24 (by decide) dX10_first_59 ?_
        refine ih (w + 1) (by omega) _ (hF3.sA rfl _ _) (fun u => ?_)
        rw [sA_s]
        show (if _ then _ else _) = _
        by_cases c : u = 8 * i + w
        · rw [if_pos c, if_pos (by omega), c, show 8 * i + w - 8 * i = w by omega]
        · rw [if_neg c, hk3]
          by_cases c2 : 8 * i ≤ u ∧ u < 8 * i + w
          · rw [if_pos c2, if_pos (by omega)]
          · rw [if_neg c2, if_neg (by omega)]
    exact loop nm.2.length 0 (by omega) μ2 Fr.rf (fun u => by rw [if_neg (by omega)])
theorem c_firstAll {m : Nat} {S : Ast} (hW : WF S) (hM : MI m S μ)
    (k : ∀ μ', Fr (fsS m) μ μ' → (∀ g, g ≠ 44 → mF μ' m g = mF μ m g) → (∀ i nm, (aN S)[i]? = some nm → mFs μ' m i S nm) → K none μ') : Cl E M_X10_firstAll [.ref m] μ K := by
  have n30 := hW.2.2.2.1.1
  have loop : ∀ (fu i : Nat), i + fu = (aN S).length → ∀ μ1, Fr (fsS m) μ μ1 → (∀ g, g ≠ 44 → mF μ1 m g = mF μ m g) → (∀ j nm, j < i → (aN S)[j]? = some nm → mFs μ1 m j S nm) → Ev E M_X10_firstAll 0 0 2 [some (.ref m), some (.int (nI i))] [] μ1 K := by
    intro fu
    induction fu with
    | zero =>
      intro i hi μ1 hF1 hf1 h1
      have hM1 : MI m S μ1 := hM.scr (fsS_mQ hF1) (fun f hf => hf1 f (by omega))
      have mk1 := hM1.1.1
      have h20 := hM1.2.2.2.2.2.1.1
      refine e_il1 3 rfl dX10_firstAll_2 ?_
      refine e_al0 4 rfl dX10_firstAll_3 ?_
      first | refine e_getIv 7 rfl dX10_firstAll_4 f_X10_189 (by assumption) (by first | assumption | (simp only [mN_sF, mK_sF, mL_sF, mF_sF, mB_sF, mA_sF, mJ_sF, mP_sF, mO_sF, mN_sB, mK_sB, mL_sB, mF_sB, mB_sB, mA_sB, mJ_sB, mP_sB, mO_sB, mN_sA, mK_sA, mL_sA, mF_sA, mB_sA, mA_sA, mJ_sA, mP_sA, mO_sA, mN_sJ, mK_sJ, mL_sJ, mF_sJ, mB_sJ, mA_sJ, mJ_sJ, mP_sJ, mO_sJ, mN_sP, mK_sP, mL_sP, mF_sP, mB_sP, mA_sP, mJ_sP, mP_sP, mO_sP, mN_sO, mK_sO, mL_sO, mF_sO, mB_sO, mA_sO, mJ_sO, mP_sO, mO_sO, up2, if_true, if_false, eq_self, ite_true, ite_false, reduceIte, Nat.add_left_cancel_iff, Nat.add_eq_left, Nat.left_eq_add, Nat.reduceEqDiff]; assumption) | (simp only [mN_sF, mK_sF, mL_sF, mF_sF, mB_sF, mA_sF, mJ_sF, mP_sF, mO_sF, mN_sB, mK_sB, mL_sB, mF_sB, mB_sB, mA_sB, mJ_sB, mP_sB, mO_sB, mN_sA, mK_sA, mL_sA, mF_sA, mB_sA, mA_sA, mJ_sA, mP_sA, mO_sA, mN_sJ, mK_sJ, mL_sJ, mF_sJ, mB_sJ, mA_sJ, mJ_sJ, mP_sJ, mO_sJ, mN_sP, mK_sP, mL_sP, mF_sP, mB_sP, mA_sP, mJ_sP, mP_sP, mO_sP, mN_sO, mK_sO, mL_sO, mF_sO, mB_sO, mA_sO, mJ_sO, mP_sO, mO_sO, up2, if_true, if_false, eq_self, ite_true, ite_false, reduceIte, Nat.add_left_cancel_iff, Nat.add_eq_left, Nat.left_eq_add, Nat.reduceEqDiff]; done)) ?_ | refine e_getI 7 rfl dX10_firstAll_4 f_X10_189 (by assumption) ?_
      first | refine e_cmp_geN 21 10 (by decide) rfl dX10_firstAll_7 rfl rfl (by omega) (by omega) (fun y1 => ?_) (fun y1 => ?_) | refine e_cmp_ge 21 10 (by decide) rfl dX10_firstAll_7 (fun y1 => ?_) (fun y1 => ?_)
      rotate_left
      · omega
      refine e_ret dX10_firstAll_21 rfl ?_
      exact k μ1 hF1 hf1 (fun j nm hj => h1 j nm (by have := (List.getElem?_eq_some_iff.mp hj).1; omega) hj)
    | succ fu ih =>
      intro i hi μ1 hF1 hf1 h1
      have hM1 : MI m S μ1 := hM.scr (fsS_mQ hF1) (fun f hf => hf1 f (by omega))
      have mk1 := hM1.1.1
      have h20 := hM1.2.2.2.2.2.1.1
      obtain ⟨nm, hnm⟩ : ∃ nm, (aN S)[i]? = some nm := ⟨_, List.getElem?_eq_getElem (by omega)⟩
      refine e_il1 3 rfl dX10_firstAll_2 ?_
      refine e_al0 4 rfl dX10_firstAll_3 ?_
      first | refine e_getIv 7 rfl dX10_firstAll_4 f_X10_189 (by assumption) (by first | assumption | (simp only [mN_sF, mK_sF, mL_sF, mF_sF, mB_sF, mA_sF, mJ_sF, mP_sF, mO_sF, mN_sB, mK_sB, mL_sB, mF_sB, mB_sB, mA_sB, mJ_sB, mP_sB, mO_sB, mN_sA, mK_sA, mL_sA, mF_sA, mB_sA, mA_sA, mJ_sA, mP_sA, mO_sA, mN_sJ, mK_sJ, mL_sJ, mF_sJ, mB_sJ, mA_sJ, mJ_sJ, mP_sJ, mO_sJ, mN_sP, mK_sP, mL_sP, mF_sP, mB_sP, mA_sP, mJ_sP, mP_sP, mO_sP, mN_sO, mK_sO, mL_sO, mF_sO, mB_sO, mA_sO, mJ_sO, mP_sO, mO_sO, up2, if_true, if_false, eq_self, ite_true, ite_false, reduceIte, Nat.add_left_cancel_iff, Nat.add_eq_left, Nat.left_eq_add, Nat.reduceEqDiff]; assumption) | (simp only [mN_sF, mK_sF, mL_sF, mF_sF, mB_sF, mA_sF, mJ_sF, mP_sF, mO_sF, mN_sB, mK_sB, mL_sB, mF_sB, mB_sB, mA_sB, mJ_sB, mP_sB, mO_sB, mN_sA, mK_sA, mL_sA, mF_sA, mB_sA, mA_sA, mJ_sA, mP_sA, mO_sA, mN_sJ, mK_sJ, mL_sJ, mF_sJ, mB_sJ, mA_sJ, mJ_sJ, mP_sJ, mO_sJ, mN_sP, mK_sP, mL_sP, mF_sP, mB_sP, mA_sP, mJ_sP, mP_sP, mO_sP, mN_sO, mK_sO, mL_sO, mF_sO, mB_sO, mA_sO, mJ_sO, mP_sO, mO_sO, up2, if_true, if_false, eq_self, ite_true, ite_false, reduceIte, Nat.add_left_cancel_iff, Nat.add_eq_left, Nat.left_eq_add, Nat.reduceEqDiff]; done)) ?_ | refine e_getI 7 rfl dX10_firstAll_4 f_X10_189 (by assumption) ?_
      first | refine e_cmp_geN 21 10 (by decide) rfl dX10_firstAll_7 rfl rfl (by omega) (by omega) (fun y1 => ?_) (fun y1 => ?_) | refine e_cmp_ge 21 10 (by decide) rfl dX10_firstAll_7 (fun y1 => ?_) (fun y1 => ?_)
      · omega
      refine e_al0 11 rfl dX10_firstAll_10 ?_
      refine e_il1 12 rfl dX10_firstAll_11 ?_
      refine e_invV0 [_] 15 rfl dX10_firstAll_12 k_X10_219 mo_X10_first rm_X10_firstAll_X10_first ⟨rfl, rfl⟩ rfl rfl (by assumption) (Nat.le_of_ble_eq_true rfl) ?_
      refine c_first hW hM1 hnm (fun μ2 hF2 hf2 hs2 hb2 hk2 => ?_)
      refine e_ii1 (nI (_ + 1)) 18 rfl dX10_firstAll_15 (ii1 _) rfl ?_
      refine e_goto 2 (by decide) dX10_firstAll_18 ?_
      refine ih (i + 1) (by omega) μ2 (hF1.trans hF2) (fun g hg => by rw [hf2 g hg]; exact hf1 g hg) (fun j nm' hj hn => ?_)
      by_cases c : j = i
      · subst c; rw [hnm] at hn; cases hn; exact hs2
      · have hjw := (hW.2.2.2.1.2 nm' (List.mem_of_getElem? hn)).2.2.1
        obtain ⟨g1, g2⟩ := h1 j nm' (by omega) hn
        refine ⟨by rw [hb2 j c]; exact g1, fun h => (g2 h).of (fun w hw => ?_)⟩
        have hw' : w < nm'.2.length := by unfold rK at hw; rw [rdK_len] at hw; exact hw
        exact hk2 _ (by omega)
  refine Cl.of0 1 pn_X10 (Nat.le_of_ble_eq_true rfl) ⟨rfl, rfl⟩ rfl ?_
  refine e_iconst (nI 0) 1 rfl dX10_firstAll_0 ic_0 ?_
  refine e_is1 2 rfl dX10_firstAll_1 (by decide) rfl ?_
  exact loop (aN S).length 0 (by omega) μ Fr.rf (fun _ _ => rfl) (fun j nm hj => by omega)
/-- the words that have been picked for name i -/
def mPk (μ : Mm) (m i : Nat) (pl : List Nat) : Prop := mA μ (m + 37) i = nI pl.length ∧ Hd (fun j => mA μ (m + 36) (8 * i + j)) (pl.map (fun p => 8 * i + p))
def pkS (m : Nat) : Nat → Prop := fun q => q = m + 36 ∨ q = m + 37
theorem pkS_mQ {m : Nat} {μ' : Mm} (h : Fr (pkS m) μ μ') : Fr (mQ m) μ μ' := h.mono (fun q a => by unfold pkS at a; unfold mQ; omega)
theorem rB_shape {S : Ast} {nm : Nm} (hW : WF S) (h : rB S nm = true) : ∃ x, aS S nm.1 = some x := by
  cases e : aS S nm.1 with
  | some x => exact ⟨x, rfl⟩
  | none =>
    exfalso
    have h1 := rdT_AR (nm := nm) hW
    rw [e] at h1
    have h2 : AR (slO none) (costW (aB S) nm.1 (enO none) (fsN nm)) nm.2.length 0 0 0 (fmO none) = [] := AR_nil (fun d hd => Rn_ne (Nat.zero_le _) hd rfl)
    rw [h2] at h1
    have h3 : rdT none (aB S) nm = [] := List.map_eq_nil_iff.mp h1
    unfold rB rdB at h
    rw [e, h3] at h
    have : fr1 [] = none := by
      unfold fr1
      rw [List.getElem?_eq_none_iff, SRr_len]
      exact Nat.le_of_eq rfl
    rw [this] at h
    cases h
noncomputable def pkL (S : Ast) (nm : Nm) (b : Bool) : List Nat := chL (rB S nm) (if b then soO (aS S nm.1) else caO (aS S nm.1)) (rK S nm)
theorem c_pick {m i : Nat} {S : Ast} {nm : Nm} {b : Bool} (hW : WF S) (hM : MI m S μ) (hi : (aN S)[i]? = some nm) (hs : mFs μ m i S nm)
    (k : ∀ μ', Fr (pkS m) μ μ' → mPk μ' m i (pkL S nm b) → (∀ u, u ≠ i → mA μ' (m + 37) u = mA μ (m + 37) u) → (∀ u, ¬ (8 * i ≤ u ∧ u < 8 * i + 8) → mA μ' (m + 36) u = mA μ (m + 36) u) → K none μ') : Cl E M_X10_pick [.ref m, .int (nI i), .int (bI b)] μ K := by
  have mk := hM.1.1
  have hil := (List.getElem?_eq_some_iff.mp hi).1
  have n30 := hW.2.2.2.1.1
  have hwf := hW.2.2.2.1.2 nm (List.mem_of_getElem? hi)
  have hn8 := hwf.2.2.1
  have hl6 := hwf.1
  obtain ⟨pm, km, lm⟩ := hM.1.pickedMany
  obtain ⟨pr, kr, lr⟩ := hM.1.isRead
  have vr : mB (sA μ (m + 37) i (nI 0)) (m + 35) i = bI (rB S nm) := hs.1
  refine Cl.of0 5 pn_X10 (Nat.le_of_ble_eq_true rfl) ⟨rfl, rfl⟩ rfl ?_
  refine e_al0 1 rfl dX10_pick_0 ?_
  refine e_getR 4 rfl dX10_pick_1 f_X10_123 (by assumption) (by assumption) ?_
  refine e_il1 5 rfl dX10_pick_4 ?_
  refine e_iconst (nI 0) 6 rfl dX10_pick_5 ic_0 ?_
  refine e_iast 7 rfl dX10_pick_6 (by assumption) (by assumption) (by first | rfl | simp only [pk_mul, nI_add]) (by omega) (by omega) ?_
  have hF1 : Fr (pkS m) μ (sA μ (m + 37) i (nI 0)) := (Fr.rf (S := pkS m)).sA (Or.inr rfl) i (nI 0)
  have a37 : mA (sA μ (m + 37) i (nI 0)) (m + 37) = fun u => if u = i then nI 0 else mA μ (m + 37) u := sA_s
  have a36 : mA (sA μ (m + 37) i (nI 0)) (m + 36) = mA μ (m + 36) := sA_o (by omega)
  generalize sA μ (m + 37) i (nI 0) = μ1 at vr hF1 a37 a36 ⊢
  have hM1 : MI m S μ1 := hM.scr (pkS_mQ hF1) (kF.of hF1 (by unfold pkS; omega))
  have mk1 := hM1.1.1
  obtain ⟨pr1, kr1, lr1⟩ := hM1.1.isRead
  have o37 : ∀ u, u ≠ i → mA μ1 (m + 37) u = mA μ (m + 37) u := fun u hu => by rw [a37]; show (if _ then _ else _) = _; rw [if_neg hu]
  have v37 : mA μ1 (m + 37) i = nI 0 := by rw [a37]; simp
  unfold pkL at k
  cases hrb : rB S nm with
  | false =>
    rw [hrb] at k vr
    refine e_al0 8 rfl dX10_pick_7 ?_
    refine e_getR 11 rfl dX10_pick_8 f_X10_117 (by assumption) (by assumption) ?_
    refine e_il1 12 rfl dX10_pick_11 ?_
    first | refine e_baldv 13 rfl dX10_pick_12 (by assumption) (by assumption) (by first | rfl | simp only [pk_mul, nI_add]) (by omega) (by omega) (by first | assumption | (simp only [mN_sF, mK_sF, mL_sF, mF_sF, mB_sF, mA_sF, mJ_sF, mP_sF, mO_sF, mN_sB, mK_sB, mL_sB, mF_sB, mB_sB, mA_sB, mJ_sB, mP_sB, mO_sB, mN_sA, mK_sA, mL_sA, mF_sA, mB_sA, mA_sA, mJ_sA, mP_sA, mO_sA, mN_sJ, mK_sJ, mL_sJ, mF_sJ, mB_sJ, mA_sJ, mJ_sJ, mP_sJ, mO_sJ, mN_sP, mK_sP, mL_sP, mF_sP, mB_sP, mA_sP, mJ_sP, mP_sP, mO_sP, mN_sO, mK_sO, mL_sO, mF_sO, mB_sO, mA_sO, mJ_sO, mP_sO, mO_sO, up2, if_true, if_false, eq_self, ite_true, ite_false, reduceIte, Nat.add_left_cancel_iff, Nat.add_eq_left, Nat.left_eq_add, Nat.reduceEqDiff]; assumption) | (simp only [mN_sF, mK_sF, mL_sF, mF_sF, mB_sF, mA_sF, mJ_sF, mP_sF, mO_sF, mN_sB, mK_sB, mL_sB, mF_sB, mB_sB, mA_sB, mJ_sB, mP_sB, mO_sB, mN_sA, mK_sA, mL_sA, mF_sA, mB_sA, mA_sA, mJ_sA, mP_sA, mO_sA, mN_sJ, mK_sJ, mL_sJ, mF_sJ, mB_sJ, mA_sJ, mJ_sJ, mP_sJ, mO_sJ, mN_sP, mK_sP, mL_sP, mF_sP, mB_sP, mA_sP, mJ_sP, mP_sP, mO_sP, mN_sO, mK_sO, mL_sO, mF_sO, mB_sO, mA_sO, mJ_sO, mP_sO, mO_sO, up2, if_true, if_false, eq_self, ite_true, ite_false, reduceIte, Nat.add_left_cancel_iff, Nat.add_eq_left, Nat.left_eq_add, Nat.reduceEqDiff]; done)) ?_ | refine e_zaldv 13 rfl dX10_pick_12 (by assumption) (by assumption) (by first | rfl | simp only [pk_mul, nI_add]) (by omega) (by omega) (by first | assumption | (simp only [mN_sF, mK_sF, mL_sF, mF_sF, mB_sF, mA_sF, mJ_sF, mP_sF, mO_sF, mN_sB, mK_sB, mL_sB, mF_sB, mB_sB, mA_sB, mJ_sB, mP_sB, mO_sB, mN_sA, mK_sA, mL_sA, mF_sA, mB_sA, mA_sA, mJ_sA, mP_sA, mO_sA, mN_sJ, mK_sJ, mL_sJ, mF_sJ, mB_sJ, mA_sJ, mJ_sJ, mP_sJ, mO_sJ, mN_sP, mK_sP, mL_sP, mF_sP, mB_sP, mA_sP, mJ_sP, mP_sP, mO_sP, mN_sO, mK_sO, mL_sO, mF_sO, mB_sO, mA_sO, mJ_sO, mP_sO, mO_sO, up2, if_true, if_false, eq_self, ite_true, ite_false, reduceIte, Nat.add_left_cancel_iff, Nat.add_eq_left, Nat.left_eq_add, Nat.reduceEqDiff]; assumption) | (simp only [mN_sF, mK_sF, mL_sF, mF_sF, mB_sF, mA_sF, mJ_sF, mP_sF, mO_sF, mN_sB, mK_sB, mL_sB, mF_sB, mB_sB, mA_sB, mJ_sB, mP_sB, mO_sB, mN_sA, mK_sA, mL_sA, mF_sA, mB_sA, mA_sA, mJ_sA, mP_sA, mO_sA, mN_sJ, mK_sJ, mL_sJ, mF_sJ, mB_sJ, mA_sJ, mJ_sJ, mP_sJ, mO_sJ, mN_sP, mK_sP, mL_sP, mF_sP, mB_sP, mA_sP, mJ_sP, mP_sP, mO_sP, mN_sO, mK_sO, mL_sO, mF_sO, mB_sO, mA_sO, mJ_sO, mP_sO, mO_sO, up2, if_true, if_false, eq_self, ite_true, ite_false, reduceIte, Nat.add_left_cancel_iff, Nat.add_eq_left, Nat.left_eq_add, Nat.reduceEqDiff]; done)) ?_ | refine e_bald 13 rfl dX10_pick_12 (by assumption) (by assumption) (by first | rfl | simp only [pk_mul, nI_add]) (by omega) (by omega) ?_ | refine e_zald 13 rfl dX10_pick_12 (by assumption) (by assumption) (by first | rfl | simp only [pk_mul, nI_add]) (by omega) (by omega) ?_
    first | refine e_if_neB 17 16 (by decide) rfl dX10_pick_13 rfl (fun y1 => ?_) (fun y1 => ?_) | refine e_if_neN 17 16 (by decide) rfl dX10_pick_13 rfl (by omega) (fun y1 => ?_) (fun y1 => ?_) | refine e_if_ne 17 16 (by decide) rfl dX10_pick_13 (fun y1 => ?_) (fun y1 => ?_)
    · cases y1
    refine e_ret dX10_pick_16 rfl ?_
    exact k μ1 hF1 ⟨v37, Hd.nil⟩ o37 (fun u _ => by rw [a36])
  | true =>
  rw [hrb] at k vr
  obtain ⟨x, hx⟩ := rB_shape hW hrb
  have hxw := hW.2.1 nm.1 x hx
  have hHk := hs.2 hrb
  have hk7 := rK_lt hW hn8 hrb
  have hkl : (rK S nm).length = nm.2.length := by unfold rK; rw [rdK_len]
  obtain ⟨lt, hlt⟩ : ∃ lt, lt = if b then soO (aS S nm.1) else caO (aS S nm.1) := ⟨_, rfl⟩
  rw [← hlt] at k
  obtain ⟨ks, hks⟩ : ∃ ks, ks = rK S nm := ⟨_, rfl⟩
  rw [← hks] at k hHk hk7 hkl
  have ltb : lt = if b then x.2.1 else x.2.2.1 := by rw [hlt, hx]; cases b <;> rfl
  have lt7 : lt.length ≤ 7 ∧ lt.Nodup ∧ ∀ k ∈ lt, k < 7 := by
    rw [ltb]
    cases b
    · exact hxw.2.2.1
    · exact hxw.2.1
  have h8 : (chL true lt ks).length ≤ 8 := chL_len lt7.2.1 (by omega)
  have hch : chL true lt ks = lt.flatMap (fun k => plcF k ks 0) := rfl
  obtain ⟨n1, n2, n3⟩ := hM1.2.2.2.2.2.1.2 i nm hi
  have hsh1 := (hM1.2.2.2.1 nm.1 hl6).2 x hx
  obtain ⟨pl, kl, ll⟩ := hM1.1.nLand
  obtain ⟨ps, ks', ls'⟩ := hM1.1.sortMany
  obtain ⟨pc, kc, lc⟩ := hM1.1.callMany
  obtain ⟨lt1, lt2, lt3⟩ := lt7
  have b7 : b = true → mA μ1 (m + 10) nm.1 = nI lt.length := fun e => by rw [ltb, e]; exact hsh1.2.2.1.1
  have b8 : b = false → mA μ1 (m + 12) nm.1 = nI lt.length := fun e => by rw [ltb, e]; exact hsh1.2.2.2.1.1
  have gt : ∀ (j : Nat) (hj : j < lt.length) μ2, Fr (pkS m) μ1 μ2 → (b = true → mA μ2 (m + 11) (7 * nm.1 + j) = nI lt[j]) ∧ (b = false → mA μ2 (m + 13) (7 * nm.1 + j) = nI lt[j]) := fun j hj μ2 hF2 => by
    constructor
    · intro e
      rw [(hF2.2.2.2.2.2 (m + 11) (by unfold pkS; omega)).2.2.1]
      exact hsh1.2.2.1.2 j _ (by rw [show x.2.1 = lt by rw [ltb, e]; rfl]; exact List.getElem?_eq_getElem hj)
    · intro e
      rw [(hF2.2.2.2.2.2 (m + 13) (by unfold pkS; omega)).2.2.1]
      exact hsh1.2.2.2.1.2 j _ (by rw [show x.2.2.1 = lt by rw [ltb, e]; rfl]; exact List.getElem?_eq_getElem hj)
  -- memory between
  obtain ⟨Inv, hInv⟩ : ∃ Inv : Mm → List Nat → Prop, Inv = fun μ2 cnt => Fr (pkS m) μ1 μ2 ∧ mPk μ2 m i cnt ∧ (∀ u, u ≠ i → mA μ2 (m + 37) u = mA μ (m + 37) u) ∧ (∀ u, ¬ (8 * i ≤ u ∧ u < 8 * i + 8) → mA μ2 (m + 36) u = mA μ (m + 36) u) := ⟨_, rfl⟩
  have inner : ∀ (j : Nat) (hj : j < lt.length), (∀ μ2, Inv μ2 ((lt.take (j + 1)).flatMap (fun k => plcF k ks 0)) → ∀ q7, nl q7 = true → Ev E M_X10_pick 0 0 161 [some (.ref m), some (.int (nI i)), some (.int (bI b)), some (.int (nI nm.1)), some (.int (nI lt.length)), some (.int (nI j)), some (.int (nI lt[j])), q7] [] μ2 K) →
      ∀ (fu w : Nat), w + fu = ks.length → ∀ (cnt : List Nat) μ2, Inv μ2 cnt → cnt ++ plcF lt[j] (ks.drop w) w = (lt.take (j + 1)).flatMap (fun k => plcF k ks 0) → Ev E M_X10_pick 0 0 91 [some (.ref m), some (.int (nI i)), some (.int (bI b)), some (.int (nI nm.1)), some (.int (nI lt.length)), some (.int (nI j)), some (.int (nI lt[j])), some (.int (nI w))] [] μ2 K := by
    intro j hj next fu
    induction fu with
    | zero =>
      intro w hw cnt μ2 hI hcnt
      have hI' := hI
      rw [hInv] at hI'
      obtain ⟨hF2, hP2, _, _⟩ := hI'
      have hM2 : MI m S μ2 := hM1.scr (pkS_mQ hF2) (kF.of hF2 (by unfold pkS; omega))
      have mk2 := hM2.1.1
      obtain ⟨pw, kw, lw⟩ := hM2.1.nWords
      have v2 := (hM2.2.2.2.2.2.1.2 i nm hi).2.1
      refine e_il7 93 rfl dX10_pick_91 ?_
      refine e_al0 94 rfl dX10_pick_93 ?_
      refine e_getR 97 rfl dX10_pick_94 f_X10_63 (by assumption) (by assumption) ?_
      refine e_il1 98 rfl dX10_pick_97 ?_
      first | refine e_ialdv 99 rfl dX10_pick_98 (by assumption) (by assumption) (by first | rfl | simp only [pk_mul, nI_add]) (by omega) (by omega) (by first | assumption | (simp only [mN_sF, mK_sF, mL_sF, mF_sF, mB_sF, mA_sF, mJ_sF, mP_sF, mO_sF, mN_sB, mK_sB, mL_sB, mF_sB, mB_sB, mA_sB, mJ_sB, mP_sB, mO_sB, mN_sA, mK_sA, mL_sA, mF_sA, mB_sA, mA_sA, mJ_sA, mP_sA, mO_sA, mN_sJ, mK_sJ, mL_sJ, mF_sJ, mB_sJ, mA_sJ, mJ_sJ, mP_sJ, mO_sJ, mN_sP, mK_sP, mL_sP, mF_sP, mB_sP, mA_sP, mJ_sP, mP_sP, mO_sP, mN_sO, mK_sO, mL_sO, mF_sO, mB_sO, mA_sO, mJ_sO, mP_sO, mO_sO, up2, if_true, if_false, eq_self, ite_true, ite_false, reduceIte, Nat.add_left_cancel_iff, Nat.add_eq_left, Nat.left_eq_add, Nat.reduceEqDiff]; assumption) | (simp only [mN_sF, mK_sF, mL_sF, mF_sF, mB_sF, mA_sF, mJ_sF, mP_sF, mO_sF, mN_sB, mK_sB, mL_sB, mF_sB, mB_sB, mA_sB, mJ_sB, mP_sB, mO_sB, mN_sA, mK_sA, mL_sA, mF_sA, mB_sA, mA_sA, mJ_sA, mP_sA, mO_sA, mN_sJ, mK_sJ, mL_sJ, mF_sJ, mB_sJ, mA_sJ, mJ_sJ, mP_sJ, mO_sJ, mN_sP, mK_sP, mL_sP, mF_sP, mB_sP, mA_sP, mJ_sP, mP_sP, mO_sP, mN_sO, mK_sO, mL_sO, mF_sO, mB_sO, mA_sO, mJ_sO, mP_sO, mO_sO, up2, if_true, if_false, eq_self, ite_true, ite_false, reduceIte, Nat.add_left_cancel_iff, Nat.add_eq_left, Nat.left_eq_add, Nat.reduceEqDiff]; done)) ?_ | refine e_iald 99 rfl dX10_pick_98 (by assumption) (by assumption) (by first | rfl | simp only [pk_mul, nI_add]) (by omega) (by omega) ?_
      first | refine e_cmp_geN 161 102 (by decide) rfl dX10_pick_99 rfl rfl (by omega) (by omega) (fun y5 => ?_) (fun y5 => ?_) | refine e_cmp_ge 161 102 (by decide) rfl dX10_pick_99 (fun y5 => ?_) (fun y5 => ?_)
      rotate_left
      · omega
      rw [List.drop_eq_nil_of_le (by omega), plcF, List.append_nil] at hcnt
      subst hcnt
      exact next μ2 hI _ rfl
    | succ fu ih =>
      intro w hw cnt μ2 hI hcnt
      have hI' := hI
      rw [hInv] at hI'
      obtain ⟨hF2, hP2, hu2, hv2⟩ := hI'
      have hM2 : MI m S μ2 := hM1.scr (pkS_mQ hF2) (kF.of hF2 (by unfold pkS; omega))
      have mk2 := hM2.1.1
      obtain ⟨pw, kw, lw⟩ := hM2.1.nWords
      obtain ⟨pk, kk, lk⟩ := hM2.1.kinds
      obtain ⟨pp, kp, lp⟩ := hM2.1.picked
      obtain ⟨pm2, km2, lm2⟩ := hM2.1.pickedMany
      have v2 := (hM2.2.2.2.2.2.1.2 i nm hi).2.1
      have hwk : w < ks.length := by omega
      have vk : mA μ2 (m + 34) (8 * i + w) = nI ks[w] := by rw [(hF2.2.2.2.2.2 (m + 34) (by unfold pkS; omega)).2.2.1, (hF1.2.2.2.2.2 (m + 34) (by unfold pkS; omega)).2.2.1]; exact hHk.at hwk
      have c1 := hk7 _ (List.getElem_mem hwk)
      have c2 := lt3 _ (List.getElem_mem hj)
      have vm := hP2.1
      rw [plcF_drop hwk] at hcnt
      have hpre : ((lt.take (j + 1)).flatMap (fun k => plcF k ks 0)).length ≤ 8 := by
        refine Nat.le_trans ?_ h8
        rw [hch]
        conv => rhs; rw [← List.take_append_drop (j + 1) lt, List.flatMap_append, List.length_append]
        omega
      have hcl := congrArg List.length hcnt
      rw [List.length_append] at hcl
      refine e_il7 93 rfl dX10_pick_91 ?_
      refine e_al0 94 rfl dX10_pick_93 ?_
      refine e_getR 97 rfl dX10_pick_94 f_X10_63 (by assumption) (by assumption) ?_
      refine e_il1 98 rfl dX10_pick_97 ?_
      first | refine e_ialdv 99 rfl dX10_pick_98 (by assumption) (by assumption) (by first | rfl | simp only [pk_mul, nI_add]) (by omega) (by omega) (by first | assumption | (simp only [mN_sF, mK_sF, mL_sF, mF_sF, mB_sF, mA_sF, mJ_sF, mP_sF, mO_sF, mN_sB, mK_sB, mL_sB, mF_sB, mB_sB, mA_sB, mJ_sB, mP_sB, mO_sB, mN_sA, mK_sA, mL_sA, mF_sA, mB_sA, mA_sA, mJ_sA, mP_sA, mO_sA, mN_sJ, mK_sJ, mL_sJ, mF_sJ, mB_sJ, mA_sJ, mJ_sJ, mP_sJ, mO_sJ, mN_sP, mK_sP, mL_sP, mF_sP, mB_sP, mA_sP, mJ_sP, mP_sP, mO_sP, mN_sO, mK_sO, mL_sO, mF_sO, mB_sO, mA_sO, mJ_sO, mP_sO, mO_sO, up2, if_true, if_false, eq_self, ite_true, ite_false, reduceIte, Nat.add_left_cancel_iff, Nat.add_eq_left, Nat.left_eq_add, Nat.reduceEqDiff]; assumption) | (simp only [mN_sF, mK_sF, mL_sF, mF_sF, mB_sF, mA_sF, mJ_sF, mP_sF, mO_sF, mN_sB, mK_sB, mL_sB, mF_sB, mB_sB, mA_sB, mJ_sB, mP_sB, mO_sB, mN_sA, mK_sA, mL_sA, mF_sA, mB_sA, mA_sA, mJ_sA, mP_sA, mO_sA, mN_sJ, mK_sJ, mL_sJ, mF_sJ, mB_sJ, mA_sJ, mJ_sJ, mP_sJ, mO_sJ, mN_sP, mK_sP, mL_sP, mF_sP, mB_sP, mA_sP, mJ_sP, mP_sP, mO_sP, mN_sO, mK_sO, mL_sO, mF_sO, mB_sO, mA_sO, mJ_sO, mP_sO, mO_sO, up2, if_true, if_false, eq_self, ite_true, ite_false, reduceIte, Nat.add_left_cancel_iff, Nat.add_eq_left, Nat.left_eq_add, Nat.reduceEqDiff]; done)) ?_ | refine e_iald 99 rfl dX10_pick_98 (by assumption) (by assumption) (by first | rfl | simp only [pk_mul, nI_add]) (by omega) (by omega) ?_
      first | refine e_cmp_geN 161 102 (by decide) rfl dX10_pick_99 rfl rfl (by omega) (by omega) (fun y5 => ?_) (fun y5 => ?_) | refine e_cmp_ge 161 102 (by decide) rfl dX10_pick_99 (fun y5 => ?_) (fun y5 => ?_)
      · omega
      refine e_al0 103 rfl dX10_pick_102 ?_
      refine e_getR 106 rfl dX10_pick_103 f_X10_114 (by assumption) (by assumption) ?_
      refine e_bipush (nI 8) 108 rfl dX10_pick_106 bc_8 ?_
      refine e_il1 109 rfl dX10_pick_108 ?_
      first | refine e_imulN 110 rfl dX10_pick_109 rfl rfl ?_ | refine e_imul 110 rfl dX10_pick_109 ?_
      refine e_il7 112 rfl dX10_pick_110 ?_
      first | refine e_iaddN 113 rfl dX10_pick_112 rfl rfl ?_ | refine e_iadd 113 rfl dX10_pick_112 ?_
      first | refine e_ialdv 114 rfl dX10_pick_113 (by assumption) (by assumption) (by first | rfl | simp only [pk_mul, nI_add]) (by omega) (by omega) (by first | assumption | (simp only [mN_sF, mK_sF, mL_sF, mF_sF, mB_sF, mA_sF, mJ_sF, mP_sF, mO_sF, mN_sB, mK_sB, mL_sB, mF_sB, mB_sB, mA_sB, mJ_sB, mP_sB, mO_sB, mN_sA, mK_sA, mL_sA, mF_sA, mB_sA, mA_sA, mJ_sA, mP_sA, mO_sA, mN_sJ, mK_sJ, mL_sJ, mF_sJ, mB_sJ, mA_sJ, mJ_sJ, mP_sJ, mO_sJ, mN_sP, mK_sP, mL_sP, mF_sP, mB_sP, mA_sP, mJ_sP, mP_sP, mO_sP, mN_sO, mK_sO, mL_sO, mF_sO, mB_sO, mA_sO, mJ_sO, mP_sO, mO_sO, up2, if_true, if_false, eq_self, ite_true, ite_false, reduceIte, Nat.add_left_cancel_iff, Nat.add_eq_left, Nat.left_eq_add, Nat.reduceEqDiff]; assumption) | (simp only [mN_sF, mK_sF, mL_sF, mF_sF, mB_sF, mA_sF, mJ_sF, mP_sF, mO_sF, mN_sB, mK_sB, mL_sB, mF_sB, mB_sB, mA_sB, mJ_sB, mP_sB, mO_sB, mN_sA, mK_sA, mL_sA, mF_sA, mB_sA, mA_sA, mJ_sA, mP_sA, mO_sA, mN_sJ, mK_sJ, mL_sJ, mF_sJ, mB_sJ, mA_sJ, mJ_sJ, mP_sJ, mO_sJ, mN_sP, mK_sP, mL_sP, mF_sP, mB_sP, mA_sP, mJ_sP, mP_sP, mO_sP, mN_sO, mK_sO, mL_sO, mF_sO, mB_sO, mA_sO, mJ_sO, mP_sO, mO_sO, up2, if_true, if_false, eq_self, ite_true, ite_false, reduceIte, Nat.add_left_cancel_iff, Nat.add_eq_left, Nat.left_eq_add, Nat.reduceEqDiff]; done)) ?_ | refine e_iald 114 rfl dX10_pick_113 (by assumption) (by assumption) (by first | rfl | simp only [pk_mul, nI_add]) (by omega) (by omega) ?_
      refine e_il6 116 rfl dX10_pick_114 ?_
      first | refine e_cmp_eqN 122 119 (by decide) rfl dX10_pick_116 rfl rfl (by omega) (by omega) (fun y6 => ?_) (fun y6 => ?_) | refine e_cmp_eq 122 119 (by decide) rfl dX10_pick_116 (fun y6 => ?_) (fun y6 => ?_)
      rotate_left
      · rw [if_neg y6] at hcnt
        refine e_goto 155 (by decide) dX10_pick_119 ?_
        refine e_ii7 (nI (_ + 1)) 158 rfl dX10_pick_155 (ii1 _) rfl ?_
        refine e_goto 91 (by decide) dX10_pick_158 ?_
        exact ih (w + 1) (by omega) cnt μ2 hI hcnt
      rw [if_pos y6] at hcnt hcl
      rw [List.length_cons] at hcl
      refine e_al0 123 rfl dX10_pick_122 ?_
      refine e_getR 126 rfl dX10_pick_123 f_X10_120 (by assumption) (by assumption) ?_
      refine e_bipush (nI 8) 128 rfl dX10_pick_126 bc_8 ?_
      refine e_il1 129 rfl dX10_pick_128 ?_
      first | refine e_imulN 130 rfl dX10_pick_129 rfl rfl ?_ | refine e_imul 130 rfl dX10_pick_129 ?_
      refine e_al0 131 rfl dX10_pick_130 ?_
      refine e_getR 134 rfl dX10_pick_131 f_X10_123 (by assumption) (by assumption) ?_
      refine e_il1 135 rfl dX10_pick_134 ?_
      first | refine e_ialdv 136 rfl dX10_pick_135 (by assumption) (by assumption) (by first | rfl | simp only [pk_mul, nI_add]) (by omega) (by omega) (by first | assumption | (simp only [mN_sF, mK_sF, mL_sF, mF_sF, mB_sF, mA_sF, mJ_sF, mP_sF, mO_sF, mN_sB, mK_sB, mL_sB, mF_sB, mB_sB, mA_sB, mJ_sB, mP_sB, mO_sB, mN_sA, mK_sA, mL_sA, mF_sA, mB_sA, mA_sA, mJ_sA, mP_sA, mO_sA, mN_sJ, mK_sJ, mL_sJ, mF_sJ, mB_sJ, mA_sJ, mJ_sJ, mP_sJ, mO_sJ, mN_sP, mK_sP, mL_sP, mF_sP, mB_sP, mA_sP, mJ_sP, mP_sP, mO_sP, mN_sO, mK_sO, mL_sO, mF_sO, mB_sO, mA_sO, mJ_sO, mP_sO, mO_sO, up2, if_true, if_false, eq_self, ite_true, ite_false, reduceIte, Nat.add_left_cancel_iff, Nat.add_eq_left, Nat.left_eq_add, Nat.reduceEqDiff]; assumption) | (simp only [mN_sF, mK_sF, mL_sF, mF_sF, mB_sF, mA_sF, mJ_sF, mP_sF, mO_sF, mN_sB, mK_sB, mL_sB, mF_sB, mB_sB, mA_sB, mJ_sB, mP_sB, mO_sB, mN_sA, mK_sA, mL_sA, mF_sA, mB_sA, mA_sA, mJ_sA, mP_sA, mO_sA, mN_sJ, mK_sJ, mL_sJ, mF_sJ, mB_sJ, mA_sJ, mJ_sJ, mP_sJ, mO_sJ, mN_sP, mK_sP, mL_sP, mF_sP, mB_sP, mA_sP, mJ_sP, mP_sP, mO_sP, mN_sO, mK_sO, mL_sO, mF_sO, mB_sO, mA_sO, mJ_sO, mP_sO, mO_sO, up2, if_true, if_false, eq_self, ite_true, ite_false, reduceIte, Nat.add_left_cancel_iff, Nat.add_eq_left, Nat.left_eq_add, Nat.reduceEqDiff]; done)) ?_ | refine e_iald 136 rfl dX10_pick_135 (by assumption) (by assumption) (by first | rfl | simp only [pk_mul, nI_add]) (by omega) (by omega) ?_
      first | refine e_iaddN 137 rfl dX10_pick_136 rfl rfl ?_ | refine e_iadd 137 rfl dX10_pick_136 ?_
      refine e_bipush (nI 8) 139 rfl dX10_pick_137 bc_8 ?_
      refine e_il1 140 rfl dX10_pick_139 ?_
      first | refine e_imulN 141 rfl dX10_pick_140 rfl rfl ?_ | refine e_imul 141 rfl dX10_pick_140 ?_
      refine e_il7 143 rfl dX10_pick_141 ?_
      first | refine e_iaddN 144 rfl dX10_pick_143 rfl rfl ?_ | refine e_iadd 144 rfl dX10_pick_143 ?_
      refine e_iast 145 rfl dX10_pick_144 (by assumption) (by assumption) (by first | rfl | simp only [pk_mul, nI_add]) (by omega) (by omega) ?_
      have vm3 : mA (sA μ2 (m + 36) (8 * i + cnt.length) (nI (8 * i + w))) (m + 37) i = nI cnt.length := by rw [sA_o (by omega)]; exact vm
      have km3 : mK (sA μ2 (m + 36) (8 * i + cnt.length) (nI (8 * i + w))) (m + 37) = 13 := km2
      have lm3 : mL (sA μ2 (m + 36) (8 * i + cnt.length) (nI (8 * i + w))) (m + 37) = 30 := lm2
      refine e_al0 146 rfl dX10_pick_145 ?_
      refine e_getR 149 rfl dX10_pick_146 f_X10_123 (by assumption) (by assumption) ?_
      refine e_il1 150 rfl dX10_pick_149 ?_
      refine e_dup2 151 rfl dX10_pick_150 rfl rfl ?_
      first | refine e_ialdv 152 rfl dX10_pick_151 (by assumption) (by assumption) (by first | rfl | simp only [pk_mul, nI_add]) (by omega) (by omega) (by first | assumption | (simp only [mN_sF, mK_sF, mL_sF, mF_sF, mB_sF, mA_sF, mJ_sF, mP_sF, mO_sF, mN_sB, mK_sB, mL_sB, mF_sB, mB_sB, mA_sB, mJ_sB, mP_sB, mO_sB, mN_sA, mK_sA, mL_sA, mF_sA, mB_sA, mA_sA, mJ_sA, mP_sA, mO_sA, mN_sJ, mK_sJ, mL_sJ, mF_sJ, mB_sJ, mA_sJ, mJ_sJ, mP_sJ, mO_sJ, mN_sP, mK_sP, mL_sP, mF_sP, mB_sP, mA_sP, mJ_sP, mP_sP, mO_sP, mN_sO, mK_sO, mL_sO, mF_sO, mB_sO, mA_sO, mJ_sO, mP_sO, mO_sO, up2, if_true, if_false, eq_self, ite_true, ite_false, reduceIte, Nat.add_left_cancel_iff, Nat.add_eq_left, Nat.left_eq_add, Nat.reduceEqDiff]; assumption) | (simp only [mN_sF, mK_sF, mL_sF, mF_sF, mB_sF, mA_sF, mJ_sF, mP_sF, mO_sF, mN_sB, mK_sB, mL_sB, mF_sB, mB_sB, mA_sB, mJ_sB, mP_sB, mO_sB, mN_sA, mK_sA, mL_sA, mF_sA, mB_sA, mA_sA, mJ_sA, mP_sA, mO_sA, mN_sJ, mK_sJ, mL_sJ, mF_sJ, mB_sJ, mA_sJ, mJ_sJ, mP_sJ, mO_sJ, mN_sP, mK_sP, mL_sP, mF_sP, mB_sP, mA_sP, mJ_sP, mP_sP, mO_sP, mN_sO, mK_sO, mL_sO, mF_sO, mB_sO, mA_sO, mJ_sO, mP_sO, mO_sO, up2, if_true, if_false, eq_self, ite_true, ite_false, reduceIte, Nat.add_left_cancel_iff, Nat.add_eq_left, Nat.left_eq_add, Nat.reduceEqDiff]; done)) ?_ | refine e_iald 152 rfl dX10_pick_151 (by assumption) (by assumption) (by first | rfl | simp only [pk_mul, nI_add]) (by omega) (by omega) ?_
      refine e_iconst (nI 1) 153 rfl dX10_pick_152 ic_1 ?_
      first | refine e_iaddN 154 rfl dX10_pick_153 rfl rfl ?_ | refine e_iadd 154 rfl dX10_pick_153 ?_
      refine e_iast 155 rfl dX10_pick_154 (by assumption) (by assumption) (by first | rfl | simp only [pk_mul, nI_add]) (by omega) (by omega) ?_
      refine e_ii7 (nI (_ + 1)) 158 rfl dX10_pick_155 (ii1 _) rfl ?_
      refine e_goto 91 (by decide) dX10_pick_158 ?_
      refine ih (w + 1) (by omega) (cnt ++ [w]) _ ?_ (by rw [← hcnt]; simp)
      rw [hInv]
      refine ⟨(hF2.sA (Or.inl rfl) _ _).sA (Or.inr rfl) _ _, ⟨?_, ?_⟩, fun u hu => ?_, fun u hu => ?_⟩
      · rw [sA_s]
        show (if _ then _ else _) = _
        rw [if_pos rfl, List.length_append]; rfl
      · rw [sA_o (by omega), sA_s, List.map_append]
        refine hP2.2.push (fun q hq => ?_) ?_
        · rw [List.length_map] at hq
          show (if _ then _ else _) = _
          rw [if_neg (by omega)]
        · rw [List.length_map]
          show (if _ then _ else _) = _
          rw [if_pos rfl]
      · rw [sA_s, sA_o (by omega)]
        show (if _ then _ else _) = _
        rw [if_neg hu]
        exact hu2 u hu
      · rw [sA_o (by omega), sA_s]
        show (if _ then _ else _) = _
        rw [if_neg (by omega)]
        exact hv2 u hu
  have outer : ∀ (fu j : Nat), j + fu = lt.length → ∀ q6 q7 μ2, nl q6 = true → nl q7 = true → Inv μ2 ((lt.take j).flatMap (fun k => plcF k ks 0)) → Ev E M_X10_pick 0 0 48 [some (.ref m), some (.int (nI i)), some (.int (bI b)), some (.int (nI nm.1)), some (.int (nI lt.length)), some (.int (nI j)), q6, q7] [] μ2 K := by
    intro fu
    induction fu with
    | zero =>
      intro j hj q6 q7 μ2 hq6 hq7 hI
      rw [hInv] at hI
      obtain ⟨hF2, hP2, hu2, hv2⟩ := hI
      refine e_il5 50 rfl dX10_pick_48 ?_
      refine e_il4 52 rfl dX10_pick_50 ?_
      first | refine e_cmp_geN 167 55 (by decide) rfl dX10_pick_52 rfl rfl (by omega) (by omega) (fun y3 => ?_) (fun y3 => ?_) | refine e_cmp_ge 167 55 (by decide) rfl dX10_pick_52 (fun y3 => ?_) (fun y3 => ?_)
      rotate_left
      · omega
      refine e_ret dX10_pick_167 rfl ?_
      rw [List.take_of_length_le (by omega)] at hP2
      exact k μ2 (hF1.trans hF2) hP2 hu2 hv2
    | succ fu ih =>
      intro j hj q6 q7 μ2 hq6 hq7 hI
      have hI' := hI
      rw [hInv] at hI'
      obtain ⟨hF2, hP2, hu2, hv2⟩ := hI'
      have hM2 : MI m S μ2 := hM1.scr (pkS_mQ hF2) (kF.of hF2 (by unfold pkS; omega))
      have mk2 := hM2.1.1
      have hjl : j < lt.length := by omega
      obtain ⟨psb, ksb, lsb⟩ := hM2.1.sortBy
      obtain ⟨pcb, kcb, lcb⟩ := hM2.1.callBy
      obtain ⟨e1, e2⟩ := gt j hjl μ2 hF2
      have go : ∀ q6 q7, Ev E M_X10_pick 0 0 86 [some (.ref m), some (.int (nI i)), some (.int (bI b)), some (.int (nI nm.1)), some (.int (nI lt.length)), some (.int (nI j)), q6, q7] [.int (nI lt[j])] μ2 K := by
        intro q6 q7
        refine e_is6 88 rfl dX10_pick_86 (by decide) rfl ?_
        refine e_iconst (nI 0) 89 rfl dX10_pick_88 ic_0 ?_
        refine e_is7 91 rfl dX10_pick_89 (by decide) rfl ?_
        refine inner j hjl (fun μ3 hI3 r7 hr7 => ?_) ks.length 0 (by omega) ((lt.take j).flatMap (fun k => plcF k ks 0)) μ2 hI ?_
        · refine e_ii5 (nI (_ + 1)) 164 rfl dX10_pick_161 (ii1 _) rfl ?_
          refine e_goto 48 (by decide) dX10_pick_164 ?_
          exact ih (j + 1) (by omega) _ _ μ3 rfl hr7 hI3
        · rw [List.take_succ_eq_append_getElem hjl, List.flatMap_append, List.drop_zero]
          simp
      refine e_il5 50 rfl dX10_pick_48 ?_
      refine e_il4 52 rfl dX10_pick_50 ?_
      first | refine e_cmp_geN 167 55 (by decide) rfl dX10_pick_52 rfl rfl (by omega) (by omega) (fun y3 => ?_) (fun y3 => ?_) | refine e_cmp_ge 167 55 (by decide) rfl dX10_pick_52 (fun y3 => ?_) (fun y3 => ?_)
      · omega
      refine e_il2 56 rfl dX10_pick_55 ?_
      first | refine e_if_eqB 74 59 (by decide) rfl dX10_pick_56 rfl (fun y4 => ?_) (fun y4 => ?_) | refine e_if_eqN 74 59 (by decide) rfl dX10_pick_56 rfl (by omega) (fun y4 => ?_) (fun y4 => ?_) | refine e_if_eq 74 59 (by decide) rfl dX10_pick_56 (fun y4 => ?_) (fun y4 => ?_)
      · have e2' := e2 y4
        refine e_al0 75 rfl dX10_pick_74 ?_
        refine e_getR 78 rfl dX10_pick_75 f_X10_47 (by assumption) (by assumption) ?_
        refine e_bipush (nI 7) 80 rfl dX10_pick_78 bc_7 ?_
        refine e_il3 81 rfl dX10_pick_80 ?_
        first | refine e_imulN 82 rfl dX10_pick_81 rfl rfl ?_ | refine e_imul 82 rfl dX10_pick_81 ?_
        refine e_il5 84 rfl dX10_pick_82 ?_
        first | refine e_iaddN 85 rfl dX10_pick_84 rfl rfl ?_ | refine e_iadd 85 rfl dX10_pick_84 ?_
        first | refine e_ialdv 86 rfl dX10_pick_85 (by assumption) (by assumption) (by first | rfl | simp only [pk_mul, nI_add]) (by omega) (by omega) (by first | assumption | (simp only [mN_sF, mK_sF, mL_sF, mF_sF, mB_sF, mA_sF, mJ_sF, mP_sF, mO_sF, mN_sB, mK_sB, mL_sB, mF_sB, mB_sB, mA_sB, mJ_sB, mP_sB, mO_sB, mN_sA, mK_sA, mL_sA, mF_sA, mB_sA, mA_sA, mJ_sA, mP_sA, mO_sA, mN_sJ, mK_sJ, mL_sJ, mF_sJ, mB_sJ, mA_sJ, mJ_sJ, mP_sJ, mO_sJ, mN_sP, mK_sP, mL_sP, mF_sP, mB_sP, mA_sP, mJ_sP, mP_sP, mO_sP, mN_sO, mK_sO, mL_sO, mF_sO, mB_sO, mA_sO, mJ_sO, mP_sO, mO_sO, up2, if_true, if_false, eq_self, ite_true, ite_false, reduceIte, Nat.add_left_cancel_iff, Nat.add_eq_left, Nat.left_eq_add, Nat.reduceEqDiff]; assumption) | (simp only [mN_sF, mK_sF, mL_sF, mF_sF, mB_sF, mA_sF, mJ_sF, mP_sF, mO_sF, mN_sB, mK_sB, mL_sB, mF_sB, mB_sB, mA_sB, mJ_sB, mP_sB, mO_sB, mN_sA, mK_sA, mL_sA, mF_sA, mB_sA, mA_sA, mJ_sA, mP_sA, mO_sA, mN_sJ, mK_sJ, mL_sJ, mF_sJ, mB_sJ, mA_sJ, mJ_sJ, mP_sJ, mO_sJ, mN_sP, mK_sP, mL_sP, mF_sP, mB_sP, mA_sP, mJ_sP, mP_sP, mO_sP, mN_sO, mK_sO, mL_sO, mF_sO, mB_sO, mA_sO, mJ_sO, mP_sO, mO_sO, up2, if_true, if_false, eq_self, ite_true, ite_false, reduceIte, Nat.add_left_cancel_iff, Nat.add_eq_left, Nat.left_eq_add, Nat.reduceEqDiff]; done)) ?_ | refine e_iald 86 rfl dX10_pick_85 (by assumption) (by assumption) (by first | rfl | simp only [pk_mul, nI_add]) (by omega) (by omega) ?_
        exact go _ _
      · have e1' := e1 y4
        refine e_al0 60 rfl dX10_pick_59 ?_
        refine e_getR 63 rfl dX10_pick_60 f_X10_41 (by assumption) (by assumption) ?_
        refine e_bipush (nI 7) 65 rfl dX10_pick_63 bc_7 ?_
        refine e_il3 66 rfl dX10_pick_65 ?_
        first | refine e_imulN 67 rfl dX10_pick_66 rfl rfl ?_ | refine e_imul 67 rfl dX10_pick_66 ?_
        refine e_il5 69 rfl dX10_pick_67 ?_
        first | refine e_iaddN 70 rfl dX10_pick_69 rfl rfl ?_ | refine e_iadd 70 rfl dX10_pick_69 ?_
        first | refine e_ialdv 71 rfl dX10_pick_70 (by assumption) (by assumption) (by first | rfl | simp only [pk_mul, nI_add]) (by omega) (by omega) (by first | assumption | (simp only [mN_sF, mK_sF, mL_sF, mF_sF, mB_sF, mA_sF, mJ_sF, mP_sF, mO_sF, mN_sB, mK_sB, mL_sB, mF_sB, mB_sB, mA_sB, mJ_sB, mP_sB, mO_sB, mN_sA, mK_sA, mL_sA, mF_sA, mB_sA, mA_sA, mJ_sA, mP_sA, mO_sA, mN_sJ, mK_sJ, mL_sJ, mF_sJ, mB_sJ, mA_sJ, mJ_sJ, mP_sJ, mO_sJ, mN_sP, mK_sP, mL_sP, mF_sP, mB_sP, mA_sP, mJ_sP, mP_sP, mO_sP, mN_sO, mK_sO, mL_sO, mF_sO, mB_sO, mA_sO, mJ_sO, mP_sO, mO_sO, up2, if_true, if_false, eq_self, ite_true, ite_false, reduceIte, Nat.add_left_cancel_iff, Nat.add_eq_left, Nat.left_eq_add, Nat.reduceEqDiff]; assumption) | (simp only [mN_sF, mK_sF, mL_sF, mF_sF, mB_sF, mA_sF, mJ_sF, mP_sF, mO_sF, mN_sB, mK_sB, mL_sB, mF_sB, mB_sB, mA_sB, mJ_sB, mP_sB, mO_sB, mN_sA, mK_sA, mL_sA, mF_sA, mB_sA, mA_sA, mJ_sA, mP_sA, mO_sA, mN_sJ, mK_sJ, mL_sJ, mF_sJ, mB_sJ, mA_sJ, mJ_sJ, mP_sJ, mO_sJ, mN_sP, mK_sP, mL_sP, mF_sP, mB_sP, mA_sP, mJ_sP, mP_sP, mO_sP, mN_sO, mK_sO, mL_sO, mF_sO, mB_sO, mA_sO, mJ_sO, mP_sO, mO_sO, up2, if_true, if_false, eq_self, ite_true, ite_false, reduceIte, Nat.add_left_cancel_iff, Nat.add_eq_left, Nat.left_eq_add, Nat.reduceEqDiff]; done)) ?_ | refine e_iald 71 rfl dX10_pick_70 (by assumption) (by assumption) (by first | rfl | simp only [pk_mul, nI_add]) (by omega) (by omega) ?_
        refine e_goto 86 (by decide) dX10_pick_71 ?_
        exact go _ _
  have start : Inv μ1 [] := by rw [hInv]; exact ⟨Fr.rf, ⟨v37, Hd.nil⟩, o37, fun u _ => by rw [a36]⟩
  refine e_al0 8 rfl dX10_pick_7 ?_
  refine e_getR 11 rfl dX10_pick_8 f_X10_117 (by assumption) (by assumption) ?_
  refine e_il1 12 rfl dX10_pick_11 ?_
  first | refine e_baldv 13 rfl dX10_pick_12 (by assumption) (by assumption) (by first | rfl | simp only [pk_mul, nI_add]) (by omega) (by omega) (by first | assumption | (simp only [mN_sF, mK_sF, mL_sF, mF_sF, mB_sF, mA_sF, mJ_sF, mP_sF, mO_sF, mN_sB, mK_sB, mL_sB, mF_sB, mB_sB, mA_sB, mJ_sB, mP_sB, mO_sB, mN_sA, mK_sA, mL_sA, mF_sA, mB_sA, mA_sA, mJ_sA, mP_sA, mO_sA, mN_sJ, mK_sJ, mL_sJ, mF_sJ, mB_sJ, mA_sJ, mJ_sJ, mP_sJ, mO_sJ, mN_sP, mK_sP, mL_sP, mF_sP, mB_sP, mA_sP, mJ_sP, mP_sP, mO_sP, mN_sO, mK_sO, mL_sO, mF_sO, mB_sO, mA_sO, mJ_sO, mP_sO, mO_sO, up2, if_true, if_false, eq_self, ite_true, ite_false, reduceIte, Nat.add_left_cancel_iff, Nat.add_eq_left, Nat.left_eq_add, Nat.reduceEqDiff]; assumption) | (simp only [mN_sF, mK_sF, mL_sF, mF_sF, mB_sF, mA_sF, mJ_sF, mP_sF, mO_sF, mN_sB, mK_sB, mL_sB, mF_sB, mB_sB, mA_sB, mJ_sB, mP_sB, mO_sB, mN_sA, mK_sA, mL_sA, mF_sA, mB_sA, mA_sA, mJ_sA, mP_sA, mO_sA, mN_sJ, mK_sJ, mL_sJ, mF_sJ, mB_sJ, mA_sJ, mJ_sJ, mP_sJ, mO_sJ, mN_sP, mK_sP, mL_sP, mF_sP, mB_sP, mA_sP, mJ_sP, mP_sP, mO_sP, mN_sO, mK_sO, mL_sO, mF_sO, mB_sO, mA_sO, mJ_sO, mP_sO, mO_sO, up2, if_true, if_false, eq_self, ite_true, ite_false, reduceIte, Nat.add_left_cancel_iff, Nat.add_eq_left, Nat.left_eq_add, Nat.reduceEqDiff]; done)) ?_ | refine e_zaldv 13 rfl dX10_pick_12 (by assumption) (by assumption) (by first | rfl | simp only [pk_mul, nI_add]) (by omega) (by omega) (by first | assumption | (simp only [mN_sF, mK_sF, mL_sF, mF_sF, mB_sF, mA_sF, mJ_sF, mP_sF, mO_sF, mN_sB, mK_sB, mL_sB, mF_sB, mB_sB, mA_sB, mJ_sB, mP_sB, mO_sB, mN_sA, mK_sA, mL_sA, mF_sA, mB_sA, mA_sA, mJ_sA, mP_sA, mO_sA, mN_sJ, mK_sJ, mL_sJ, mF_sJ, mB_sJ, mA_sJ, mJ_sJ, mP_sJ, mO_sJ, mN_sP, mK_sP, mL_sP, mF_sP, mB_sP, mA_sP, mJ_sP, mP_sP, mO_sP, mN_sO, mK_sO, mL_sO, mF_sO, mB_sO, mA_sO, mJ_sO, mP_sO, mO_sO, up2, if_true, if_false, eq_self, ite_true, ite_false, reduceIte, Nat.add_left_cancel_iff, Nat.add_eq_left, Nat.left_eq_add, Nat.reduceEqDiff]; assumption) | (simp only [mN_sF, mK_sF, mL_sF, mF_sF, mB_sF, mA_sF, mJ_sF, mP_sF, mO_sF, mN_sB, mK_sB, mL_sB, mF_sB, mB_sB, mA_sB, mJ_sB, mP_sB, mO_sB, mN_sA, mK_sA, mL_sA, mF_sA, mB_sA, mA_sA, mJ_sA, mP_sA, mO_sA, mN_sJ, mK_sJ, mL_sJ, mF_sJ, mB_sJ, mA_sJ, mJ_sJ, mP_sJ, mO_sJ, mN_sP, mK_sP, mL_sP, mF_sP, mB_sP, mA_sP, mJ_sP, mP_sP, mO_sP, mN_sO, mK_sO, mL_sO, mF_sO, mB_sO, mA_sO, mJ_sO, mP_sO, mO_sO, up2, if_true, if_false, eq_self, ite_true, ite_false, reduceIte, Nat.add_left_cancel_iff, Nat.add_eq_left, Nat.left_eq_add, Nat.reduceEqDiff]; done)) ?_ | refine e_bald 13 rfl dX10_pick_12 (by assumption) (by assumption) (by first | rfl | simp only [pk_mul, nI_add]) (by omega) (by omega) ?_ | refine e_zald 13 rfl dX10_pick_12 (by assumption) (by assumption) (by first | rfl | simp only [pk_mul, nI_add]) (by omega) (by omega) ?_
  first | refine e_if_neB 17 16 (by decide) rfl dX10_pick_13 rfl (fun y1 => ?_) (fun y1 => ?_) | refine e_if_neN 17 16 (by decide) rfl dX10_pick_13 rfl (by omega) (fun y1 => ?_) (fun y1 => ?_) | refine e_if_ne 17 16 (by decide) rfl dX10_pick_13 (fun y1 => ?_) (fun y1 => ?_)
  rotate_left
  · cases y1
  refine e_al0 18 rfl dX10_pick_17 ?_
  refine e_getR 21 rfl dX10_pick_18 f_X10_60 (by assumption) (by assumption) ?_
  refine e_il1 22 rfl dX10_pick_21 ?_
  first | refine e_ialdv 23 rfl dX10_pick_22 (by assumption) (by assumption) (by first | rfl | simp only [pk_mul, nI_add]) (by omega) (by omega) (by first | assumption | (simp only [mN_sF, mK_sF, mL_sF, mF_sF, mB_sF, mA_sF, mJ_sF, mP_sF, mO_sF, mN_sB, mK_sB, mL_sB, mF_sB, mB_sB, mA_sB, mJ_sB, mP_sB, mO_sB, mN_sA, mK_sA, mL_sA, mF_sA, mB_sA, mA_sA, mJ_sA, mP_sA, mO_sA, mN_sJ, mK_sJ, mL_sJ, mF_sJ, mB_sJ, mA_sJ, mJ_sJ, mP_sJ, mO_sJ, mN_sP, mK_sP, mL_sP, mF_sP, mB_sP, mA_sP, mJ_sP, mP_sP, mO_sP, mN_sO, mK_sO, mL_sO, mF_sO, mB_sO, mA_sO, mJ_sO, mP_sO, mO_sO, up2, if_true, if_false, eq_self, ite_true, ite_false, reduceIte, Nat.add_left_cancel_iff, Nat.add_eq_left, Nat.left_eq_add, Nat.reduceEqDiff]; assumption) | (simp only [mN_sF, mK_sF, mL_sF, mF_sF, mB_sF, mA_sF, mJ_sF, mP_sF, mO_sF, mN_sB, mK_sB, mL_sB, mF_sB, mB_sB, mA_sB, mJ_sB, mP_sB, mO_sB, mN_sA, mK_sA, mL_sA, mF_sA, mB_sA, mA_sA, mJ_sA, mP_sA, mO_sA, mN_sJ, mK_sJ, mL_sJ, mF_sJ, mB_sJ, mA_sJ, mJ_sJ, mP_sJ, mO_sJ, mN_sP, mK_sP, mL_sP, mF_sP, mB_sP, mA_sP, mJ_sP, mP_sP, mO_sP, mN_sO, mK_sO, mL_sO, mF_sO, mB_sO, mA_sO, mJ_sO, mP_sO, mO_sO, up2, if_true, if_false, eq_self, ite_true, ite_false, reduceIte, Nat.add_left_cancel_iff, Nat.add_eq_left, Nat.left_eq_add, Nat.reduceEqDiff]; done)) ?_ | refine e_iald 23 rfl dX10_pick_22 (by assumption) (by assumption) (by first | rfl | simp only [pk_mul, nI_add]) (by omega) (by omega) ?_
  refine e_is3 24 rfl dX10_pick_23 (by decide) rfl ?_
  refine e_il2 25 rfl dX10_pick_24 ?_
  first | refine e_if_eqB 37 28 (by decide) rfl dX10_pick_25 rfl (fun y2 => ?_) (fun y2 => ?_) | refine e_if_eqN 37 28 (by decide) rfl dX10_pick_25 rfl (by omega) (fun y2 => ?_) (fun y2 => ?_) | refine e_if_eq 37 28 (by decide) rfl dX10_pick_25 (fun y2 => ?_) (fun y2 => ?_)
  · have e := b8 y2
    refine e_al0 38 rfl dX10_pick_37 ?_
    refine e_getR 41 rfl dX10_pick_38 f_X10_44 (by assumption) (by assumption) ?_
    refine e_il3 42 rfl dX10_pick_41 ?_
    first | refine e_ialdv 43 rfl dX10_pick_42 (by assumption) (by assumption) (by first | rfl | simp only [pk_mul, nI_add]) (by omega) (by omega) (by first | assumption | (simp only [mN_sF, mK_sF, mL_sF, mF_sF, mB_sF, mA_sF, mJ_sF, mP_sF, mO_sF, mN_sB, mK_sB, mL_sB, mF_sB, mB_sB, mA_sB, mJ_sB, mP_sB, mO_sB, mN_sA, mK_sA, mL_sA, mF_sA, mB_sA, mA_sA, mJ_sA, mP_sA, mO_sA, mN_sJ, mK_sJ, mL_sJ, mF_sJ, mB_sJ, mA_sJ, mJ_sJ, mP_sJ, mO_sJ, mN_sP, mK_sP, mL_sP, mF_sP, mB_sP, mA_sP, mJ_sP, mP_sP, mO_sP, mN_sO, mK_sO, mL_sO, mF_sO, mB_sO, mA_sO, mJ_sO, mP_sO, mO_sO, up2, if_true, if_false, eq_self, ite_true, ite_false, reduceIte, Nat.add_left_cancel_iff, Nat.add_eq_left, Nat.left_eq_add, Nat.reduceEqDiff]; assumption) | (simp only [mN_sF, mK_sF, mL_sF, mF_sF, mB_sF, mA_sF, mJ_sF, mP_sF, mO_sF, mN_sB, mK_sB, mL_sB, mF_sB, mB_sB, mA_sB, mJ_sB, mP_sB, mO_sB, mN_sA, mK_sA, mL_sA, mF_sA, mB_sA, mA_sA, mJ_sA, mP_sA, mO_sA, mN_sJ, mK_sJ, mL_sJ, mF_sJ, mB_sJ, mA_sJ, mJ_sJ, mP_sJ, mO_sJ, mN_sP, mK_sP, mL_sP, mF_sP, mB_sP, mA_sP, mJ_sP, mP_sP, mO_sP, mN_sO, mK_sO, mL_sO, mF_sO, mB_sO, mA_sO, mJ_sO, mP_sO, mO_sO, up2, if_true, if_false, eq_self, ite_true, ite_false, reduceIte, Nat.add_left_cancel_iff, Nat.add_eq_left, Nat.left_eq_add, Nat.reduceEqDiff]; done)) ?_ | refine e_iald 43 rfl dX10_pick_42 (by assumption) (by assumption) (by first | rfl | simp only [pk_mul, nI_add]) (by omega) (by omega) ?_
    refine e_is4 45 rfl dX10_pick_43 (by decide) rfl ?_
    refine e_iconst (nI 0) 46 rfl dX10_pick_45 ic_0 ?_
    refine e_is5 48 rfl dX10_pick_46 (by decide) rfl ?_
    exact outer lt.length 0 (by omega) _ _ μ1 rfl rfl start
  · have e := b7 y2
    refine e_al0 29 rfl dX10_pick_28 ?_
    refine e_getR 32 rfl dX10_pick_29 f_X10_38 (by assumption) (by assumption) ?_
    refine e_il3 33 rfl dX10_pick_32 ?_
    first | refine e_ialdv 34 rfl dX10_pick_33 (by assumption) (by assumption) (by first | rfl | simp only [pk_mul, nI_add]) (by omega) (by omega) (by first | assumption | (simp only [mN_sF, mK_sF, mL_sF, mF_sF, mB_sF, mA_sF, mJ_sF, mP_sF, mO_sF, mN_sB, mK_sB, mL_sB, mF_sB, mB_sB, mA_sB, mJ_sB, mP_sB, mO_sB, mN_sA, mK_sA, mL_sA, mF_sA, mB_sA, mA_sA, mJ_sA, mP_sA, mO_sA, mN_sJ, mK_sJ, mL_sJ, mF_sJ, mB_sJ, mA_sJ, mJ_sJ, mP_sJ, mO_sJ, mN_sP, mK_sP, mL_sP, mF_sP, mB_sP, mA_sP, mJ_sP, mP_sP, mO_sP, mN_sO, mK_sO, mL_sO, mF_sO, mB_sO, mA_sO, mJ_sO, mP_sO, mO_sO, up2, if_true, if_false, eq_self, ite_true, ite_false, reduceIte, Nat.add_left_cancel_iff, Nat.add_eq_left, Nat.left_eq_add, Nat.reduceEqDiff]; assumption) | (simp only [mN_sF, mK_sF, mL_sF, mF_sF, mB_sF, mA_sF, mJ_sF, mP_sF, mO_sF, mN_sB, mK_sB, mL_sB, mF_sB, mB_sB, mA_sB, mJ_sB, mP_sB, mO_sB, mN_sA, mK_sA, mL_sA, mF_sA, mB_sA, mA_sA, mJ_sA, mP_sA, mO_sA, mN_sJ, mK_sJ, mL_sJ, mF_sJ, mB_sJ, mA_sJ, mJ_sJ, mP_sJ, mO_sJ, mN_sP, mK_sP, mL_sP, mF_sP, mB_sP, mA_sP, mJ_sP, mP_sP, mO_sP, mN_sO, mK_sO, mL_sO, mF_sO, mB_sO, mA_sO, mJ_sO, mP_sO, mO_sO, up2, if_true, if_false, eq_self, ite_true, ite_false, reduceIte, Nat.add_left_cancel_iff, Nat.add_eq_left, Nat.left_eq_add, Nat.reduceEqDiff]; done)) ?_ | refine e_iald 34 rfl dX10_pick_33 (by assumption) (by assumption) (by first | rfl | simp only [pk_mul, nI_add]) (by omega) (by omega) ?_
    refine e_goto 43 (by decide) dX10_pick_34 ?_
    refine e_is4 45 rfl dX10_pick_43 (by decide) rfl ?_
    refine e_iconst (nI 0) 46 rfl dX10_pick_45 ic_0 ?_
    refine e_is5 48 rfl dX10_pick_46 (by decide) rfl ?_
    exact outer lt.length 0 (by omega) _ _ μ1 rfl rfl start
end MFIRST
