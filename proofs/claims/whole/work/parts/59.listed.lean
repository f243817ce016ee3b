/-! NameDesk$Reader: listRows, and what is asked of the rows -/
section LISTED
variable {E : En} {μ : Mm} {K : Option Value → Mm → Prop}
def iN (x : Int32) : Option Nat := if 0 ≤ x then some x.toInt.toNat else none
theorem iN_cases (x : Int32) : (x < 0 ∧ iN x = none) ∨ ∃ i, i < 2 ^ 31 ∧ x = nI i ∧ iN x = some i := by
  by_cases h : 0 ≤ x
  · right
    have h1 : 0 ≤ x.toInt := by have := Int32.le_iff_toInt_le.mp h; simpa using this
    have h2 : x.toInt < 2 ^ 31 := x.toInt_lt
    refine ⟨x.toInt.toNat, by omega, ?_, by unfold iN; rw [if_pos h]⟩
    apply Int32.toInt_inj.mp
    rw [nI_toInt (by omega)]
    omega
  · left
    refine ⟨?_, by unfold iN; rw [if_neg h]⟩
    exact Int32.not_le.mp h
theorem iN_nI {i : Nat} (h : i < 2 ^ 31) : iN (nI i) = some i := by unfold iN; rw [if_pos (nI_pos' h), nI_toInt h]; rfl
/-- what listRows lays, for n words -/
def Lst (μ : Mm) (r n : Nat) (T : List Rw) : Prop := Rg μ r ∧ mF μ r 1 = nI n ∧ n ≤ 8 ∧ (∀ x ∈ T, eOK x) ∧ T.length ≤ 6435 ∧ mF μ r 6 = nI T.length ∧ (∀ c, c ≤ 40 → mA μ (r + 30) c = nI (cL T (c + 1))) ∧ ∃ ra sa, Rp μ r ra sa ∧ HJ (mJ μ ra) (SRr T 41)
theorem eOK_PR {sl : List Slot0} {C : Nat → Nat → Nat} {n fm w : Nat} (hn : sl.length ≤ 8) (hC : ∀ w k, C w k < 1000 → C w k ≤ 5) (ho : Om sl fm) (hw : w ≤ n) (h8 : n ≤ 8) : ∀ x ∈ PRr sl C n fm w, eOK x := fun x hx => by
  obtain ⟨a, b, c, _⟩ := PR_ok hn hC ho w hw x hx
  have : 8 ^ w ≤ 8 ^ 8 := Nat.pow_le_pow_right (by decide) (by omega)
  exact ⟨by omega, Nat.lt_of_lt_of_le b (Nat.le_trans this (by decide)), c.1⟩
theorem c_listRows {r s n fm ra sa : Nat} {sl : List Slot0} {en : List Nat} {C : Nat → Nat → Nat} (hr : Rst μ r s n sl C) (hs : Vs μ s fm sl en) (hCb : ∀ w k, C w k ≤ 5 ∨ C w k = 1000) (hp : Rp μ r ra sa) (d2 : s + 9 ≤ r ∨ r + 31 ≤ s)
    (k : ∀ μ', Fx (soS r) μ μ' → (∀ f, f ≠ 4 → f ≠ 5 → mP μ' r f = mP μ r f) → Lst μ' r n (PRr sl C n fm n) → K none μ') : Cl E M_X3_listRows [.ref r] μ K := by
  have hC5 : ∀ w k, C w k < 1000 → C w k ≤ 5 := fun w k h => by rcases hCb w k with q | q <;> omega
  have hs8 := hs.2.1.2.1
  have h7 := hs.2.1.h7
  have hom := hs.2.2.2.1
  have hn8 := hr.2.2.2.1
  have hfm5 := hom.1
  have Sr : soS r r := Or.inl rfl
  have nS10 : ∀ q, r + 10 ≤ q → q < r + 28 → ¬ soS r q := fun q a b => by unfold soS; omega
  have nSs : ∀ q, s ≤ q → q ≤ s + 8 → ¬ soS r q := fun q a b => by unfold soS; omega
  have loop : ∀ (fu w : Nat), w + fu = n → ∀ μ1 ra sa, Fx (soS r) μ μ1 → (∀ f, f ≠ 4 → f ≠ 5 → mP μ1 r f = mP μ r f) → Rst μ1 r s n sl C → Rp μ1 r ra sa → mF μ1 r 6 = nI (PRr sl C n fm w).length → HJ (mJ μ1 ra) (PRr sl C n fm w) → Ev E M_X3_listRows 0 0 44 [some (.ref r), some (.int (nI w))] [] μ1 K := by
    intro fu
    induction fu with
    | zero =>
      intro w hw μ1 ra sa hF hP hR1 hp1 h6 hH
      have ew : w = n := by omega
      subst ew
      have rk := hR1.1.1.1
      have rn := hR1.2.2.1
      refine e_il1 45 rfl dX3_listRows_44 ?_
      refine e_al0 46 rfl dX3_listRows_45 ?_
      first | refine e_getIv 49 rfl dX3_listRows_46 f_X3_18 (by assumption) (by first | assumption | (simp only [mN_sF, mK_sF, mL_sF, mF_sF, mB_sF, mA_sF, mJ_sF, mP_sF, mO_sF, mN_sB, mK_sB, mL_sB, mF_sB, mB_sB, mA_sB, mJ_sB, mP_sB, mO_sB, mN_sA, mK_sA, mL_sA, mF_sA, mB_sA, mA_sA, mJ_sA, mP_sA, mO_sA, mN_sJ, mK_sJ, mL_sJ, mF_sJ, mB_sJ, mA_sJ, mJ_sJ, mP_sJ, mO_sJ, mN_sP, mK_sP, mL_sP, mF_sP, mB_sP, mA_sP, mJ_sP, mP_sP, mO_sP, mN_sO, mK_sO, mL_sO, mF_sO, mB_sO, mA_sO, mJ_sO, mP_sO, mO_sO, up2, if_true, if_false, eq_self, ite_true, ite_false, reduceIte, Nat.add_left_cancel_iff, Nat.add_eq_left, Nat.left_eq_add, Nat.reduceEqDiff]; assumption) | (simp only [mN_sF, mK_sF, mL_sF, mF_sF, mB_sF, mA_sF, mJ_sF, mP_sF, mO_sF, mN_sB, mK_sB, mL_sB, mF_sB, mB_sB, mA_sB, mJ_sB, mP_sB, mO_sB, mN_sA, mK_sA, mL_sA, mF_sA, mB_sA, mA_sA, mJ_sA, mP_sA, mO_sA, mN_sJ, mK_sJ, mL_sJ, mF_sJ, mB_sJ, mA_sJ, mJ_sJ, mP_sJ, mO_sJ, mN_sP, mK_sP, mL_sP, mF_sP, mB_sP, mA_sP, mJ_sP, mP_sP, mO_sP, mN_sO, mK_sO, mL_sO, mF_sO, mB_sO, mA_sO, mJ_sO, mP_sO, mO_sO, up2, if_true, if_false, eq_self, ite_true, ite_false, reduceIte, Nat.add_left_cancel_iff, Nat.add_eq_left, Nat.left_eq_add, Nat.reduceEqDiff]; done)) ?_ | refine e_getI 49 rfl dX3_listRows_46 f_X3_18 (by assumption) ?_
      first | refine e_cmp_geN 63 52 (by decide) rfl dX3_listRows_49 rfl rfl (by omega) (by omega) (fun y1 => ?_) (fun y1 => ?_) | refine e_cmp_ge 63 52 (by decide) rfl dX3_listRows_49 (fun y1 => ?_) (fun y1 => ?_)
      rotate_left
      · omega
      refine e_al0 64 rfl dX3_listRows_63 ?_
      refine e_invV0 [] 67 rfl dX3_listRows_64 k_X3_104 mo_X3_sortByCost rm_X3_listRows_X3_sortByCost ⟨rfl, rfl⟩ rfl rfl (by assumption) (Nat.le_of_ble_eq_true rfl) ?_
      refine c_sortByCost hR1.1 hp1 hH h6 (PR_len hs8 hC5 hom (Nat.le_refl _) hn8) (eOK_PR hs8 hC5 hom (Nat.le_refl _) hn8) (fun μ2 hF2 hp2 hf2 hP2 hH2 hu2 => ?_)
      refine e_ret dX3_listRows_67 rfl ?_
      have hR2 := hR1.fx hF2 nS10 hP2 (hf2 1)
      refine k μ2 (hF.trans hF2) (fun f a b => (hP2 f a b).trans (hP f a b)) ⟨hR2.1, hR2.2.2.1, hn8, eOK_PR hs8 hC5 hom (Nat.le_refl _) hn8, PR_len hs8 hC5 hom (Nat.le_refl _) hn8, by rw [hf2]; exact h6, hu2, sa, ra, hp2, hH2⟩
    | succ fu ih =>
      intro w hw μ1 ra sa hF hP hR1 hp1 h6 hH
      have rk := hR1.1.1.1
      have rn := hR1.2.2.1
      refine e_il1 45 rfl dX3_listRows_44 ?_
      refine e_al0 46 rfl dX3_listRows_45 ?_
      first | refine e_getIv 49 rfl dX3_listRows_46 f_X3_18 (by assumption) (by first | assumption | (simp only [mN_sF, mK_sF, mL_sF, mF_sF, mB_sF, mA_sF, mJ_sF, mP_sF, mO_sF, mN_sB, mK_sB, mL_sB, mF_sB, mB_sB, mA_sB, mJ_sB, mP_sB, mO_sB, mN_sA, mK_sA, mL_sA, mF_sA, mB_sA, mA_sA, mJ_sA, mP_sA, mO_sA, mN_sJ, mK_sJ, mL_sJ, mF_sJ, mB_sJ, mA_sJ, mJ_sJ, mP_sJ, mO_sJ, mN_sP, mK_sP, mL_sP, mF_sP, mB_sP, mA_sP, mJ_sP, mP_sP, mO_sP, mN_sO, mK_sO, mL_sO, mF_sO, mB_sO, mA_sO, mJ_sO, mP_sO, mO_sO, up2, if_true, if_false, eq_self, ite_true, ite_false, reduceIte, Nat.add_left_cancel_iff, Nat.add_eq_left, Nat.left_eq_add, Nat.reduceEqDiff]; assumption) | (simp only [mN_sF, mK_sF, mL_sF, mF_sF, mB_sF, mA_sF, mJ_sF, mP_sF, mO_sF, mN_sB, mK_sB, mL_sB, mF_sB, mB_sB, mA_sB, mJ_sB, mP_sB, mO_sB, mN_sA, mK_sA, mL_sA, mF_sA, mB_sA, mA_sA, mJ_sA, mP_sA, mO_sA, mN_sJ, mK_sJ, mL_sJ, mF_sJ, mB_sJ, mA_sJ, mJ_sJ, mP_sJ, mO_sJ, mN_sP, mK_sP, mL_sP, mF_sP, mB_sP, mA_sP, mJ_sP, mP_sP, mO_sP, mN_sO, mK_sO, mL_sO, mF_sO, mB_sO, mA_sO, mJ_sO, mP_sO, mO_sO, up2, if_true, if_false, eq_self, ite_true, ite_false, reduceIte, Nat.add_left_cancel_iff, Nat.add_eq_left, Nat.left_eq_add, Nat.reduceEqDiff]; done)) ?_ | refine e_getI 49 rfl dX3_listRows_46 f_X3_18 (by assumption) ?_
      first | refine e_cmp_geN 63 52 (by decide) rfl dX3_listRows_49 rfl rfl (by omega) (by omega) (fun y1 => ?_) (fun y1 => ?_) | refine e_cmp_ge 63 52 (by decide) rfl dX3_listRows_49 (fun y1 => ?_) (fun y1 => ?_)
      · omega
      refine e_al0 53 rfl dX3_listRows_52 ?_
      refine e_il1 54 rfl dX3_listRows_53 ?_
      refine e_invV0 [_] 57 rfl dX3_listRows_54 k_X3_100 mo_X3_lengthenRows rm_X3_listRows_X3_lengthenRows ⟨rfl, rfl⟩ rfl rfl (by assumption) (Nat.le_of_ble_eq_true rfl) ?_
      refine c_lengthenRows hR1 (hs.fx hF nSs) hCb hp1 (by omega) hH h6 (PR_len hs8 hC5 hom (by omega) (by omega)) (fun x hx => by
        obtain ⟨a, b, c, _⟩ := PR_ok hs8 hC5 hom w (by omega) x hx
        exact ⟨a, b, c⟩) (by rw [← PRr_s]; exact PR_len hs8 hC5 hom (by omega) (by omega)) d2 (fun μ2 hF2 hR2 hp2 hf2 hP2 h62 hH2 => ?_)
      rw [← PRr_s] at h62 hH2
      refine e_ii1 (nI (_ + 1)) 60 rfl dX3_listRows_57 (ii1 _) rfl ?_
      refine e_goto 44 (by decide) dX3_listRows_60 ?_
      exact ih (w + 1) (by omega) μ2 _ _ (hF.trans (hF2.mono (fun q h => by unfold soS; omega))) (fun f a b => (hP2 f a b).trans (hP f a b)) hR2 hp2 h62 hH2
  have hF0 : Fx (soS r) μ (sF μ r 6 (nI 0)) := Fx.rf.sF Sr _ _
  have hR0 := hr.fx hF0 nS10 (fun f _ _ => rfl) (by show up2 _ r 6 _ r 1 = _; rw [up2_k (by decide)])
  have hs0 := hs.fx hF0 nSs
  obtain ⟨a1, a2, a3, a4, a5, a6⟩ := id hR0
  have rk := hr.1.1.1
  have rk0 := a1.1.1
  have sk0 := hs0.1.1.1
  have fm0 := hs0.2.2.1
  have hgeo := hp.2.2
  obtain ⟨p4, p5, _⟩ := id hp
  obtain ⟨⟨gk, g2, g3, g7, k10, l10, k19, l19, k28, l28, k29, l29, k30, l30⟩, gw⟩ := id a1
  have hrk : mK (sF μ r 6 (nI 0)) ra = 14 := by rcases hgeo with q | q <;> rw [q.1] <;> assumption
  have hrl : mL (sF μ r 6 (nI 0)) ra = 6435 := by rcases hgeo with q | q <;> rw [q.1] <;> assumption
  have q4 : mP (sF μ r 6 (nI 0)) r 4 = some ra := p4
  refine Cl.of0 1 pn_X3 (Nat.le_of_ble_eq_true rfl) ⟨rfl, rfl⟩ rfl ?_
  refine e_al0 1 rfl dX3_listRows_0 ?_
  refine e_iconst (nI 0) 2 rfl dX3_listRows_1 ic_0 ?_
  refine e_putI 5 rfl dX3_listRows_2 f_X3_37 (by assumption) ?_
  refine e_al0 6 rfl dX3_listRows_5 ?_
  refine e_iconst (nI 0) 7 rfl dX3_listRows_6 ic_0 ?_
  refine e_al0 8 rfl dX3_listRows_7 ?_
  refine e_getR 11 rfl dX3_listRows_8 f_X3_12 (by assumption) (by assumption) ?_
  first | refine e_getIv 14 rfl dX3_listRows_11 f_X3_94 (by assumption) (by first | assumption | (simp only [mN_sF, mK_sF, mL_sF, mF_sF, mB_sF, mA_sF, mJ_sF, mP_sF, mO_sF, mN_sB, mK_sB, mL_sB, mF_sB, mB_sB, mA_sB, mJ_sB, mP_sB, mO_sB, mN_sA, mK_sA, mL_sA, mF_sA, mB_sA, mA_sA, mJ_sA, mP_sA, mO_sA, mN_sJ, mK_sJ, mL_sJ, mF_sJ, mB_sJ, mA_sJ, mJ_sJ, mP_sJ, mO_sJ, mN_sP, mK_sP, mL_sP, mF_sP, mB_sP, mA_sP, mJ_sP, mP_sP, mO_sP, mN_sO, mK_sO, mL_sO, mF_sO, mB_sO, mA_sO, mJ_sO, mP_sO, mO_sO, up2, if_true, if_false, eq_self, ite_true, ite_false, reduceIte, Nat.add_left_cancel_iff, Nat.add_eq_left, Nat.left_eq_add, Nat.reduceEqDiff]; assumption) | (simp only [mN_sF, mK_sF, mL_sF, mF_sF, mB_sF, mA_sF, mJ_sF, mP_sF, mO_sF, mN_sB, mK_sB, mL_sB, mF_sB, mB_sB, mA_sB, mJ_sB, mP_sB, mO_sB, mN_sA, mK_sA, mL_sA, mF_sA, mB_sA, mA_sA, mJ_sA, mP_sA, mO_sA, mN_sJ, mK_sJ, mL_sJ, mF_sJ, mB_sJ, mA_sJ, mJ_sJ, mP_sJ, mO_sJ, mN_sP, mK_sP, mL_sP, mF_sP, mB_sP, mA_sP, mJ_sP, mP_sP, mO_sP, mN_sO, mK_sO, mL_sO, mF_sO, mB_sO, mA_sO, mJ_sO, mP_sO, mO_sO, up2, if_true, if_false, eq_self, ite_true, ite_false, reduceIte, Nat.add_left_cancel_iff, Nat.add_eq_left, Nat.left_eq_add, Nat.reduceEqDiff]; done)) ?_ | refine e_getI 14 rfl dX3_listRows_11 f_X3_94 (by assumption) ?_
  refine e_invV0 [_, _] 17 rfl dX3_listRows_14 k_X3_73 mo_X3_leastFrom rm_X3_listRows_X3_leastFrom ⟨rfl, rfl⟩ rfl rfl (by assumption) (Nat.le_of_ble_eq_true rfl) ?_
  refine c_leastFrom (C := C) a1 a3 hn8 (Nat.zero_le _) hs8 h7 hom (fun q => a6 0 q) (fun t ht => ?_)
  rw [Nat.sub_zero] at ht
  have htl := ht.le
  refine e_sipush (nI 1000) 20 rfl dX3_listRows_17 sc_1000 ?_
  first | refine e_cmp_geN 42 23 (by decide) rfl dX3_listRows_20 rfl rfl (by omega) (by omega) (fun y1 => ?_) (fun y1 => ?_) | refine e_cmp_ge 42 23 (by decide) rfl dX3_listRows_20 (fun y1 => ?_) (fun y1 => ?_)
  · refine e_iconst (nI 0) 43 rfl dX3_listRows_42 ic_0 ?_
    refine e_is1 44 rfl dX3_listRows_43 (by decide) rfl ?_
    have e : PRr sl C n fm 0 = [] := ifP_f (fun q => by have := ht.lt.mpr q; omega)
    exact loop n 0 (by omega) _ ra sa hF0 (fun f _ _ => rfl) hR0 ⟨p4, p5, hgeo⟩ (by simp only [mN_sF, mK_sF, mL_sF, mF_sF, mB_sF, mA_sF, mJ_sF, mP_sF, mO_sF, mN_sB, mK_sB, mL_sB, mF_sB, mB_sB, mA_sB, mJ_sB, mP_sB, mO_sB, mN_sA, mK_sA, mL_sA, mF_sA, mB_sA, mA_sA, mJ_sA, mP_sA, mO_sA, mN_sJ, mK_sJ, mL_sJ, mF_sJ, mB_sJ, mA_sJ, mJ_sJ, mP_sJ, mO_sJ, mN_sP, mK_sP, mL_sP, mF_sP, mB_sP, mA_sP, mJ_sP, mP_sP, mO_sP, mN_sO, mK_sO, mL_sO, mF_sO, mB_sO, mA_sO, mJ_sO, mP_sO, mO_sO, up2, if_true, if_false, eq_self, ite_true, ite_false, reduceIte, Nat.add_left_cancel_iff, Nat.add_eq_left, Nat.left_eq_add, Nat.reduceEqDiff]; rw [e]; rfl) (by rw [e]; intro i x h; simp at h)
  · have e : PRr sl C n fm 0 = [(0, 0, fm)] := ifP_t (ht.lt.mp y1)
    have rk1 : mK (sJ (sF μ r 6 (nI 0)) ra 0 (nL fm)) r = 4 := rk0
    refine e_al0 24 rfl dX3_listRows_23 ?_
    refine e_getR 27 rfl dX3_listRows_24 f_X3_30 (by assumption) (by assumption) ?_
    refine e_iconst (nI 0) 28 rfl dX3_listRows_27 ic_0 ?_
    refine e_al0 29 rfl dX3_listRows_28 ?_
    refine e_getR 32 rfl dX3_listRows_29 f_X3_12 (by assumption) (by assumption) ?_
    first | refine e_getIv 35 rfl dX3_listRows_32 f_X3_94 (by assumption) (by first | assumption | (simp only [mN_sF, mK_sF, mL_sF, mF_sF, mB_sF, mA_sF, mJ_sF, mP_sF, mO_sF, mN_sB, mK_sB, mL_sB, mF_sB, mB_sB, mA_sB, mJ_sB, mP_sB, mO_sB, mN_sA, mK_sA, mL_sA, mF_sA, mB_sA, mA_sA, mJ_sA, mP_sA, mO_sA, mN_sJ, mK_sJ, mL_sJ, mF_sJ, mB_sJ, mA_sJ, mJ_sJ, mP_sJ, mO_sJ, mN_sP, mK_sP, mL_sP, mF_sP, mB_sP, mA_sP, mJ_sP, mP_sP, mO_sP, mN_sO, mK_sO, mL_sO, mF_sO, mB_sO, mA_sO, mJ_sO, mP_sO, mO_sO, up2, if_true, if_false, eq_self, ite_true, ite_false, reduceIte, Nat.add_left_cancel_iff, Nat.add_eq_left, Nat.left_eq_add, Nat.reduceEqDiff]; assumption) | (simp only [mN_sF, mK_sF, mL_sF, mF_sF, mB_sF, mA_sF, mJ_sF, mP_sF, mO_sF, mN_sB, mK_sB, mL_sB, mF_sB, mB_sB, mA_sB, mJ_sB, mP_sB, mO_sB, mN_sA, mK_sA, mL_sA, mF_sA, mB_sA, mA_sA, mJ_sA, mP_sA, mO_sA, mN_sJ, mK_sJ, mL_sJ, mF_sJ, mB_sJ, mA_sJ, mJ_sJ, mP_sJ, mO_sJ, mN_sP, mK_sP, mL_sP, mF_sP, mB_sP, mA_sP, mJ_sP, mP_sP, mO_sP, mN_sO, mK_sO, mL_sO, mF_sO, mB_sO, mA_sO, mJ_sO, mP_sO, mO_sO, up2, if_true, if_false, eq_self, ite_true, ite_false, reduceIte, Nat.add_left_cancel_iff, Nat.add_eq_left, Nat.left_eq_add, Nat.reduceEqDiff]; done)) ?_ | refine e_getI 35 rfl dX3_listRows_32 f_X3_94 (by assumption) ?_
    refine e_i2lN 36 rfl dX3_listRows_35 rfl (by omega) ?_
    refine e_last 37 rfl dX3_listRows_36 (by assumption) (by assumption) (by first | rfl | simp only [pk_mul, nI_add]) (by omega) (by omega) ?_
    refine e_al0 38 rfl dX3_listRows_37 ?_
    refine e_iconst (nI 1) 39 rfl dX3_listRows_38 ic_1 ?_
    refine e_putI 42 rfl dX3_listRows_39 f_X3_37 (by assumption) ?_
    refine e_iconst (nI 0) 43 rfl dX3_listRows_42 ic_0 ?_
    refine e_is1 44 rfl dX3_listRows_43 (by decide) rfl ?_
    have Sra : soS r ra := by unfold soS; omega
    have hF1 : Fx (soS r) μ (sF (sJ (sF μ r 6 (nI 0)) ra 0 (nL fm)) r 6 (nI 1)) := (hF0.trans (Fr.rf.sJ Sra 0 (nL fm)).fx).sF Sr _ _
    refine loop n 0 (by omega) _ ra sa hF1 (fun f _ _ => rfl) (hr.fx hF1 nS10 (fun f _ _ => rfl) (by simp only [mN_sF, mK_sF, mL_sF, mF_sF, mB_sF, mA_sF, mJ_sF, mP_sF, mO_sF, mN_sB, mK_sB, mL_sB, mF_sB, mB_sB, mA_sB, mJ_sB, mP_sB, mO_sB, mN_sA, mK_sA, mL_sA, mF_sA, mB_sA, mA_sA, mJ_sA, mP_sA, mO_sA, mN_sJ, mK_sJ, mL_sJ, mF_sJ, mB_sJ, mA_sJ, mJ_sJ, mP_sJ, mO_sJ, mN_sP, mK_sP, mL_sP, mF_sP, mB_sP, mA_sP, mJ_sP, mP_sP, mO_sP, mN_sO, mK_sO, mL_sO, mF_sO, mB_sO, mA_sO, mJ_sO, mP_sO, mO_sO, up2, if_true, if_false, eq_self, ite_true, ite_false, reduceIte, Nat.add_left_cancel_iff, Nat.add_eq_left, Nat.left_eq_add, Nat.reduceEqDiff])) ⟨p4, p5, hgeo⟩ (by simp only [mN_sF, mK_sF, mL_sF, mF_sF, mB_sF, mA_sF, mJ_sF, mP_sF, mO_sF, mN_sB, mK_sB, mL_sB, mF_sB, mB_sB, mA_sB, mJ_sB, mP_sB, mO_sB, mN_sA, mK_sA, mL_sA, mF_sA, mB_sA, mA_sA, mJ_sA, mP_sA, mO_sA, mN_sJ, mK_sJ, mL_sJ, mF_sJ, mB_sJ, mA_sJ, mJ_sJ, mP_sJ, mO_sJ, mN_sP, mK_sP, mL_sP, mF_sP, mB_sP, mA_sP, mJ_sP, mP_sP, mO_sP, mN_sO, mK_sO, mL_sO, mF_sO, mB_sO, mA_sO, mJ_sO, mP_sO, mO_sO, up2, if_true, if_false, eq_self, ite_true, ite_false, reduceIte, Nat.add_left_cancel_iff, Nat.add_eq_left, Nat.left_eq_add, Nat.reduceEqDiff]; rw [e]; rfl) ?_
    rw [e]
    intro i x h
    cases i with
    | zero =>
      simp at h
      subst h
      simp only [mN_sF, mK_sF, mL_sF, mF_sF, mB_sF, mA_sF, mJ_sF, mP_sF, mO_sF, mN_sB, mK_sB, mL_sB, mF_sB, mB_sB, mA_sB, mJ_sB, mP_sB, mO_sB, mN_sA, mK_sA, mL_sA, mF_sA, mB_sA, mA_sA, mJ_sA, mP_sA, mO_sA, mN_sJ, mK_sJ, mL_sJ, mF_sJ, mB_sJ, mA_sJ, mJ_sJ, mP_sJ, mO_sJ, mN_sP, mK_sP, mL_sP, mF_sP, mB_sP, mA_sP, mJ_sP, mP_sP, mO_sP, mN_sO, mK_sO, mL_sO, mF_sO, mB_sO, mA_sO, mJ_sO, mP_sO, mO_sO, up2, if_true, if_false, eq_self, ite_true, ite_false, reduceIte, Nat.add_left_cancel_iff, Nat.add_eq_left, Nat.left_eq_add, Nat.reduceEqDiff]
      show nL fm = nL (enc (0, 0, fm))
      unfold enc; simp
    | succ i => simp at h
theorem Lst.fx {S : Nat → Prop} {μ' : Mm} {r n : Nat} {T : List Rw} (h : Lst μ r n T) (f : Fx S μ μ') (hS : ∀ q, r ≤ q → q < r + 31 → ¬ S q) : Lst μ' r n T := by
  obtain ⟨⟨hg, gw⟩, h1, h2, h3, h4, h5, h6, ra, sa, h7, h8⟩ := h
  have o10 := (f.2.2.2 (r + 10) (hS _ (by omega) (by omega))).2.2.2.2.2
  have o19 := (f.2.2.2 (r + 19) (hS _ (by omega) (by omega))).2.2.2.2.2
  have f0 := f.2.2.2 r (hS _ (by omega) (by omega))
  have f30 := f.2.2.2 (r + 30) (hS _ (by omega) (by omega))
  have hra : r ≤ ra ∧ ra < r + 31 := by have := h7.2.2; omega
  refine ⟨⟨by rw [f.2.1, f.2.2.1, f0.2.2.2.2.1]; exact hg, fun w hw => by rw [o10, o19, f.2.1, f.2.2.1]; exact gw w hw⟩, by rw [f0.1]; exact h1, h2, h3, h4, by rw [f0.1]; exact h5, fun c hc => by rw [f30.2.2.1]; exact h6 c hc, ra, sa, by unfold Rp; rw [f0.2.2.2.2.1]; exact h7, by rw [(f.2.2.2 ra (hS _ hra.1 hra.2)).2.2.2.1]; exact h8⟩
theorem c_rowsUpTo {r n a : Nat} {T : List Rw} (h : Lst μ r n T) (ha : a < 2 ^ 31) (k : K (some (.int (nI (cL T (a + 1))))) μ) : Cl E M_X3_rowsUpTo [.ref r, .int (nI a)] μ K := by
  obtain ⟨⟨⟨gk, g2, g3, g7, k10, l10, k19, l19, k28, l28, k29, l29, k30, l30⟩, gw⟩, h1, h2, h3, h4, h5, h6, ra, sa, h7, h8⟩ := h
  have hv := h6 (max 0 (min a 40)) (by omega)
  refine Cl.of0 0 pn_X3 (Nat.le_of_ble_eq_true rfl) ⟨rfl, rfl⟩ rfl ?_
  refine e_al0 1 rfl dX3_rowsUpTo_0 ?_
  refine e_getR 4 rfl dX3_rowsUpTo_1 f_X3_40 (by assumption) (by assumption) ?_
  refine e_iconst (nI 0) 5 rfl dX3_rowsUpTo_4 ic_0 ?_
  refine e_il1 6 rfl dX3_rowsUpTo_5 ?_
  refine e_bipush (nI 40) 8 rfl dX3_rowsUpTo_6 bc_40 ?_
  first | refine e_minN 11 rfl dX3_rowsUpTo_8 k_X3_47 (Nat.le_of_ble_eq_true rfl) (Nat.le_of_ble_eq_true rfl) rfl rfl (by omega) (by omega) ?_ | refine e_min 11 rfl dX3_rowsUpTo_8 k_X3_47 (Nat.le_of_ble_eq_true rfl) (Nat.le_of_ble_eq_true rfl) ?_
  first | refine e_maxN 14 rfl dX3_rowsUpTo_11 k_X3_116 (Nat.le_of_ble_eq_true rfl) (Nat.le_of_ble_eq_true rfl) rfl rfl (by omega) (by omega) ?_ | refine e_max 14 rfl dX3_rowsUpTo_11 k_X3_116 (Nat.le_of_ble_eq_true rfl) (Nat.le_of_ble_eq_true rfl) ?_
  first | refine e_ialdv 15 rfl dX3_rowsUpTo_14 (by assumption) (by assumption) (by first | rfl | simp only [pk_mul, nI_add]) (by omega) (by omega) (by first | assumption | (simp only [mN_sF, mK_sF, mL_sF, mF_sF, mB_sF, mA_sF, mJ_sF, mP_sF, mO_sF, mN_sB, mK_sB, mL_sB, mF_sB, mB_sB, mA_sB, mJ_sB, mP_sB, mO_sB, mN_sA, mK_sA, mL_sA, mF_sA, mB_sA, mA_sA, mJ_sA, mP_sA, mO_sA, mN_sJ, mK_sJ, mL_sJ, mF_sJ, mB_sJ, mA_sJ, mJ_sJ, mP_sJ, mO_sJ, mN_sP, mK_sP, mL_sP, mF_sP, mB_sP, mA_sP, mJ_sP, mP_sP, mO_sP, mN_sO, mK_sO, mL_sO, mF_sO, mB_sO, mA_sO, mJ_sO, mP_sO, mO_sO, up2, if_true, if_false, eq_self, ite_true, ite_false, reduceIte, Nat.add_left_cancel_iff, Nat.add_eq_left, Nat.left_eq_add, Nat.reduceEqDiff]; assumption) | (simp only [mN_sF, mK_sF, mL_sF, mF_sF, mB_sF, mA_sF, mJ_sF, mP_sF, mO_sF, mN_sB, mK_sB, mL_sB, mF_sB, mB_sB, mA_sB, mJ_sB, mP_sB, mO_sB, mN_sA, mK_sA, mL_sA, mF_sA, mB_sA, mA_sA, mJ_sA, mP_sA, mO_sA, mN_sJ, mK_sJ, mL_sJ, mF_sJ, mB_sJ, mA_sJ, mJ_sJ, mP_sJ, mO_sJ, mN_sP, mK_sP, mL_sP, mF_sP, mB_sP, mA_sP, mJ_sP, mP_sP, mO_sP, mN_sO, mK_sO, mL_sO, mF_sO, mB_sO, mA_sO, mJ_sO, mP_sO, mO_sO, up2, if_true, if_false, eq_self, ite_true, ite_false, reduceIte, Nat.add_left_cancel_iff, Nat.add_eq_left, Nat.left_eq_add, Nat.reduceEqDiff]; done)) ?_ | refine e_iald 15 rfl dX3_rowsUpTo_14 (by assumption) (by assumption) (by first | rfl | simp only [pk_mul, nI_add]) (by omega) (by omega) ?_
  refine e_iret dX3_rowsUpTo_15 rfl ?_
  have e : cL T (max 0 (min a 40) + 1) = cL T (a + 1) := by
    by_cases c : a ≤ 40
    · rw [show max 0 (min a 40) = a by omega]
    · rw [show max 0 (min a 40) = 40 by omega, cL_all (fun x hx => by have := (h3 x hx).1; omega), cL_all (fun x hx => by have := (h3 x hx).1; omega)]
  rw [e]; exact k
theorem c_isRow {r n : Nat} {x : Int32} {T : List Rw} (h : Lst μ r n T) (k : K (some (.int (bI ((iN x).any (fun i => decide (i < T.length)))))) μ) : Cl E M_X3_isRow [.ref r, .int x] μ K := by
  obtain ⟨⟨⟨gk, g2, g3, g7, k10, l10, k19, l19, k28, l28, k29, l29, k30, l30⟩, gw⟩, h1, h2, h3, h4, h5, h6, ra, sa, h7, h8⟩ := h
  rcases iN_cases x with ⟨hx, hi⟩ | ⟨i, hi, hx, hi2⟩
  · rw [hi] at k
    refine Cl.of0 0 pn_X3 (Nat.le_of_ble_eq_true rfl) ⟨rfl, rfl⟩ rfl ?_
    refine e_il1 1 rfl dX3_isRow_0 ?_
    refine e_if_lt 16 4 (by decide) rfl dX3_isRow_1 (fun y1 => ?_) (fun y1 => ?_)
    · refine e_iconst (nI 0) 17 rfl dX3_isRow_16 ic_0 ?_
      refine e_zret dX3_isRow_17 rfl (by first | exact z0 | exact z1 | exact bI01 _ | assumption) ?_
      exact k
    · exact absurd hx y1
  · subst hx
    rw [hi2] at k
    refine Cl.of0 0 pn_X3 (Nat.le_of_ble_eq_true rfl) ⟨rfl, rfl⟩ rfl ?_
    refine e_il1 1 rfl dX3_isRow_0 ?_
    first | refine e_if_ltN 16 4 (by decide) rfl dX3_isRow_1 rfl (by omega) ?_ | refine e_if_lt 16 4 (by decide) rfl dX3_isRow_1 (fun h => ?_) (fun h => ?_)
    refine e_il1 5 rfl dX3_isRow_4 ?_
    refine e_al0 6 rfl dX3_isRow_5 ?_
    first | refine e_getIv 9 rfl dX3_isRow_6 f_X3_37 (by assumption) (by first | assumption | (simp only [mN_sF, mK_sF, mL_sF, mF_sF, mB_sF, mA_sF, mJ_sF, mP_sF, mO_sF, mN_sB, mK_sB, mL_sB, mF_sB, mB_sB, mA_sB, mJ_sB, mP_sB, mO_sB, mN_sA, mK_sA, mL_sA, mF_sA, mB_sA, mA_sA, mJ_sA, mP_sA, mO_sA, mN_sJ, mK_sJ, mL_sJ, mF_sJ, mB_sJ, mA_sJ, mJ_sJ, mP_sJ, mO_sJ, mN_sP, mK_sP, mL_sP, mF_sP, mB_sP, mA_sP, mJ_sP, mP_sP, mO_sP, mN_sO, mK_sO, mL_sO, mF_sO, mB_sO, mA_sO, mJ_sO, mP_sO, mO_sO, up2, if_true, if_false, eq_self, ite_true, ite_false, reduceIte, Nat.add_left_cancel_iff, Nat.add_eq_left, Nat.left_eq_add, Nat.reduceEqDiff]; assumption) | (simp only [mN_sF, mK_sF, mL_sF, mF_sF, mB_sF, mA_sF, mJ_sF, mP_sF, mO_sF, mN_sB, mK_sB, mL_sB, mF_sB, mB_sB, mA_sB, mJ_sB, mP_sB, mO_sB, mN_sA, mK_sA, mL_sA, mF_sA, mB_sA, mA_sA, mJ_sA, mP_sA, mO_sA, mN_sJ, mK_sJ, mL_sJ, mF_sJ, mB_sJ, mA_sJ, mJ_sJ, mP_sJ, mO_sJ, mN_sP, mK_sP, mL_sP, mF_sP, mB_sP, mA_sP, mJ_sP, mP_sP, mO_sP, mN_sO, mK_sO, mL_sO, mF_sO, mB_sO, mA_sO, mJ_sO, mP_sO, mO_sO, up2, if_true, if_false, eq_self, ite_true, ite_false, reduceIte, Nat.add_left_cancel_iff, Nat.add_eq_left, Nat.left_eq_add, Nat.reduceEqDiff]; done)) ?_ | refine e_getI 9 rfl dX3_isRow_6 f_X3_37 (by assumption) ?_
    first | refine e_cmp_geN 16 12 (by decide) rfl dX3_isRow_9 rfl rfl (by omega) (by omega) (fun y1 => ?_) (fun y1 => ?_) | refine e_cmp_ge 16 12 (by decide) rfl dX3_isRow_9 (fun y1 => ?_) (fun y1 => ?_)
    · refine e_iconst (nI 0) 17 rfl dX3_isRow_16 ic_0 ?_
      refine e_zret dX3_isRow_17 rfl (by first | exact z0 | exact z1 | exact bI01 _ | assumption) ?_
      rw [← bI_f (b := (some i).any (fun i => decide (i < T.length))) (by simp; omega)]; exact k
    · refine e_iconst (nI 1) 13 rfl dX3_isRow_12 ic_1 ?_
      refine e_goto 17 (by decide) dX3_isRow_13 ?_
      refine e_zret dX3_isRow_17 rfl (by first | exact z0 | exact z1 | exact bI01 _ | assumption) ?_
      rw [← bI_t (b := (some i).any (fun i => decide (i < T.length))) (by simp; omega)]; exact k
def rowAt (T : List Rw) (x : Int32) : Option Rw := (iN x).bind (fun i => (SRr T 41)[i]?)
theorem SR_len {T : List Rw} (h : ∀ x ∈ T, eOK x) : (SRr T 41).length = T.length := by rw [SRr_len, cL_all (fun x hx => by have := (h x hx).1; omega)]
theorem rowAt_any {T : List Rw} {x : Int32} (h : ∀ x ∈ T, eOK x) : (rowAt T x).isSome = (iN x).any (fun i => decide (i < T.length)) := by
  unfold rowAt
  cases e : iN x with
  | none => rfl
  | some i =>
    simp only [Option.bind_some, Option.any_some]
    rw [← SR_len h]
    by_cases c : i < (SRr T 41).length
    · rw [List.getElem?_eq_getElem c]; simp [c]
    · rw [List.getElem?_eq_none (by omega)]; simp [c]
theorem SR_mem {T : List Rw} {n i : Nat} {y : Rw} (h : (SRr T n)[i]? = some y) : y ∈ T := by
  obtain ⟨j, a, _⟩ := SRr_get T n i y h
  exact List.mem_of_getElem? a
def cstR (T : List Rw) (x : Int32) : Int32 := match rowAt T x with
  | none => -1
  | some y => nI y.1
theorem c_costOfRow {r n : Nat} {x : Int32} {T : List Rw} (h : Lst μ r n T) (k : K (some (.int (cstR T x))) μ) : Cl E M_X3_costOfRow [.ref r, .int x] μ K := by
  obtain ⟨⟨⟨gk, g2, g3, g7, k10, l10, k19, l19, k28, l28, k29, l29, k30, l30⟩, gw⟩, h1, h2, h3, h4, h5, h6, ra, sa, h7, h8⟩ := id h
  have hrk : mK μ ra = 14 := by rcases h7.2.2 with q | q <;> rw [q.1] <;> assumption
  have hrl : mL μ ra = 6435 := by rcases h7.2.2 with q | q <;> rw [q.1] <;> assumption
  have p4 := h7.1
  have han := rowAt_any (x := x) h3
  refine Cl.of0 0 pn_X3 (Nat.le_of_ble_eq_true rfl) ⟨rfl, rfl⟩ rfl ?_
  refine e_al0 1 rfl dX3_costOfRow_0 ?_
  refine e_il1 2 rfl dX3_costOfRow_1 ?_
  refine e_invV0 [_] 5 rfl dX3_costOfRow_2 k_X3_119 mo_X3_isRow rm_X3_costOfRow_X3_isRow ⟨rfl, rfl⟩ rfl rfl (by assumption) (Nat.le_of_ble_eq_true rfl) ?_
  refine c_isRow h ?_
  rw [← han]
  unfold cstR at k
  cases e : rowAt T x with
  | none =>
    rw [e] at k
    first | refine e_if_eqB 20 8 (by decide) rfl dX3_costOfRow_5 rfl (fun y1 => ?_) (fun y1 => ?_) | refine e_if_eqN 20 8 (by decide) rfl dX3_costOfRow_5 rfl (by omega) (fun y1 => ?_) (fun y1 => ?_) | refine e_if_eq 20 8 (by decide) rfl dX3_costOfRow_5 (fun y1 => ?_) (fun y1 => ?_)
    · refine e_iconst (-1) 21 rfl dX3_costOfRow_20 ic_m1 ?_
      refine e_iret dX3_costOfRow_21 rfl ?_
      exact k
    · cases y1
  | some y =>
    rw [e] at k
    first | refine e_if_eqB 20 8 (by decide) rfl dX3_costOfRow_5 rfl (fun y1 => ?_) (fun y1 => ?_) | refine e_if_eqN 20 8 (by decide) rfl dX3_costOfRow_5 rfl (by omega) (fun y1 => ?_) (fun y1 => ?_) | refine e_if_eq 20 8 (by decide) rfl dX3_costOfRow_5 (fun y1 => ?_) (fun y1 => ?_)
    · cases y1
    · unfold rowAt at e
      rcases iN_cases x with ⟨_, hi⟩ | ⟨i, hi, hx, hi2⟩
      · rw [hi] at e; cases e
      · subst hx
        rw [hi2] at e
        have e' : (SRr T 41)[i]? = some y := e
        have hil := (List.getElem?_eq_some_iff.mp e').1
        rw [SR_len h3] at hil
        have hv := h8 i y e'
        refine e_al0 9 rfl dX3_costOfRow_8 ?_
        refine e_getR 12 rfl dX3_costOfRow_9 f_X3_30 (by assumption) (by assumption) ?_
        refine e_il1 13 rfl dX3_costOfRow_12 ?_
        first | refine e_laldv 14 rfl dX3_costOfRow_13 (by assumption) (by assumption) (by first | rfl | simp only [pk_mul, nI_add]) (by omega) (by omega) (by first | assumption | (simp only [mN_sF, mK_sF, mL_sF, mF_sF, mB_sF, mA_sF, mJ_sF, mP_sF, mO_sF, mN_sB, mK_sB, mL_sB, mF_sB, mB_sB, mA_sB, mJ_sB, mP_sB, mO_sB, mN_sA, mK_sA, mL_sA, mF_sA, mB_sA, mA_sA, mJ_sA, mP_sA, mO_sA, mN_sJ, mK_sJ, mL_sJ, mF_sJ, mB_sJ, mA_sJ, mJ_sJ, mP_sJ, mO_sJ, mN_sP, mK_sP, mL_sP, mF_sP, mB_sP, mA_sP, mJ_sP, mP_sP, mO_sP, mN_sO, mK_sO, mL_sO, mF_sO, mB_sO, mA_sO, mJ_sO, mP_sO, mO_sO, up2, if_true, if_false, eq_self, ite_true, ite_false, reduceIte, Nat.add_left_cancel_iff, Nat.add_eq_left, Nat.left_eq_add, Nat.reduceEqDiff]; assumption) | (simp only [mN_sF, mK_sF, mL_sF, mF_sF, mB_sF, mA_sF, mJ_sF, mP_sF, mO_sF, mN_sB, mK_sB, mL_sB, mF_sB, mB_sB, mA_sB, mJ_sB, mP_sB, mO_sB, mN_sA, mK_sA, mL_sA, mF_sA, mB_sA, mA_sA, mJ_sA, mP_sA, mO_sA, mN_sJ, mK_sJ, mL_sJ, mF_sJ, mB_sJ, mA_sJ, mJ_sJ, mP_sJ, mO_sJ, mN_sP, mK_sP, mL_sP, mF_sP, mB_sP, mA_sP, mJ_sP, mP_sP, mO_sP, mN_sO, mK_sO, mL_sO, mF_sO, mB_sO, mA_sO, mJ_sO, mP_sO, mO_sO, up2, if_true, if_false, eq_self, ite_true, ite_false, reduceIte, Nat.add_left_cancel_iff, Nat.add_eq_left, Nat.left_eq_add, Nat.reduceEqDiff]; done)) ?_ | refine e_lald 14 rfl dX3_costOfRow_13 (by assumption) (by assumption) (by first | rfl | simp only [pk_mul, nI_add]) (by omega) (by omega) ?_
        refine e_invS0 [_] 17 rfl dX3_costOfRow_14 k_X3_112 mo_X3_costIn rm_X3_costOfRow_X3_costIn ⟨rfl, rfl⟩ rfl rfl (Nat.le_of_ble_eq_true rfl) ?_
        refine c_costIn (h3 y (SR_mem e')) ?_
        refine e_goto 21 (by decide) dX3_costOfRow_17 ?_
        refine e_iret dX3_costOfRow_21 rfl ?_
        exact k
theorem enc_dg {y : Rw} (h : eOK y) {t : Nat} (ht : t ≤ 7) : (enc y / 2 ^ (12 + 3 * t)) &&& 7 = y.2.1 / 8 ^ t % 8 := by
  obtain ⟨h1, h2, h3⟩ := h
  rw [show (7 : Nat) = 2 ^ 3 - 1 from rfl, Nat.and_two_pow_sub_one_eq_mod]
  unfold enc
  have : t = 0 ∨ t = 1 ∨ t = 2 ∨ t = 3 ∨ t = 4 ∨ t = 5 ∨ t = 6 ∨ t = 7 := by omega
  rcases this with e | e | e | e | e | e | e | e <;> subst e <;> simp only [Nat.reduceMul, Nat.reduceAdd, Nat.reducePow] <;> omega
def kndR (n : Nat) (T : List Rw) (x w : Int32) : Int32 := match rowAt T x, iN w with
  | some y, some j => if j < n then nI (dg n y.2.1 j) else -1
  | _, _ => -1
theorem c_kindInRow {r n : Nat} {x w : Int32} {T : List Rw} (h : Lst μ r n T) (k : K (some (.int (kndR n T x w))) μ) : Cl E M_X3_kindInRow [.ref r, .int x, .int w] μ K := by
  obtain ⟨⟨⟨gk, g2, g3, g7, k10, l10, k19, l19, k28, l28, k29, l29, k30, l30⟩, gw⟩, h1, h2, h3, h4, h5, h6, ra, sa, h7, h8⟩ := id h
  have hrk : mK μ ra = 14 := by rcases h7.2.2 with q | q <;> rw [q.1] <;> assumption
  have hrl : mL μ ra = 6435 := by rcases h7.2.2 with q | q <;> rw [q.1] <;> assumption
  have p4 := h7.1
  have han := rowAt_any (x := x) h3
  refine Cl.of0 0 pn_X3 (Nat.le_of_ble_eq_true rfl) ⟨rfl, rfl⟩ rfl ?_
  refine e_al0 1 rfl dX3_kindInRow_0 ?_
  refine e_il1 2 rfl dX3_kindInRow_1 ?_
  refine e_invV0 [_] 5 rfl dX3_kindInRow_2 k_X3_119 mo_X3_isRow rm_X3_kindInRow_X3_isRow ⟨rfl, rfl⟩ rfl rfl (by assumption) (Nat.le_of_ble_eq_true rfl) ?_
  refine c_isRow h ?_
  rw [← han]
  unfold kndR at k
  cases e : rowAt T x with
  | none =>
    rw [e] at k
    first | refine e_if_eqB 20 8 (by decide) rfl dX3_kindInRow_5 rfl (fun y1 => ?_) (fun y1 => ?_) | refine e_if_eqN 20 8 (by decide) rfl dX3_kindInRow_5 rfl (by omega) (fun y1 => ?_) (fun y1 => ?_) | refine e_if_eq 20 8 (by decide) rfl dX3_kindInRow_5 (fun y1 => ?_) (fun y1 => ?_)
    · refine e_iconst (-1) 21 rfl dX3_kindInRow_20 ic_m1 ?_
      refine e_iret dX3_kindInRow_21 rfl ?_
      exact k
    · cases y1
  | some y =>
    rw [e] at k
    first | refine e_if_eqB 20 8 (by decide) rfl dX3_kindInRow_5 rfl (fun y1 => ?_) (fun y1 => ?_) | refine e_if_eqN 20 8 (by decide) rfl dX3_kindInRow_5 rfl (by omega) (fun y1 => ?_) (fun y1 => ?_) | refine e_if_eq 20 8 (by decide) rfl dX3_kindInRow_5 (fun y1 => ?_) (fun y1 => ?_)
    · cases y1
    rcases iN_cases w with ⟨hw, hi⟩ | ⟨j, hj, hw, hj2⟩
    · rw [hi] at k
      refine e_il2 9 rfl dX3_kindInRow_8 ?_
      refine e_if_lt 20 12 (by decide) rfl dX3_kindInRow_9 (fun y2 => ?_) (fun y2 => ?_)
      · refine e_iconst (-1) 21 rfl dX3_kindInRow_20 ic_m1 ?_
        refine e_iret dX3_kindInRow_21 rfl ?_
        exact k
      · exact absurd hw y2
    subst hw
    rw [hj2] at k
    simp only [] at k
    refine e_il2 9 rfl dX3_kindInRow_8 ?_
    first | refine e_if_ltN 20 12 (by decide) rfl dX3_kindInRow_9 rfl (by omega) ?_ | refine e_if_lt 20 12 (by decide) rfl dX3_kindInRow_9 (fun h => ?_) (fun h => ?_)
    refine e_il2 13 rfl dX3_kindInRow_12 ?_
    refine e_al0 14 rfl dX3_kindInRow_13 ?_
    first | refine e_getIv 17 rfl dX3_kindInRow_14 f_X3_18 (by assumption) (by first | assumption | (simp only [mN_sF, mK_sF, mL_sF, mF_sF, mB_sF, mA_sF, mJ_sF, mP_sF, mO_sF, mN_sB, mK_sB, mL_sB, mF_sB, mB_sB, mA_sB, mJ_sB, mP_sB, mO_sB, mN_sA, mK_sA, mL_sA, mF_sA, mB_sA, mA_sA, mJ_sA, mP_sA, mO_sA, mN_sJ, mK_sJ, mL_sJ, mF_sJ, mB_sJ, mA_sJ, mJ_sJ, mP_sJ, mO_sJ, mN_sP, mK_sP, mL_sP, mF_sP, mB_sP, mA_sP, mJ_sP, mP_sP, mO_sP, mN_sO, mK_sO, mL_sO, mF_sO, mB_sO, mA_sO, mJ_sO, mP_sO, mO_sO, up2, if_true, if_false, eq_self, ite_true, ite_false, reduceIte, Nat.add_left_cancel_iff, Nat.add_eq_left, Nat.left_eq_add, Nat.reduceEqDiff]; assumption) | (simp only [mN_sF, mK_sF, mL_sF, mF_sF, mB_sF, mA_sF, mJ_sF, mP_sF, mO_sF, mN_sB, mK_sB, mL_sB, mF_sB, mB_sB, mA_sB, mJ_sB, mP_sB, mO_sB, mN_sA, mK_sA, mL_sA, mF_sA, mB_sA, mA_sA, mJ_sA, mP_sA, mO_sA, mN_sJ, mK_sJ, mL_sJ, mF_sJ, mB_sJ, mA_sJ, mJ_sJ, mP_sJ, mO_sJ, mN_sP, mK_sP, mL_sP, mF_sP, mB_sP, mA_sP, mJ_sP, mP_sP, mO_sP, mN_sO, mK_sO, mL_sO, mF_sO, mB_sO, mA_sO, mJ_sO, mP_sO, mO_sO, up2, if_true, if_false, eq_self, ite_true, ite_false, reduceIte, Nat.add_left_cancel_iff, Nat.add_eq_left, Nat.left_eq_add, Nat.reduceEqDiff]; done)) ?_ | refine e_getI 17 rfl dX3_kindInRow_14 f_X3_18 (by assumption) ?_
    first | refine e_cmp_ltN 22 20 (by decide) rfl dX3_kindInRow_17 rfl rfl (by omega) (by omega) (fun y3 => ?_) (fun y3 => ?_) | refine e_cmp_lt 22 20 (by decide) rfl dX3_kindInRow_17 (fun y3 => ?_) (fun y3 => ?_)
    rotate_left
    · rw [if_neg (by omega)] at k
      refine e_iconst (-1) 21 rfl dX3_kindInRow_20 ic_m1 ?_
      refine e_iret dX3_kindInRow_21 rfl ?_
      exact k
    rw [if_pos y3] at k
    unfold rowAt at e
    rcases iN_cases x with ⟨_, hi⟩ | ⟨i, hi, hx, hi2⟩
    · rw [hi] at e; cases e
    subst hx
    rw [hi2] at e
    have e' : (SRr T 41)[i]? = some y := e
    have hil := (List.getElem?_eq_some_iff.mp e').1
    rw [SR_len h3] at hil
    have hv := h8 i y e'
    have hy := h3 y (SR_mem e')
    refine e_al0 23 rfl dX3_kindInRow_22 ?_
    refine e_getR 26 rfl dX3_kindInRow_23 f_X3_30 (by assumption) (by assumption) ?_
    refine e_il1 27 rfl dX3_kindInRow_26 ?_
    first | refine e_laldv 28 rfl dX3_kindInRow_27 (by assumption) (by assumption) (by first | rfl | simp only [pk_mul, nI_add]) (by omega) (by omega) (by first | assumption | (simp only [mN_sF, mK_sF, mL_sF, mF_sF, mB_sF, mA_sF, mJ_sF, mP_sF, mO_sF, mN_sB, mK_sB, mL_sB, mF_sB, mB_sB, mA_sB, mJ_sB, mP_sB, mO_sB, mN_sA, mK_sA, mL_sA, mF_sA, mB_sA, mA_sA, mJ_sA, mP_sA, mO_sA, mN_sJ, mK_sJ, mL_sJ, mF_sJ, mB_sJ, mA_sJ, mJ_sJ, mP_sJ, mO_sJ, mN_sP, mK_sP, mL_sP, mF_sP, mB_sP, mA_sP, mJ_sP, mP_sP, mO_sP, mN_sO, mK_sO, mL_sO, mF_sO, mB_sO, mA_sO, mJ_sO, mP_sO, mO_sO, up2, if_true, if_false, eq_self, ite_true, ite_false, reduceIte, Nat.add_left_cancel_iff, Nat.add_eq_left, Nat.left_eq_add, Nat.reduceEqDiff]; assumption) | (simp only [mN_sF, mK_sF, mL_sF, mF_sF, mB_sF, mA_sF, mJ_sF, mP_sF, mO_sF, mN_sB, mK_sB, mL_sB, mF_sB, mB_sB, mA_sB, mJ_sB, mP_sB, mO_sB, mN_sA, mK_sA, mL_sA, mF_sA, mB_sA, mA_sA, mJ_sA, mP_sA, mO_sA, mN_sJ, mK_sJ, mL_sJ, mF_sJ, mB_sJ, mA_sJ, mJ_sJ, mP_sJ, mO_sJ, mN_sP, mK_sP, mL_sP, mF_sP, mB_sP, mA_sP, mJ_sP, mP_sP, mO_sP, mN_sO, mK_sO, mL_sO, mF_sO, mB_sO, mA_sO, mJ_sO, mP_sO, mO_sO, up2, if_true, if_false, eq_self, ite_true, ite_false, reduceIte, Nat.add_left_cancel_iff, Nat.add_eq_left, Nat.left_eq_add, Nat.reduceEqDiff]; done)) ?_ | refine e_lald 28 rfl dX3_kindInRow_27 (by assumption) (by assumption) (by first | rfl | simp only [pk_mul, nI_add]) (by omega) (by omega) ?_
    refine e_bipush (nI 12) 30 rfl dX3_kindInRow_28 bc_12 ?_
    refine e_iconst (nI 3) 31 rfl dX3_kindInRow_30 ic_3 ?_
    refine e_al0 32 rfl dX3_kindInRow_31 ?_
    first | refine e_getIv 35 rfl dX3_kindInRow_32 f_X3_18 (by assumption) (by first | assumption | (simp only [mN_sF, mK_sF, mL_sF, mF_sF, mB_sF, mA_sF, mJ_sF, mP_sF, mO_sF, mN_sB, mK_sB, mL_sB, mF_sB, mB_sB, mA_sB, mJ_sB, mP_sB, mO_sB, mN_sA, mK_sA, mL_sA, mF_sA, mB_sA, mA_sA, mJ_sA, mP_sA, mO_sA, mN_sJ, mK_sJ, mL_sJ, mF_sJ, mB_sJ, mA_sJ, mJ_sJ, mP_sJ, mO_sJ, mN_sP, mK_sP, mL_sP, mF_sP, mB_sP, mA_sP, mJ_sP, mP_sP, mO_sP, mN_sO, mK_sO, mL_sO, mF_sO, mB_sO, mA_sO, mJ_sO, mP_sO, mO_sO, up2, if_true, if_false, eq_self, ite_true, ite_false, reduceIte, Nat.add_left_cancel_iff, Nat.add_eq_left, Nat.left_eq_add, Nat.reduceEqDiff]; assumption) | (simp only [mN_sF, mK_sF, mL_sF, mF_sF, mB_sF, mA_sF, mJ_sF, mP_sF, mO_sF, mN_sB, mK_sB, mL_sB, mF_sB, mB_sB, mA_sB, mJ_sB, mP_sB, mO_sB, mN_sA, mK_sA, mL_sA, mF_sA, mB_sA, mA_sA, mJ_sA, mP_sA, mO_sA, mN_sJ, mK_sJ, mL_sJ, mF_sJ, mB_sJ, mA_sJ, mJ_sJ, mP_sJ, mO_sJ, mN_sP, mK_sP, mL_sP, mF_sP, mB_sP, mA_sP, mJ_sP, mP_sP, mO_sP, mN_sO, mK_sO, mL_sO, mF_sO, mB_sO, mA_sO, mJ_sO, mP_sO, mO_sO, up2, if_true, if_false, eq_self, ite_true, ite_false, reduceIte, Nat.add_left_cancel_iff, Nat.add_eq_left, Nat.left_eq_add, Nat.reduceEqDiff]; done)) ?_ | refine e_getI 35 rfl dX3_kindInRow_32 f_X3_18 (by assumption) ?_
    refine e_iconst (nI 1) 36 rfl dX3_kindInRow_35 ic_1 ?_
    first | refine e_isubN 37 rfl dX3_kindInRow_36 rfl rfl (by omega) ?_ | refine e_isub 37 rfl dX3_kindInRow_36 ?_
    refine e_il2 38 rfl dX3_kindInRow_37 ?_
    first | refine e_isubN 39 rfl dX3_kindInRow_38 rfl rfl (by omega) ?_ | refine e_isub 39 rfl dX3_kindInRow_38 ?_
    first | refine e_imulN 40 rfl dX3_kindInRow_39 rfl rfl ?_ | refine e_imul 40 rfl dX3_kindInRow_39 ?_
    first | refine e_iaddN 41 rfl dX3_kindInRow_40 rfl rfl ?_ | refine e_iadd 41 rfl dX3_kindInRow_40 ?_
    refine e_lshrN 42 rfl dX3_kindInRow_41 rfl rfl (enc_lt hy) (by omega) ?_
    refine e_l2iN 43 rfl dX3_kindInRow_42 rfl ?_
    refine e_bipush (nI 7) 45 rfl dX3_kindInRow_43 bc_7 ?_
    refine e_iandN 46 rfl dX3_kindInRow_45 rfl rfl ?_
    refine e_iret dX3_kindInRow_46 rfl ?_
    rw [enc_dg hy (by omega)]
    exact k
end LISTED
