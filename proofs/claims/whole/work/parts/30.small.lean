/-! small methods -/
section SMALL
variable {E : En} {μ : Mm} {K : Option Value → Mm → Prop}
/-- isSmall(x) -/
theorem c_isSmall {x : Int32} (b : Bool) (hb : b = true ↔ nI 97 ≤ x ∧ x ≤ nI 122) (k : K (some (.int (bI b))) μ) : Cl E M_X9_isSmall [.int x] μ K := by
  refine Cl.of0 0 pn_X9 (Nat.le_of_ble_eq_true rfl) ⟨rfl, rfl⟩ rfl ?_
  refine e_il0 1 rfl dX9_isSmall_0 ?_
  refine e_bipush (nI 97) 3 rfl dX9_isSmall_1 bc_97 ?_
  first | refine e_cmp_ltN 16 6 (by decide) rfl dX9_isSmall_3 rfl rfl (by omega) (by omega) (fun h => ?_) (fun h => ?_) | refine e_cmp_lt 16 6 (by decide) rfl dX9_isSmall_3 (fun h => ?_) (fun h => ?_)
  · refine e_iconst (nI 0) 17 rfl dX9_isSmall_16 ic_0 ?_
    refine e_zret dX9_isSmall_17 rfl (by first | exact z0 | exact z1 | exact bI01 _ | assumption) ?_
    rw [← bI_f (b := b) (by cases b; rfl; exact absurd (hb.mp rfl).1 (by rw [Int32.not_le]; exact h))]; exact k
  · refine e_il0 7 rfl dX9_isSmall_6 ?_
    refine e_bipush (nI 122) 9 rfl dX9_isSmall_7 bc_122 ?_
    first | refine e_cmp_gtN 16 12 (by decide) rfl dX9_isSmall_9 rfl rfl (by omega) (by omega) (fun h2 => ?_) (fun h2 => ?_) | refine e_cmp_gt 16 12 (by decide) rfl dX9_isSmall_9 (fun h2 => ?_) (fun h2 => ?_)
    · refine e_iconst (nI 0) 17 rfl dX9_isSmall_16 ic_0 ?_
      refine e_zret dX9_isSmall_17 rfl (by first | exact z0 | exact z1 | exact bI01 _ | assumption) ?_
      rw [← bI_f (b := b) (by cases b; rfl; exact absurd (hb.mp rfl).2 (by rw [Int32.not_le]; exact h2))]; exact k
    · refine e_iconst (nI 1) 13 rfl dX9_isSmall_12 ic_1 ?_
      refine e_goto 17 (by decide) dX9_isSmall_13 ?_
      refine e_zret dX9_isSmall_17 rfl (by first | exact z0 | exact z1 | exact bI01 _ | assumption) ?_
      rw [← bI_t (b := b) (hb.mpr ⟨Int32.not_lt.mp h, Int32.not_lt.mp h2⟩)]; exact k
end SMALL
section SMALL2
variable {E : En} {μ : Mm} {K : Option Value → Mm → Prop}
/-- isBig(x) -/
theorem c_isBig {x : Int32} (b : Bool) (hb : b = true ↔ nI 65 ≤ x ∧ x ≤ nI 90) (k : K (some (.int (bI b))) μ) : Cl E M_X9_isBig [.int x] μ K := by
  refine Cl.of0 0 pn_X9 (Nat.le_of_ble_eq_true rfl) ⟨rfl, rfl⟩ rfl ?_
  refine e_il0 1 rfl dX9_isBig_0 ?_
  refine e_bipush (nI 65) 3 rfl dX9_isBig_1 bc_65 ?_
  first | refine e_cmp_ltN 16 6 (by decide) rfl dX9_isBig_3 rfl rfl (by omega) (by omega) (fun h => ?_) (fun h => ?_) | refine e_cmp_lt 16 6 (by decide) rfl dX9_isBig_3 (fun h => ?_) (fun h => ?_)
  · refine e_iconst (nI 0) 17 rfl dX9_isBig_16 ic_0 ?_
    refine e_zret dX9_isBig_17 rfl (by first | exact z0 | exact z1 | exact bI01 _ | assumption) ?_
    rw [← bI_f (b := b) (by cases b; rfl; exact absurd (hb.mp rfl).1 (by rw [Int32.not_le]; exact h))]; exact k
  · refine e_il0 7 rfl dX9_isBig_6 ?_
    refine e_bipush (nI 90) 9 rfl dX9_isBig_7 bc_90 ?_
    first | refine e_cmp_gtN 16 12 (by decide) rfl dX9_isBig_9 rfl rfl (by omega) (by omega) (fun h2 => ?_) (fun h2 => ?_) | refine e_cmp_gt 16 12 (by decide) rfl dX9_isBig_9 (fun h2 => ?_) (fun h2 => ?_)
    · refine e_iconst (nI 0) 17 rfl dX9_isBig_16 ic_0 ?_
      refine e_zret dX9_isBig_17 rfl (by first | exact z0 | exact z1 | exact bI01 _ | assumption) ?_
      rw [← bI_f (b := b) (by cases b; rfl; exact absurd (hb.mp rfl).2 (by rw [Int32.not_le]; exact h2))]; exact k
    · refine e_iconst (nI 1) 13 rfl dX9_isBig_12 ic_1 ?_
      refine e_goto 17 (by decide) dX9_isBig_13 ?_
      refine e_zret dX9_isBig_17 rfl (by first | exact z0 | exact z1 | exact bI01 _ | assumption) ?_
      rw [← bI_t (b := b) (hb.mpr ⟨Int32.not_lt.mp h, Int32.not_lt.mp h2⟩)]; exact k
/-- Tape.holds(n) -/
theorem c_holds {a ts : Nat} {n : Int32} (hk : mK μ a = 8) (hs : mF μ a 1 = nI ts) (ht : ts < 2 ^ 31) (b : Bool) (hb : b = true ↔ 0 ≤ n ∧ n ≤ nI ts) (k : K (some (.int (bI b))) μ) : Cl E M_X7_holds [.ref a, .int n] μ K := by
  refine Cl.of0 0 pn_X7 (Nat.le_of_ble_eq_true rfl) ⟨rfl, rfl⟩ rfl ?_
  refine e_il1 1 rfl dX7_holds_0 ?_
  first | refine e_if_ltN 16 4 (by decide) rfl dX7_holds_1 rfl (by omega) ?_ | refine e_if_lt 16 4 (by decide) rfl dX7_holds_1 (fun h => ?_) (fun h => ?_)
  · refine e_iconst (nI 0) 17 rfl dX7_holds_16 ic_0 ?_
    refine e_zret dX7_holds_17 rfl (by first | exact z0 | exact z1 | exact bI01 _ | assumption) ?_
    rw [← bI_f (b := b) (by cases b; rfl; exact absurd (hb.mp rfl).1 (by rw [Int32.not_le]; exact h))]; exact k
  · refine e_il1 5 rfl dX7_holds_4 ?_
    refine e_al0 6 rfl dX7_holds_5 ?_
    first | refine e_getIv 9 rfl dX7_holds_6 f_X7_15 (by assumption) (by first | assumption | (simp only [mN_sF, mK_sF, mL_sF, mF_sF, mB_sF, mA_sF, mJ_sF, mP_sF, mO_sF, mN_sB, mK_sB, mL_sB, mF_sB, mB_sB, mA_sB, mJ_sB, mP_sB, mO_sB, mN_sA, mK_sA, mL_sA, mF_sA, mB_sA, mA_sA, mJ_sA, mP_sA, mO_sA, mN_sJ, mK_sJ, mL_sJ, mF_sJ, mB_sJ, mA_sJ, mJ_sJ, mP_sJ, mO_sJ, mN_sP, mK_sP, mL_sP, mF_sP, mB_sP, mA_sP, mJ_sP, mP_sP, mO_sP, mN_sO, mK_sO, mL_sO, mF_sO, mB_sO, mA_sO, mJ_sO, mP_sO, mO_sO, up2, if_true, if_false, eq_self, ite_true, ite_false, reduceIte, Nat.add_left_cancel_iff, Nat.add_eq_left, Nat.left_eq_add, Nat.reduceEqDiff]; assumption) | (simp only [mN_sF, mK_sF, mL_sF, mF_sF, mB_sF, mA_sF, mJ_sF, mP_sF, mO_sF, mN_sB, mK_sB, mL_sB, mF_sB, mB_sB, mA_sB, mJ_sB, mP_sB, mO_sB, mN_sA, mK_sA, mL_sA, mF_sA, mB_sA, mA_sA, mJ_sA, mP_sA, mO_sA, mN_sJ, mK_sJ, mL_sJ, mF_sJ, mB_sJ, mA_sJ, mJ_sJ, mP_sJ, mO_sJ, mN_sP, mK_sP, mL_sP, mF_sP, mB_sP, mA_sP, mJ_sP, mP_sP, mO_sP, mN_sO, mK_sO, mL_sO, mF_sO, mB_sO, mA_sO, mJ_sO, mP_sO, mO_sO, up2, if_true, if_false, eq_self, ite_true, ite_false, reduceIte, Nat.add_left_cancel_iff, Nat.add_eq_left, Nat.left_eq_add, Nat.reduceEqDiff]; done)) ?_ | refine e_getI 9 rfl dX7_holds_6 f_X7_15 (by assumption) ?_
    first | refine e_cmp_gtN 16 12 (by decide) rfl dX7_holds_9 rfl rfl (by omega) (by omega) (fun h2 => ?_) (fun h2 => ?_) | refine e_cmp_gt 16 12 (by decide) rfl dX7_holds_9 (fun h2 => ?_) (fun h2 => ?_)
    · refine e_iconst (nI 0) 17 rfl dX7_holds_16 ic_0 ?_
      refine e_zret dX7_holds_17 rfl (by first | exact z0 | exact z1 | exact bI01 _ | assumption) ?_
      rw [← bI_f (b := b) (by cases b; rfl; exact absurd (hb.mp rfl).2 (by rw [Int32.not_le]; exact h2))]; exact k
    · refine e_iconst (nI 1) 13 rfl dX7_holds_12 ic_1 ?_
      refine e_goto 17 (by decide) dX7_holds_13 ?_
      refine e_zret dX7_holds_17 rfl (by first | exact z0 | exact z1 | exact bI01 _ | assumption) ?_
      rw [← bI_t (b := b) (hb.mpr ⟨Int32.not_lt.mp h, Int32.not_lt.mp h2⟩)]; exact k
end SMALL2
