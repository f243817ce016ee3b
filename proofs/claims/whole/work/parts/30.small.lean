/-! small methods -/
section SMALL
variable {E : En} {μ : Mm} {K : Option Value → Mm → Prop}
/-- isSmall(x) -/
theorem c_isSmall {x : Int32} (b : Bool) (hb : b = true ↔ nI 97 ≤ x ∧ x ≤ nI 122) (k : K (some (.int (bI b))) μ) : Cl E M_X9_isSmall [.int x] μ K := by
  refine Cl.of0 0 pn_X9 (Nat.le_of_ble_eq_true rfl) ⟨rfl, rfl⟩ rfl ?_
  refine e_il0 1 rfl dX9_isSmall_0 ?_
  refine e_bipush (nI 97) 3 rfl dX9_isSmall_1 bc_97 ?_
  first | refine e_cmp_ltN 16 6 (by decide) rfl dX9_isSmall_3 rfl rfl (by omega) (by omega) (fun h => ?_) (fun h => ?_) | refine e_cmp_lt 16 6 (by decide) rfl dX9_isSmall_3 (fun h => ?_) (fun h => ?_)
  · refine e_iconst (nI 0) 17 rfl dX9_isSmall_16 ic_0 ?_
    refine e_zret dX9_isSmall_17 rfl (by first | exact z0 | exact z1 | exact bI01 _ | assumption) ?_
    rw [← bI_f (b := b) (by cases b; rfl; exact absurd (hb.mp rfl).1 (by rw [Int32.not_le]; exact h))]; exact k
  · refine e_il0 7 rfl dX9_isSmall_6 ?_
    refine e_bipush (nI 122) 9 rfl dX9_isSmall_7 bc_122 ?_
    first | refine e_cmp_gtN 16 12 (by decide) rfl dX9_isSmall_9 rfl rfl (by omega) (by omega) (fun h2 => ?_) (fun h2 => ?_) | refine e_cmp_gt 16 12 (by decide) rfl dX9_isSmall_9 (fun h2 => ?_) (fun h2 => ?_)
    · refine e_iconst (nI 0) 17 rfl dX9_isSmall_16 ic_0 ?_
      refine e_zret dX9_isSmall_17 rfl (by first | exact z0 | exact z1 | exact bI01 _ | assumption) ?_
      rw [← bI_f (b := b) (by cases b; rfl; exact absurd (hb.mp rfl).2 (by rw [Int32.not_le]; exact h2))]; exact k
    · refine e_iconst (nI 1) 13 rfl dX9_isSmall_12 ic_1 ?_
      refine e_goto 17 (by decide) dX9_isSmall_13 ?_
      refine e_zret dX9_isSmall_17 rfl (by first | exact z0 | exact z1 | exact bI01 _ | assumption) ?_
      rw [← bI_t (b := b) (hb.mpr ⟨Int32.not_lt.mp h, Int32.not_lt.mp h2⟩)]; exact k
end SMALL
