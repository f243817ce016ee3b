/-! NameDesk$Reader: costs of a word -/
section WEIGH
variable {E : En} {μ : Mm} {K : Option Value → Mm → Prop}
/-- the reader at r, whose shape is at s -/
def Rg (μ : Mm) (r : Nat) : Prop := (mK μ r = 4 ∧ mP μ r 2 = some (r + 10) ∧ mP μ r 3 = some (r + 19) ∧ mP μ r 7 = some (r + 30) ∧ mK μ (r + 10) = 19 ∧ mL μ (r + 10) = 8 ∧ mK μ (r + 19) = 19 ∧ mL μ (r + 19) = 8 ∧ mK μ (r + 28) = 14 ∧ mL μ (r + 28) = 6435 ∧ mK μ (r + 29) = 14 ∧ mL μ (r + 29) = 6435 ∧ mK μ (r + 30) = 13 ∧ mL μ (r + 30) = 41) ∧ ∀ w, w < 8 → (mO μ (r + 10) w = some (r + 11 + w) ∧ mK μ (r + 11 + w) = 13 ∧ mL μ (r + 11 + w) = 7) ∧ mO μ (r + 19) w = some (r + 20 + w) ∧ mK μ (r + 20 + w) = 13 ∧ mL μ (r + 20 + w) = 8
theorem Rg.fr {S : Nat → Prop} {μ' : Mm} {r : Nat} (h : Rg μ r) (f : Fr S μ μ') : Rg μ' r := by
  unfold Rg
  rw [f.2.1, f.2.2.1, f.2.2.2.1, f.2.2.2.2.1]
  exact h
/-- what a word costs as a kind; 1000: it can't be -/
def cst (es : List Ent) (ld : Nat) (en w : List Nat) (k : Nat) : Nat :=
  if k < 5 ∧ (ld, k, w) ∈ es then 0
  else if k = 1 ∨ k = 4 then (if (ld, 0, w) ∈ es ∨ (ld, 2, w) ∈ es ∨ (ld, 3, w) ∈ es then 5 else 2)
  else if k = 5 then (if madeL en w = true then (if (ld, 1, w.take (w.length - en.length)) ∈ es then 0 else 3) else 1000)
  else if k = 6 then (if w.length = 1 then 0 else 1000)
  else 1000
theorem hid_bits : ∀ v, v < 32 → (v &&& 13 = 0 ↔ v.testBit 0 = false ∧ v.testBit 2 = false ∧ v.testBit 3 = false) := by decide +kernel
theorem c_weighWord {r s g b u ld : Nat} {es : List Ent} {en w : List Nat} (hr : mK μ r = 4) (hrs : mP μ r 0 = some s) (hsg : Sg μ s) (hse : Se μ s en) (hw : Wd μ g) (hwl : Wl μ g w) (hb : Bk μ b) (hc : Bc μ b es) (hld : ld < 6) (hku : mK μ u = 13) (hlu : mL μ u = 7) (hub : u < b ∨ b + 244 ≤ u)
    (k : ∀ μ', Fr (fun q => q = u) μ μ' → (∀ c, c < 7 → mA μ' u c = nI (cst es ld en w c)) → K none μ') : Cl E M_X3_weighWord [.ref r, .ref g, .int (nI ld), .ref b, .ref u] μ K := by
  have w3 := hwl.1
  have w20 := hwl.2.2.1
  have gk := hw.1
  have bk := hb.1.1
  have nug : ¬ g = u := fun e => by rw [e, hku] at gk; cases gk
  have nug2 : ¬ g + 2 = u := fun e => by have := hw.2.2.2.2.2.1; rw [e, hku] at this; cases this
  have nus : ¬ s = u := fun e => by have := hsg.1.1; rw [e, hku] at this; cases this
  have nus8 : ¬ s + 8 = u := fun e => by have := hsg.2.2.2.2.2.2.2.2.2.2.2.2.2.2.2.1; rw [e, hku] at this; cases this
  have nub : ∀ q, b ≤ q → q < b + 244 → ¬ q = u := fun q h1 h2 => by omega
  have low : ∀ v, v < 32 → (∀ q, v.testBit q = true ↔ q < 5 ∧ (ld, q, w) ∈ es) → ∀ c, c < 5 → cst es ld en w c = if v.testBit c = true then 0 else if c = 1 ∨ c = 4 then (if v &&& 13 = 0 then 2 else 5) else 1000 := by
    intro v hv hb' c hc'
    unfold cst
    have e1 : (c < 5 ∧ (ld, c, w) ∈ es) ↔ v.testBit c = true := (hb' c).symm
    by_cases q : v.testBit c = true
    · rw [if_pos (e1.mpr q), if_pos q]
    · rw [if_neg (fun z => q (e1.mp z)), if_neg q]
      by_cases q2 : c = 1 ∨ c = 4
      · rw [if_pos q2, if_pos q2]
        have e2 : ((ld, 0, w) ∈ es ∨ (ld, 2, w) ∈ es ∨ (ld, 3, w) ∈ es) ↔ ¬ v &&& 13 = 0 := by
          rw [hid_bits v hv]
          have f0 := hb' 0
          have f2 := hb' 2
          have f3 := hb' 3
          simp only [show (0 : Nat) < 5 by decide, show (2 : Nat) < 5 by decide, show (3 : Nat) < 5 by decide, true_and] at f0 f2 f3
          rw [← f0, ← f2, ← f3]
          cases v.testBit 0 <;> cases v.testBit 2 <;> cases v.testBit 3 <;> simp
        by_cases q3 : v &&& 13 = 0
        · rw [if_pos q3, if_neg (fun z => e2.mp z q3)]
        · rw [if_neg q3, if_pos (e2.mpr q3)]
      · rw [if_neg q2, if_neg q2, if_neg (by omega), if_neg (by omega)]
  refine Cl.of0 3 pn_X3 (Nat.le_of_ble_eq_true rfl) ⟨rfl, rfl⟩ rfl ?_
  refine e_al3 1 rfl dX3_weighWord_0 ?_
  refine e_il2 2 rfl dX3_weighWord_1 ?_
  refine e_al1 3 rfl dX3_weighWord_2 ?_
  refine e_al1 4 rfl dX3_weighWord_3 ?_
  first | refine e_getIv 7 rfl dX3_weighWord_4 f_X3_76 (by assumption) (by first | assumption | (simp only [mN_sF, mK_sF, mL_sF, mF_sF, mB_sF, mA_sF, mJ_sF, mP_sF, mO_sF, mN_sB, mK_sB, mL_sB, mF_sB, mB_sB, mA_sB, mJ_sB, mP_sB, mO_sB, mN_sA, mK_sA, mL_sA, mF_sA, mB_sA, mA_sA, mJ_sA, mP_sA, mO_sA, mN_sJ, mK_sJ, mL_sJ, mF_sJ, mB_sJ, mA_sJ, mJ_sJ, mP_sJ, mO_sJ, mN_sP, mK_sP, mL_sP, mF_sP, mB_sP, mA_sP, mJ_sP, mP_sP, mO_sP, mN_sO, mK_sO, mL_sO, mF_sO, mB_sO, mA_sO, mJ_sO, mP_sO, mO_sO, up2, if_true, if_false, eq_self, ite_true, ite_false, reduceIte, Nat.add_left_cancel_iff, Nat.add_eq_left, Nat.left_eq_add, Nat.reduceEqDiff]; assumption) | (simp only [mN_sF, mK_sF, mL_sF, mF_sF, mB_sF, mA_sF, mJ_sF, mP_sF, mO_sF, mN_sB, mK_sB, mL_sB, mF_sB, mB_sB, mA_sB, mJ_sB, mP_sB, mO_sB, mN_sA, mK_sA, mL_sA, mF_sA, mB_sA, mA_sA, mJ_sA, mP_sA, mO_sA, mN_sJ, mK_sJ, mL_sJ, mF_sJ, mB_sJ, mA_sJ, mJ_sJ, mP_sJ, mO_sJ, mN_sP, mK_sP, mL_sP, mF_sP, mB_sP, mA_sP, mJ_sP, mP_sP, mO_sP, mN_sO, mK_sO, mL_sO, mF_sO, mB_sO, mA_sO, mJ_sO, mP_sO, mO_sO, up2, if_true, if_false, eq_self, ite_true, ite_false, reduceIte, Nat.add_left_cancel_iff, Nat.add_eq_left, Nat.left_eq_add, Nat.reduceEqDiff]; done)) ?_ | refine e_getI 7 rfl dX3_weighWord_4 f_X3_76 (by assumption) ?_
  refine e_invV0 [_, _, _] 10 rfl dX3_weighWord_7 k_X3_81 mo_X0_kindsOf rm_X3_weighWord_X0_kindsOf ⟨rfl, rfl⟩ rfl rfl (by assumption) (Nat.le_of_ble_eq_true rfl) ?_
  refine c_kindsOf hb hc hw hwl hld (Nat.le_refl _) (fun v hv hbits => ?_)
  rw [List.take_length] at hbits
  have hlow := low v hv hbits
  -- behind the loop
  have tail : ∀ μ1 (y7 : Option Value), Fr (fun q => q = u) μ μ1 → (∀ c, c < 5 → mA μ1 u c = nI (cst es ld en w c)) → ∀ y6, nl y6 = true → Ev E M_X3_weighWord 0 0 99 [some (.ref r), some (.ref g), some (.int (nI ld)), some (.ref b), some (.ref u), some (.int (nI v)), y6, y7] [] μ1 K := by
    intro μ1 y7 hF1 h5 y6 hy6
    have hku1 : mK μ1 u = 13 := by rw [hF1.2.1]; exact hku
    have hlu1 : mL μ1 u = 7 := by rw [hF1.2.2.1]; exact hlu
    have hr1 : mK μ1 r = 4 := by rw [hF1.2.1]; exact hr
    have hrs1 : mP μ1 r 0 = some s := by rw [hF1.2.2.2.1]; exact hrs
    have hF2 : Fr (fun q => q = u) μ (sA μ1 u 5 (nI 1000)) := hF1.sA rfl _ _
    have hsg2 := hsg.fr hF2
    have sk2 := hsg2.1.1
    have hse2 : Se (sA μ1 u 5 (nI 1000)) s en := by unfold Se; rw [(hF2.2.2.2.2.2 s nus).1, (hF2.2.2.2.2.2 (s + 8) nus8).2.1]; exact hse
    have hw2 := hw.fr hF2
    have hwl2 := hwl.fr hF2 nug nug2
    have gk2 := hw2.1
    have w32 := hwl2.1
    have se12 := hse2.1
    have se6 := hse2.2.1
    have hb2 := hb.fr hF2
    have bk2 := hb2.1.1
    have hc2 := hc.fx hF2.fx nub
    have hk2 : mK (sA μ1 u 5 (nI 1000)) u = 13 := hku1
    have hl2 : mL (sA μ1 u 5 (nI 1000)) u = 7 := hlu1
    have last : ∀ μ2 x5 (y7 : Option Value), Fr (fun q => q = u) μ μ2 → mK μ2 g = 9 → mF μ2 g 3 = nI w.length → mK μ2 u = 13 → mL μ2 u = 7 → (∀ c, c < 5 → mA μ2 u c = nI (cst es ld en w c)) → mA μ2 u 5 = nI x5 → x5 = cst es ld en w 5 → Ev E M_X3_weighWord 0 0 155 [some (.ref r), some (.ref g), some (.int (nI ld)), some (.ref b), some (.ref u), some (.int (nI v)), y6, y7] [] μ2 K := by
      intro μ2 x5 y7 hF3 gk3 w33 hk3 hl3 h53 h6 e5
      have fin : ∀ x6, x6 = cst es ld en w 6 → K none (sA μ2 u 6 (nI x6)) := by
        intro x6 e6
        refine k _ (hF3.sA rfl _ _) (fun c hc' => ?_)
        show up2 _ u _ _ u c = _
        by_cases z : c = 6
        · rw [z, up2_s, e6]
        · rw [up2_k z]
          by_cases z5 : c = 5
          · rw [z5, h6, e5]
          · exact h53 c (by omega)
      have e6 : cst es ld en w 6 = if w.length = 1 then 0 else 1000 := by unfold cst; rw [if_neg (by omega), if_neg (by omega), if_neg (by omega), if_pos rfl]
      refine e_al4 157 rfl dX3_weighWord_155 ?_
      refine e_bipush (nI 6) 159 rfl dX3_weighWord_157 bc_6 ?_
      refine e_al1 160 rfl dX3_weighWord_159 ?_
      first | refine e_getIv 163 rfl dX3_weighWord_160 f_X3_76 (by assumption) (by first | assumption | (simp only [mN_sF, mK_sF, mL_sF, mF_sF, mB_sF, mA_sF, mJ_sF, mP_sF, mO_sF, mN_sB, mK_sB, mL_sB, mF_sB, mB_sB, mA_sB, mJ_sB, mP_sB, mO_sB, mN_sA, mK_sA, mL_sA, mF_sA, mB_sA, mA_sA, mJ_sA, mP_sA, mO_sA, mN_sJ, mK_sJ, mL_sJ, mF_sJ, mB_sJ, mA_sJ, mJ_sJ, mP_sJ, mO_sJ, mN_sP, mK_sP, mL_sP, mF_sP, mB_sP, mA_sP, mJ_sP, mP_sP, mO_sP, mN_sO, mK_sO, mL_sO, mF_sO, mB_sO, mA_sO, mJ_sO, mP_sO, mO_sO, up2, if_true, if_false, eq_self, ite_true, ite_false, reduceIte, Nat.add_left_cancel_iff, Nat.add_eq_left, Nat.left_eq_add, Nat.reduceEqDiff]; assumption) | (simp only [mN_sF, mK_sF, mL_sF, mF_sF, mB_sF, mA_sF, mJ_sF, mP_sF, mO_sF, mN_sB, mK_sB, mL_sB, mF_sB, mB_sB, mA_sB, mJ_sB, mP_sB, mO_sB, mN_sA, mK_sA, mL_sA, mF_sA, mB_sA, mA_sA, mJ_sA, mP_sA, mO_sA, mN_sJ, mK_sJ, mL_sJ, mF_sJ, mB_sJ, mA_sJ, mJ_sJ, mP_sJ, mO_sJ, mN_sP, mK_sP, mL_sP, mF_sP, mB_sP, mA_sP, mJ_sP, mP_sP, mO_sP, mN_sO, mK_sO, mL_sO, mF_sO, mB_sO, mA_sO, mJ_sO, mP_sO, mO_sO, up2, if_true, if_false, eq_self, ite_true, ite_false, reduceIte, Nat.add_left_cancel_iff, Nat.add_eq_left, Nat.left_eq_add, Nat.reduceEqDiff]; done)) ?_ | refine e_getI 163 rfl dX3_weighWord_160 f_X3_76 (by assumption) ?_
      refine e_iconst (nI 1) 164 rfl dX3_weighWord_163 ic_1 ?_
      first | refine e_cmp_neN 171 167 (by decide) rfl dX3_weighWord_164 rfl rfl (by omega) (by omega) (fun z1 => ?_) (fun z1 => ?_) | refine e_cmp_ne 171 167 (by decide) rfl dX3_weighWord_164 (fun z1 => ?_) (fun z1 => ?_)
      · refine e_sipush (nI 1000) 174 rfl dX3_weighWord_171 sc_1000 ?_
        refine e_iast 175 rfl dX3_weighWord_174 (by assumption) (by assumption) (by first | rfl | simp only [pk_mul, nI_add]) (by omega) (by omega) ?_
        refine e_ret dX3_weighWord_175 rfl ?_
        exact fin 1000 (by rw [e6, if_neg z1])
      · refine e_iconst (nI 0) 168 rfl dX3_weighWord_167 ic_0 ?_
        refine e_goto 174 (by decide) dX3_weighWord_168 ?_
        refine e_iast 175 rfl dX3_weighWord_174 (by assumption) (by assumption) (by first | rfl | simp only [pk_mul, nI_add]) (by omega) (by omega) ?_
        refine e_ret dX3_weighWord_175 rfl ?_
        exact fin 0 (by rw [e6, if_pos z1])
    have e5 : cst es ld en w 5 = if madeL en w = true then (if (ld, 1, w.take (w.length - en.length)) ∈ es then 0 else 3) else 1000 := by unfold cst; rw [if_neg (by omega), if_neg (by omega), if_pos rfl]
    have h52 : ∀ (x : Int32) c, c < 5 → mA (sA μ1 u 5 x) u c = nI (cst es ld en w c) := fun x c hc' => by show up2 _ u _ _ u c = _; rw [up2_k (by omega)]; exact h5 c hc'
    refine e_al4 101 rfl dX3_weighWord_99 ?_
    refine e_iconst (nI 5) 102 rfl dX3_weighWord_101 ic_5 ?_
    refine e_sipush (nI 1000) 105 rfl dX3_weighWord_102 sc_1000 ?_
    refine e_iast 106 rfl dX3_weighWord_105 (by assumption) (by assumption) (by first | rfl | simp only [pk_mul, nI_add]) (by omega) (by omega) ?_
    refine e_al0 107 rfl dX3_weighWord_106 ?_
    refine e_getR 110 rfl dX3_weighWord_107 f_X3_12 (by assumption) (by assumption) ?_
    refine e_al1 111 rfl dX3_weighWord_110 ?_
    refine e_invV0 [_] 114 rfl dX3_weighWord_111 k_X3_87 mo_X4_isMade rm_X3_weighWord_X4_isMade ⟨rfl, rfl⟩ rfl rfl (by assumption) (Nat.le_of_ble_eq_true rfl) ?_
    refine c_isMade hsg2 hse2 hw2 hwl2 ?_
    first | refine e_if_eqB 155 117 (by decide) rfl dX3_weighWord_114 rfl (fun z1 => ?_) (fun z1 => ?_) | refine e_if_eqN 155 117 (by decide) rfl dX3_weighWord_114 rfl (by omega) (fun z1 => ?_) (fun z1 => ?_) | refine e_if_eq 155 117 (by decide) rfl dX3_weighWord_114 (fun z1 => ?_) (fun z1 => ?_)
    · refine last _ 1000 _ hF2 gk2 w32 hk2 hl2 (h52 _) (by simp only [mN_sF, mK_sF, mL_sF, mF_sF, mB_sF, mA_sF, mJ_sF, mP_sF, mO_sF, mN_sB, mK_sB, mL_sB, mF_sB, mB_sB, mA_sB, mJ_sB, mP_sB, mO_sB, mN_sA, mK_sA, mL_sA, mF_sA, mB_sA, mA_sA, mJ_sA, mP_sA, mO_sA, mN_sJ, mK_sJ, mL_sJ, mF_sJ, mB_sJ, mA_sJ, mJ_sJ, mP_sJ, mO_sJ, mN_sP, mK_sP, mL_sP, mF_sP, mB_sP, mA_sP, mJ_sP, mP_sP, mO_sP, mN_sO, mK_sO, mL_sO, mF_sO, mB_sO, mA_sO, mJ_sO, mP_sO, mO_sO, up2, if_true, if_false, eq_self, ite_true, ite_false, reduceIte, Nat.add_left_cancel_iff, Nat.add_eq_left, Nat.left_eq_add, Nat.reduceEqDiff]) (by rw [e5, z1]; rfl)
    have hlt : en.length < w.length := by unfold madeL at z1; simp at z1; omega
    have hrs2 : mP (sA μ1 u 5 (nI 1000)) r 0 = some s := hrs1
    have hr2 : mK (sA μ1 u 5 (nI 1000)) r = 4 := hr1
    refine e_al3 118 rfl dX3_weighWord_117 ?_
    refine e_il2 119 rfl dX3_weighWord_118 ?_
    refine e_al1 120 rfl dX3_weighWord_119 ?_
    refine e_al1 121 rfl dX3_weighWord_120 ?_
    first | refine e_getIv 124 rfl dX3_weighWord_121 f_X3_76 (by assumption) (by first | assumption | (simp only [mN_sF, mK_sF, mL_sF, mF_sF, mB_sF, mA_sF, mJ_sF, mP_sF, mO_sF, mN_sB, mK_sB, mL_sB, mF_sB, mB_sB, mA_sB, mJ_sB, mP_sB, mO_sB, mN_sA, mK_sA, mL_sA, mF_sA, mB_sA, mA_sA, mJ_sA, mP_sA, mO_sA, mN_sJ, mK_sJ, mL_sJ, mF_sJ, mB_sJ, mA_sJ, mJ_sJ, mP_sJ, mO_sJ, mN_sP, mK_sP, mL_sP, mF_sP, mB_sP, mA_sP, mJ_sP, mP_sP, mO_sP, mN_sO, mK_sO, mL_sO, mF_sO, mB_sO, mA_sO, mJ_sO, mP_sO, mO_sO, up2, if_true, if_false, eq_self, ite_true, ite_false, reduceIte, Nat.add_left_cancel_iff, Nat.add_eq_left, Nat.left_eq_add, Nat.reduceEqDiff]; assumption) | (simp only [mN_sF, mK_sF, mL_sF, mF_sF, mB_sF, mA_sF, mJ_sF, mP_sF, mO_sF, mN_sB, mK_sB, mL_sB, mF_sB, mB_sB, mA_sB, mJ_sB, mP_sB, mO_sB, mN_sA, mK_sA, mL_sA, mF_sA, mB_sA, mA_sA, mJ_sA, mP_sA, mO_sA, mN_sJ, mK_sJ, mL_sJ, mF_sJ, mB_sJ, mA_sJ, mJ_sJ, mP_sJ, mO_sJ, mN_sP, mK_sP, mL_sP, mF_sP, mB_sP, mA_sP, mJ_sP, mP_sP, mO_sP, mN_sO, mK_sO, mL_sO, mF_sO, mB_sO, mA_sO, mJ_sO, mP_sO, mO_sO, up2, if_true, if_false, eq_self, ite_true, ite_false, reduceIte, Nat.add_left_cancel_iff, Nat.add_eq_left, Nat.left_eq_add, Nat.reduceEqDiff]; done)) ?_ | refine e_getI 124 rfl dX3_weighWord_121 f_X3_76 (by assumption) ?_
    refine e_al0 125 rfl dX3_weighWord_124 ?_
    refine e_getR 128 rfl dX3_weighWord_125 f_X3_12 (by assumption) (by assumption) ?_
    first | refine e_getIv 131 rfl dX3_weighWord_128 f_X3_91 (by assumption) (by first | assumption | (simp only [mN_sF, mK_sF, mL_sF, mF_sF, mB_sF, mA_sF, mJ_sF, mP_sF, mO_sF, mN_sB, mK_sB, mL_sB, mF_sB, mB_sB, mA_sB, mJ_sB, mP_sB, mO_sB, mN_sA, mK_sA, mL_sA, mF_sA, mB_sA, mA_sA, mJ_sA, mP_sA, mO_sA, mN_sJ, mK_sJ, mL_sJ, mF_sJ, mB_sJ, mA_sJ, mJ_sJ, mP_sJ, mO_sJ, mN_sP, mK_sP, mL_sP, mF_sP, mB_sP, mA_sP, mJ_sP, mP_sP, mO_sP, mN_sO, mK_sO, mL_sO, mF_sO, mB_sO, mA_sO, mJ_sO, mP_sO, mO_sO, up2, if_true, if_false, eq_self, ite_true, ite_false, reduceIte, Nat.add_left_cancel_iff, Nat.add_eq_left, Nat.left_eq_add, Nat.reduceEqDiff]; assumption) | (simp only [mN_sF, mK_sF, mL_sF, mF_sF, mB_sF, mA_sF, mJ_sF, mP_sF, mO_sF, mN_sB, mK_sB, mL_sB, mF_sB, mB_sB, mA_sB, mJ_sB, mP_sB, mO_sB, mN_sA, mK_sA, mL_sA, mF_sA, mB_sA, mA_sA, mJ_sA, mP_sA, mO_sA, mN_sJ, mK_sJ, mL_sJ, mF_sJ, mB_sJ, mA_sJ, mJ_sJ, mP_sJ, mO_sJ, mN_sP, mK_sP, mL_sP, mF_sP, mB_sP, mA_sP, mJ_sP, mP_sP, mO_sP, mN_sO, mK_sO, mL_sO, mF_sO, mB_sO, mA_sO, mJ_sO, mP_sO, mO_sO, up2, if_true, if_false, eq_self, ite_true, ite_false, reduceIte, Nat.add_left_cancel_iff, Nat.add_eq_left, Nat.left_eq_add, Nat.reduceEqDiff]; done)) ?_ | refine e_getI 131 rfl dX3_weighWord_128 f_X3_91 (by assumption) ?_
    first | refine e_isubN 132 rfl dX3_weighWord_131 rfl rfl (by omega) ?_ | refine e_isub 132 rfl dX3_weighWord_131 ?_
    refine e_invV0 [_, _, _] 135 rfl dX3_weighWord_132 k_X3_81 mo_X0_kindsOf rm_X3_weighWord_X0_kindsOf ⟨rfl, rfl⟩ rfl rfl (by assumption) (Nat.le_of_ble_eq_true rfl) ?_
    refine c_kindsOf hb2 hc2 hw2 hwl2 hld (by omega) (fun v2 hv2 hbits2 => ?_)
    have hb1 := hbits2 1
    simp only [show (1 : Nat) < 5 by decide, true_and] at hb1
    have hs1 : (v2 >>> 1) &&& 1 = 0 ↔ v2.testBit 1 = false := bit1 v2 1
    have fin5 : ∀ x5, x5 = cst es ld en w 5 → Ev E M_X3_weighWord 0 0 155 [some (.ref r), some (.ref g), some (.int (nI ld)), some (.ref b), some (.ref u), some (.int (nI v)), y6, some (.int (nI v2))] [] (sA (sA μ1 u 5 (nI 1000)) u 5 (nI x5)) K := by
      intro x5 ex5
      refine last _ x5 _ (hF2.sA rfl _ _) gk2 w32 hk2 hl2 (fun c hc' => ?_) (by simp only [mN_sF, mK_sF, mL_sF, mF_sF, mB_sF, mA_sF, mJ_sF, mP_sF, mO_sF, mN_sB, mK_sB, mL_sB, mF_sB, mB_sB, mA_sB, mJ_sB, mP_sB, mO_sB, mN_sA, mK_sA, mL_sA, mF_sA, mB_sA, mA_sA, mJ_sA, mP_sA, mO_sA, mN_sJ, mK_sJ, mL_sJ, mF_sJ, mB_sJ, mA_sJ, mJ_sJ, mP_sJ, mO_sJ, mN_sP, mK_sP, mL_sP, mF_sP, mB_sP, mA_sP, mJ_sP, mP_sP, mO_sP, mN_sO, mK_sO, mL_sO, mF_sO, mB_sO, mA_sO, mJ_sO, mP_sO, mO_sO, up2, if_true, if_false, eq_self, ite_true, ite_false, reduceIte, Nat.add_left_cancel_iff, Nat.add_eq_left, Nat.left_eq_add, Nat.reduceEqDiff]) ex5
      show up2 _ u _ _ u c = _
      rw [up2_k (by omega)]
      exact h52 _ c hc'
    refine e_is7 137 rfl dX3_weighWord_135 (by decide) hy6 ?_
    refine e_al4 139 rfl dX3_weighWord_137 ?_
    refine e_iconst (nI 5) 140 rfl dX3_weighWord_139 ic_5 ?_
    refine e_il7 142 rfl dX3_weighWord_140 ?_
    refine e_iconst (nI 1) 143 rfl dX3_weighWord_142 ic_1 ?_
    refine e_ishrN 144 rfl dX3_weighWord_143 rfl rfl (by omega) (by omega) ?_
    refine e_iconst (nI 1) 145 rfl dX3_weighWord_144 ic_1 ?_
    refine e_iandN 146 rfl dX3_weighWord_145 rfl rfl ?_
    refine e_if_eqN 153 149 (by decide) rfl dX3_weighWord_146 rfl (Nat.lt_of_le_of_lt Nat.and_le_right (by decide)) (fun z2 => ?_) (fun z2 => ?_)
    · refine e_iconst (nI 3) 154 rfl dX3_weighWord_153 ic_3 ?_
      refine e_iast 155 rfl dX3_weighWord_154 (by assumption) (by assumption) (by first | rfl | simp only [pk_mul, nI_add]) (by omega) (by omega) ?_
      exact fin5 3 (by rw [e5, if_pos z1, if_neg (fun q => by rw [hs1.mp z2] at hb1; exact absurd (hb1.mpr q) (by simp))])
    · refine e_iconst (nI 0) 150 rfl dX3_weighWord_149 ic_0 ?_
      refine e_goto 154 (by decide) dX3_weighWord_150 ?_
      refine e_iast 155 rfl dX3_weighWord_154 (by assumption) (by assumption) (by first | rfl | simp only [pk_mul, nI_add]) (by omega) (by omega) ?_
      exact fin5 0 (by rw [e5, if_pos z1, if_pos (hb1.mp (by cases q : v2.testBit 1; exact absurd (hs1.mpr q) z2; rfl))])
  have loop : ∀ (fu i : Nat), i + fu = 5 → ∀ μ1, Fr (fun q => q = u) μ μ1 → (∀ c, c < i → mA μ1 u c = nI (cst es ld en w c)) → ∀ h6 : Int32, (h6 = 0 ↔ v &&& 13 = 0) → Ev E M_X3_weighWord 0 0 30 [some (.ref r), some (.ref g), some (.int (nI ld)), some (.ref b), some (.ref u), some (.int (nI v)), some (.int h6), some (.int (nI i))] [] μ1 K := by
    intro fu
    induction fu with
    | zero =>
      intro i hi μ1 hF1 h5 h6 hh6
      refine e_il7 32 rfl dX3_weighWord_30 ?_
      refine e_iconst (nI 4) 33 rfl dX3_weighWord_32 ic_4 ?_
      first | refine e_cmp_gtN 99 36 (by decide) rfl dX3_weighWord_33 rfl rfl (by omega) (by omega) (fun z1 => ?_) (fun z1 => ?_) | refine e_cmp_gt 99 36 (by decide) rfl dX3_weighWord_33 (fun z1 => ?_) (fun z1 => ?_)
      · exact tail μ1 _ hF1 (fun c hc' => h5 c (by omega)) _ rfl
      · omega
    | succ fu ih =>
      intro i hi μ1 hF1 h5 h6 hh6
      have hku1 : mK μ1 u = 13 := by rw [hF1.2.1]; exact hku
      have hlu1 : mL μ1 u = 7 := by rw [hF1.2.2.1]; exact hlu
      have el := hlow i (by omega)
      have next : ∀ x, x = cst es ld en w i → Ev E M_X3_weighWord 0 0 93 [some (.ref r), some (.ref g), some (.int (nI ld)), some (.ref b), some (.ref u), some (.int (nI v)), some (.int h6), some (.int (nI i))] [] (sA μ1 u i (nI x)) K := by
        intro x ex
        refine e_ii7 (nI (_ + 1)) 96 rfl dX3_weighWord_93 (ii1 _) rfl ?_
        refine e_goto 30 (by decide) dX3_weighWord_96 ?_
        refine ih (i + 1) (by omega) _ (hF1.sA rfl _ _) (fun c hc' => ?_) h6 hh6
        show up2 _ u _ _ u c = _
        by_cases z : c = i
        · rw [z, up2_s, ex]
        · rw [up2_k z]; exact h5 c (by omega)
      refine e_il7 32 rfl dX3_weighWord_30 ?_
      refine e_iconst (nI 4) 33 rfl dX3_weighWord_32 ic_4 ?_
      first | refine e_cmp_gtN 99 36 (by decide) rfl dX3_weighWord_33 rfl rfl (by omega) (by omega) (fun z1 => ?_) (fun z1 => ?_) | refine e_cmp_gt 99 36 (by decide) rfl dX3_weighWord_33 (fun z1 => ?_) (fun z1 => ?_)
      · omega
      refine e_il5 38 rfl dX3_weighWord_36 ?_
      refine e_il7 40 rfl dX3_weighWord_38 ?_
      refine e_ishrN 41 rfl dX3_weighWord_40 rfl rfl (by omega) (by omega) ?_
      refine e_iconst (nI 1) 42 rfl dX3_weighWord_41 ic_1 ?_
      refine e_iandN 43 rfl dX3_weighWord_42 rfl rfl ?_
      refine e_if_eqN 55 46 (by decide) rfl dX3_weighWord_43 rfl (Nat.lt_of_le_of_lt Nat.and_le_right (by decide)) (fun z2 => ?_) (fun z2 => ?_)
      rotate_left
      · have q : v.testBit i = true := by cases q : v.testBit i; exact absurd ((bit1 v i).mpr q) z2; rfl
        refine e_al4 48 rfl dX3_weighWord_46 ?_
        refine e_il7 50 rfl dX3_weighWord_48 ?_
        refine e_iconst (nI 0) 51 rfl dX3_weighWord_50 ic_0 ?_
        refine e_iast 52 rfl dX3_weighWord_51 (by assumption) (by assumption) (by first | rfl | simp only [pk_mul, nI_add]) (by omega) (by omega) ?_
        refine e_goto 93 (by decide) dX3_weighWord_52 ?_
        exact next 0 (by rw [el, if_pos q])
      have q : v.testBit i = false := (bit1 v i).mp z2
      rw [if_neg (by rw [q]; decide)] at el
      have gf : (i = 1 ∨ i = 4) → Ev E M_X3_weighWord 0 0 67 [some (.ref r), some (.ref g), some (.int (nI ld)), some (.ref b), some (.ref u), some (.int (nI v)), some (.int h6), some (.int (nI i))] [] μ1 K := by
        intro hgf
        rw [if_pos hgf] at el
        refine e_al4 69 rfl dX3_weighWord_67 ?_
        refine e_il7 71 rfl dX3_weighWord_69 ?_
        refine e_il6 73 rfl dX3_weighWord_71 ?_
        refine e_if_eq 80 76 (by decide) rfl dX3_weighWord_73 (fun z5 => ?_) (fun z5 => ?_)
        · refine e_iconst (nI 2) 81 rfl dX3_weighWord_80 ic_2 ?_
          refine e_iast 82 rfl dX3_weighWord_81 (by assumption) (by assumption) (by first | rfl | simp only [pk_mul, nI_add]) (by omega) (by omega) ?_
          refine e_goto 93 (by decide) dX3_weighWord_82 ?_
          exact next 2 (by rw [el, if_pos (hh6.mp z5)])
        · refine e_iconst (nI 5) 77 rfl dX3_weighWord_76 ic_5 ?_
          refine e_goto 81 (by decide) dX3_weighWord_77 ?_
          refine e_iast 82 rfl dX3_weighWord_81 (by assumption) (by assumption) (by first | rfl | simp only [pk_mul, nI_add]) (by omega) (by omega) ?_
          refine e_goto 93 (by decide) dX3_weighWord_82 ?_
          exact next 5 (by rw [el, if_neg (fun y => z5 (hh6.mpr y))])
      refine e_il7 57 rfl dX3_weighWord_55 ?_
      refine e_iconst (nI 1) 58 rfl dX3_weighWord_57 ic_1 ?_
      first | refine e_cmp_eqN 67 61 (by decide) rfl dX3_weighWord_58 rfl rfl (by omega) (by omega) (fun z3 => ?_) (fun z3 => ?_) | refine e_cmp_eq 67 61 (by decide) rfl dX3_weighWord_58 (fun z3 => ?_) (fun z3 => ?_)
      · exact gf (Or.inl z3)
      refine e_il7 63 rfl dX3_weighWord_61 ?_
      refine e_iconst (nI 4) 64 rfl dX3_weighWord_63 ic_4 ?_
      first | refine e_cmp_neN 85 67 (by decide) rfl dX3_weighWord_64 rfl rfl (by omega) (by omega) (fun z4 => ?_) (fun z4 => ?_) | refine e_cmp_ne 85 67 (by decide) rfl dX3_weighWord_64 (fun z4 => ?_) (fun z4 => ?_)
      · refine e_al4 87 rfl dX3_weighWord_85 ?_
        refine e_il7 89 rfl dX3_weighWord_87 ?_
        refine e_sipush (nI 1000) 92 rfl dX3_weighWord_89 sc_1000 ?_
        refine e_iast 93 rfl dX3_weighWord_92 (by assumption) (by assumption) (by first | rfl | simp only [pk_mul, nI_add]) (by omega) (by omega) ?_
        exact next 1000 (by rw [el, if_neg (by omega)])
      · exact gf (Or.inr z4)
  refine e_is5 12 rfl dX3_weighWord_10 (by decide) rfl ?_
  refine e_il5 14 rfl dX3_weighWord_12 ?_
  refine e_bipush (nI 13) 16 rfl dX3_weighWord_14 bc_13 ?_
  refine e_iandN 17 rfl dX3_weighWord_16 rfl rfl ?_
  refine e_if_eqN 24 20 (by decide) rfl dX3_weighWord_17 rfl (Nat.lt_of_le_of_lt Nat.and_le_right (by decide)) (fun z0 => ?_) (fun z0 => ?_)
  · refine e_iconst (nI 0) 25 rfl dX3_weighWord_24 ic_0 ?_
    refine e_is6 27 rfl dX3_weighWord_25 (by decide) rfl ?_
    refine e_iconst (nI 0) 28 rfl dX3_weighWord_27 ic_0 ?_
    refine e_is7 30 rfl dX3_weighWord_28 (by decide) rfl ?_
    exact loop 5 0 (by omega) μ Fr.rf (fun c hc' => by omega) (nI 0) ⟨fun _ => z0, fun _ => rfl⟩
  · refine e_iconst (nI 1) 21 rfl dX3_weighWord_20 ic_1 ?_
    refine e_goto 25 (by decide) dX3_weighWord_21 ?_
    refine e_is6 27 rfl dX3_weighWord_25 (by decide) rfl ?_
    refine e_iconst (nI 0) 28 rfl dX3_weighWord_27 ic_0 ?_
    refine e_is7 30 rfl dX3_weighWord_28 (by decide) rfl ?_
    exact loop 5 0 (by omega) μ Fr.rf (fun c hc' => by omega) (nI 1) ⟨fun q => absurd q (by decide), fun q => absurd q z0⟩
end WEIGH
