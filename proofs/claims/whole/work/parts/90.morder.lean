/-! NameDeskModel: order -/
section MORDER
variable {E : En} {μ : Mm} {K : Option Value → Mm → Prop}
noncomputable def rOf (S : Ast) (i : Nat) : Bool := match (aN S)[i]? with
  | some nm => rB S nm
  | none => false
noncomputable def kOf (S : Ast) (i : Nat) : List (List Nat) := match (aN S)[i]? with
  | some nm => kyW (aS S nm.1) (aB S) nm
  | none => []
theorem befN_ah {S : Ast} {i j : Nat} (hi : i < (aN S).length) (hj : j < i) : befN (aS S) (aB S) (aN S) i j = ahF (rOf S) (kOf S) i j := by
  rw [← bef_ah hj]
  unfold befN rOf kOf
  rw [List.getElem?_eq_getElem hi, List.getElem?_eq_getElem (show j < (aN S).length by omega)]
  rfl
theorem rnk_sorted {S : Ast} : (rnk (aS S) (aB S) (aN S)).Pairwise (fun x y => ahF (rOf S) (kOf S) x y = true) := by
  unfold rnk
  rw [List.pairwise_reverse]
  exact rnkR_sorted _ (fun i j hi hj => befN_ah hi hj)
theorem rnk_perm {S : Ast} : (rnk (aS S) (aB S) (aN S)).Perm (List.range (aN S).length) := (List.reverse_perm _).trans (rnkR_perm _)
theorem kyP_lt {S : Ast} {nm : Nm} {p : Nat} (h : p ∈ pkL S nm true) : p < nm.2.length := by
  have := chL_lt h
  unfold rK at this
  rw [rdK_len] at this
  exact this
theorem pkL_lt {S : Ast} {nm : Nm} {b : Bool} {p : Nat} (h : p ∈ pkL S nm b) : p < nm.2.length := by
  have := chL_lt h
  unfold rK at this
  rw [rdK_len] at this
  exact this
theorem pkL_len {S : Ast} {nm : Nm} {b : Bool} (hW : WF S) (hn : nm.2.length ≤ 8) : (pkL S nm b).length ≤ 8 := by
  unfold pkL
  refine chL_len ?_ (by unfold rK; rw [rdK_len]; exact hn)
  cases e : aS S nm.1 with
  | none => cases b <;> exact List.nodup_nil
  | some x =>
    have := hW.2.1 _ x e
    cases b
    · exact this.2.2.1.2.1
    · exact this.2.1.2.1
/-- all has been made ready for the order -/
def mRdy (μ : Mm) (m : Nat) (S : Ast) : Prop := ∀ i nm, (aN S)[i]? = some nm → mFs μ m i S nm ∧ mPk μ m i (pkL S nm true)
def orS (m : Nat) : Nat → Prop := fun q => q = m ∨ (m + 30 ≤ q ∧ q ≤ m + 37)
theorem orS_mQ {m : Nat} {μ' : Mm} (h : Fr (orS m) μ μ') : Fr (mQ m) μ μ' := h.mono (fun q a => by unfold orS at a; unfold mQ; omega)
theorem c_orderAll {m : Nat} {S : Ast} (hW : WF S) (hM : MI m S μ)
    (k : ∀ μ', Fr (orS m) μ μ' → (∀ g, g ≠ 44 → mF μ' m g = mF μ m g) → mRdy μ' m S → K none μ') : Cl E M_X10_orderAll [.ref m] μ K := by
  have n30 := hW.2.2.2.1.1
  have mk := hM.1.1
  refine Cl.of0 1 pn_X10 (Nat.le_of_ble_eq_true rfl) ⟨rfl, rfl⟩ rfl ?_
  refine e_al0 1 rfl dX10_orderAll_0 ?_
  refine e_invV0 [] 4 rfl dX10_orderAll_1 k_X10_225 mo_X10_firstAll rm_X10_orderAll_X10_firstAll ⟨rfl, rfl⟩ rfl rfl (by assumption) (Nat.le_of_ble_eq_true rfl) ?_
  refine c_firstAll hW hM (fun μ1 hF1 hf1 hs1 => ?_)
  refine e_iconst (nI 0) 5 rfl dX10_orderAll_4 ic_0 ?_
  refine e_is1 6 rfl dX10_orderAll_5 (by decide) rfl ?_
  have loop : ∀ (fu i : Nat), i + fu = (aN S).length → ∀ μ2, Fr (pkS m) μ1 μ2 → (∀ j nm, j < i → (aN S)[j]? = some nm → mPk μ2 m j (pkL S nm true)) → Ev E M_X10_orderAll 0 0 6 [some (.ref m), some (.int (nI i))] [] μ2 K := by
    intro fu
    induction fu with
    | zero =>
      intro i hi μ2 hF2 h2
      have hF02 : Fr (orS m) μ μ2 := (hF1.mono (S' := orS m) (fun q h => by unfold fsS at h; unfold orS; omega)).trans (hF2.mono (fun q h => by unfold pkS at h; unfold orS; omega))
      have hf02 : ∀ g, g ≠ 44 → mF μ2 m g = mF μ m g := fun g hg => by rw [(hF2.2.2.2.2.2 m (by unfold pkS; omega)).1]; exact hf1 g hg
      have hM2 : MI m S μ2 := hM.scr (orS_mQ hF02) (fun f hf => hf02 f (by omega))
      have mk2 := hM2.1.1
      have h20 := hM2.2.2.2.2.2.1.1
      refine e_il1 7 rfl dX10_orderAll_6 ?_
      refine e_al0 8 rfl dX10_orderAll_7 ?_
      first | refine e_getIv 11 rfl dX10_orderAll_8 f_X10_189 (by assumption) (by first | assumption | (simp only [mN_sF, mK_sF, mL_sF, mF_sF, mB_sF, mA_sF, mJ_sF, mP_sF, mO_sF, mN_sB, mK_sB, mL_sB, mF_sB, mB_sB, mA_sB, mJ_sB, mP_sB, mO_sB, mN_sA, mK_sA, mL_sA, mF_sA, mB_sA, mA_sA, mJ_sA, mP_sA, mO_sA, mN_sJ, mK_sJ, mL_sJ, mF_sJ, mB_sJ, mA_sJ, mJ_sJ, mP_sJ, mO_sJ, mN_sP, mK_sP, mL_sP, mF_sP, mB_sP, mA_sP, mJ_sP, mP_sP, mO_sP, mN_sO, mK_sO, mL_sO, mF_sO, mB_sO, mA_sO, mJ_sO, mP_sO, mO_sO, up2, if_true, if_false, eq_self, ite_true, ite_false, reduceIte, Nat.add_left_cancel_iff, Nat.add_eq_left, Nat.left_eq_add, Nat.reduceEqDiff]; assumption) | (simp only [mN_sF, mK_sF, mL_sF, mF_sF, mB_sF, mA_sF, mJ_sF, mP_sF, mO_sF, mN_sB, mK_sB, mL_sB, mF_sB, mB_sB, mA_sB, mJ_sB, mP_sB, mO_sB, mN_sA, mK_sA, mL_sA, mF_sA, mB_sA, mA_sA, mJ_sA, mP_sA, mO_sA, mN_sJ, mK_sJ, mL_sJ, mF_sJ, mB_sJ, mA_sJ, mJ_sJ, mP_sJ, mO_sJ, mN_sP, mK_sP, mL_sP, mF_sP, mB_sP, mA_sP, mJ_sP, mP_sP, mO_sP, mN_sO, mK_sO, mL_sO, mF_sO, mB_sO, mA_sO, mJ_sO, mP_sO, mO_sO, up2, if_true, if_false, eq_self, ite_true, ite_false, reduceIte, Nat.add_left_cancel_iff, Nat.add_eq_left, Nat.left_eq_add, Nat.reduceEqDiff]; done)) ?_ | refine e_getI 11 rfl dX10_orderAll_8 f_X10_189 (by assumption) ?_
      first | refine e_cmp_geN 26 14 (by decide) rfl dX10_orderAll_11 rfl rfl (by omega) (by omega) (fun y1 => ?_) (fun y1 => ?_) | refine e_cmp_ge 26 14 (by decide) rfl dX10_orderAll_11 (fun y1 => ?_) (fun y1 => ?_)
      rotate_left
      · omega
      refine e_ret dX10_orderAll_26 rfl ?_
      refine k μ2 hF02 hf02 (fun j nm hj => ⟨(hs1 j nm hj).fr hF2 (by unfold pkS; omega) (by unfold pkS; omega), h2 j nm (by have := (List.getElem?_eq_some_iff.mp hj).1; omega) hj⟩)
    | succ fu ih =>
      intro i hi μ2 hF2 h2
      have hF02 : Fr (orS m) μ μ2 := (hF1.mono (S' := orS m) (fun q h => by unfold fsS at h; unfold orS; omega)).trans (hF2.mono (fun q h => by unfold pkS at h; unfold orS; omega))
      have hf02 : ∀ g, g ≠ 44 → mF μ2 m g = mF μ m g := fun g hg => by rw [(hF2.2.2.2.2.2 m (by unfold pkS; omega)).1]; exact hf1 g hg
      have hM2 : MI m S μ2 := hM.scr (orS_mQ hF02) (fun f hf => hf02 f (by omega))
      have mk2 := hM2.1.1
      have h20 := hM2.2.2.2.2.2.1.1
      obtain ⟨nm, hnm⟩ : ∃ nm, (aN S)[i]? = some nm := ⟨_, List.getElem?_eq_getElem (by omega)⟩
      refine e_il1 7 rfl dX10_orderAll_6 ?_
      refine e_al0 8 rfl dX10_orderAll_7 ?_
      first | refine e_getIv 11 rfl dX10_orderAll_8 f_X10_189 (by assumption) (by first | assumption | (simp only [mN_sF, mK_sF, mL_sF, mF_sF, mB_sF, mA_sF, mJ_sF, mP_sF, mO_sF, mN_sB, mK_sB, mL_sB, mF_sB, mB_sB, mA_sB, mJ_sB, mP_sB, mO_sB, mN_sA, mK_sA, mL_sA, mF_sA, mB_sA, mA_sA, mJ_sA, mP_sA, mO_sA, mN_sJ, mK_sJ, mL_sJ, mF_sJ, mB_sJ, mA_sJ, mJ_sJ, mP_sJ, mO_sJ, mN_sP, mK_sP, mL_sP, mF_sP, mB_sP, mA_sP, mJ_sP, mP_sP, mO_sP, mN_sO, mK_sO, mL_sO, mF_sO, mB_sO, mA_sO, mJ_sO, mP_sO, mO_sO, up2, if_true, if_false, eq_self, ite_true, ite_false, reduceIte, Nat.add_left_cancel_iff, Nat.add_eq_left, Nat.left_eq_add, Nat.reduceEqDiff]; assumption) | (simp only [mN_sF, mK_sF, mL_sF, mF_sF, mB_sF, mA_sF, mJ_sF, mP_sF, mO_sF, mN_sB, mK_sB, mL_sB, mF_sB, mB_sB, mA_sB, mJ_sB, mP_sB, mO_sB, mN_sA, mK_sA, mL_sA, mF_sA, mB_sA, mA_sA, mJ_sA, mP_sA, mO_sA, mN_sJ, mK_sJ, mL_sJ, mF_sJ, mB_sJ, mA_sJ, mJ_sJ, mP_sJ, mO_sJ, mN_sP, mK_sP, mL_sP, mF_sP, mB_sP, mA_sP, mJ_sP, mP_sP, mO_sP, mN_sO, mK_sO, mL_sO, mF_sO, mB_sO, mA_sO, mJ_sO, mP_sO, mO_sO, up2, if_true, if_false, eq_self, ite_true, ite_false, reduceIte, Nat.add_left_cancel_iff, Nat.add_eq_left, Nat.left_eq_add, Nat.reduceEqDiff]; done)) ?_ | refine e_getI 11 rfl dX10_orderAll_8 f_X10_189 (by assumption) ?_
      first | refine e_cmp_geN 26 14 (by decide) rfl dX10_orderAll_11 rfl rfl (by omega) (by omega) (fun y1 => ?_) (fun y1 => ?_) | refine e_cmp_ge 26 14 (by decide) rfl dX10_orderAll_11 (fun y1 => ?_) (fun y1 => ?_)
      · omega
      refine e_al0 15 rfl dX10_orderAll_14 ?_
      refine e_il1 16 rfl dX10_orderAll_15 ?_
      refine e_iconst (nI 1) 17 rfl dX10_orderAll_16 ic_1 ?_
      refine e_invV0 [_, _] 20 rfl dX10_orderAll_17 k_X10_228 mo_X10_pick rm_X10_orderAll_X10_pick ⟨rfl, rfl⟩ rfl rfl (by assumption) (Nat.le_of_ble_eq_true rfl) ?_
      refine c_pick (b := true) hW hM2 hnm ((hs1 i nm hnm).fr hF2 (by unfold pkS; omega) (by unfold pkS; omega)) (fun μ3 hF3 hp3 hu3 hv3 => ?_)
      refine e_ii1 (nI (_ + 1)) 23 rfl dX10_orderAll_20 (ii1 _) rfl ?_
      refine e_goto 6 (by decide) dX10_orderAll_23 ?_
      refine ih (i + 1) (by omega) μ3 (hF2.trans hF3) (fun j nm' hj hn => ?_)
      by_cases c : j = i
      · subst c; rw [hnm] at hn; cases hn; exact hp3
      · obtain ⟨g1, g2⟩ := h2 j nm' (by omega) hn
        have hl8 := pkL_len (b := true) hW (hW.2.2.2.1.2 nm' (List.mem_of_getElem? hn)).2.2.1
        refine ⟨by rw [hu3 j c]; exact g1, g2.of (fun w hw => ?_)⟩
        rw [List.length_map] at hw
        exact hv3 _ (by omega)
  exact loop (aN S).length 0 (by omega) μ1 Fr.rf (fun j nm hj => by omega)
theorem c_ahead {m i j : Nat} {S : Ast} (hW : WF S) (hM : MI m S μ) (hR : mRdy μ m S) (hi : i < (aN S).length) (hj : j < (aN S).length) (k : K (some (.int (bI (ahF (rOf S) (kOf S) i j)))) μ) : Cl E M_X10_ahead [.ref m, .int (nI i), .int (nI j)] μ K := by
  have n30 := hW.2.2.2.1.1
  have mk := hM.1.1
  obtain ⟨a, ha⟩ : ∃ a, (aN S)[i]? = some a := ⟨_, List.getElem?_eq_getElem hi⟩
  obtain ⟨b, hb⟩ : ∃ b, (aN S)[j]? = some b := ⟨_, List.getElem?_eq_getElem hj⟩
  have hwa := hW.2.2.2.1.2 a (List.mem_of_getElem? ha)
  have hwb := hW.2.2.2.1.2 b (List.mem_of_getElem? hb)
  obtain ⟨⟨r1, _⟩, m1, p1⟩ := hR i a ha
  obtain ⟨⟨r2, _⟩, m2, p2⟩ := hR j b hb
  have e1 : rOf S i = rB S a := by unfold rOf; rw [ha]
  have e2 : rOf S j = rB S b := by unfold rOf; rw [hb]
  have e3 : kOf S i = kyW (aS S a.1) (aB S) a := by unfold kOf; rw [ha]
  have e4 : kOf S j = kyW (aS S b.1) (aB S) b := by unfold kOf; rw [hb]
  have la8 := pkL_len (b := true) hW hwa.2.2.1
  have lb8 := pkL_len (b := true) hW hwb.2.2.1
  have hka : (kOf S i).length = (pkL S a true).length := by rw [e3]; unfold kyW; rw [List.length_map]; rfl
  have hkb : (kOf S j).length = (pkL S b true).length := by rw [e4]; unfold kyW; rw [List.length_map]; rfl
  obtain ⟨pr, kr, lr⟩ := hM.1.isRead
  obtain ⟨pm, km, lm⟩ := hM.1.pickedMany
  obtain ⟨pp, kp, lp⟩ := hM.1.picked
  unfold ahF at k
  rw [e1, e2] at k
  obtain ⟨ka, hkae⟩ : ∃ ka, ka = kOf S i := ⟨_, rfl⟩
  obtain ⟨kb, hkbe⟩ : ∃ kb, kb = kOf S j := ⟨_, rfl⟩
  rw [← hkae] at k e3 hka
  rw [← hkbe] at k e4 hkb
  have lt3 : decide (i < j) = true → bI (decide (i < j)) = nI 1 := fun h => by rw [h]; rfl
  have lt4 : decide (i < j) = false → bI (decide (i < j)) = nI 0 := fun h => by rw [h]; rfl
  have loop : rB S a = true → rB S b = true → ∀ (fu t : Nat), t + fu = min ka.length kb.length → ltK ka kb = ltK (ka.drop t) (kb.drop t) → (ka = kb ↔ ka.drop t = kb.drop t) → ∀ q4, nl q4 = true → Ev E M_X10_ahead 0 0 44 [some (.ref m), some (.int (nI i)), some (.int (nI j)), some (.int (nI t)), q4] [] μ K := by
    intro ra rb
    rw [ra, rb, if_pos rfl, if_pos rfl] at k
    have fin : ∀ t q4, (ka.length ≤ t ∨ kb.length ≤ t) → t ≤ ka.length → t ≤ kb.length → ltK ka kb = ltK (ka.drop t) (kb.drop t) → (ka = kb ↔ ka.drop t = kb.drop t) → Ev E M_X10_ahead 0 0 114 [some (.ref m), some (.int (nI i)), some (.int (nI j)), some (.int (nI t)), q4] [] μ K := by
      intro t q4 hor h1 h2 hlt heq
      have hend : ka.drop t = [] ∨ kb.drop t = [] := by
        rcases hor with h | h
        · exact Or.inl (List.drop_eq_nil_of_le h)
        · exact Or.inr (List.drop_eq_nil_of_le h)
      rw [ltK_end hend, List.length_drop, List.length_drop] at hlt
      have heq2 : ka = kb ↔ ka.length = kb.length := by
        rw [heq]
        constructor
        · intro q
          have := congrArg List.length q
          rw [List.length_drop, List.length_drop] at this
          omega
        · intro q
          rw [List.drop_eq_nil_of_le (by omega), List.drop_eq_nil_of_le (by omega)]
      rw [hlt] at k
      refine e_al0 115 rfl dX10_ahead_114 ?_
      refine e_getR 118 rfl dX10_ahead_115 f_X10_123 (by assumption) (by assumption) ?_
      refine e_il1 119 rfl dX10_ahead_118 ?_
      first | refine e_ialdv 120 rfl dX10_ahead_119 (by assumption) (by assumption) (by first | rfl | simp only [pk_mul, nI_add]) (by omega) (by omega) (by first | assumption | (simp only [mN_sF, mK_sF, mL_sF, mF_sF, mB_sF, mA_sF, mJ_sF, mP_sF, mO_sF, mN_sB, mK_sB, mL_sB, mF_sB, mB_sB, mA_sB, mJ_sB, mP_sB, mO_sB, mN_sA, mK_sA, mL_sA, mF_sA, mB_sA, mA_sA, mJ_sA, mP_sA, mO_sA, mN_sJ, mK_sJ, mL_sJ, mF_sJ, mB_sJ, mA_sJ, mJ_sJ, mP_sJ, mO_sJ, mN_sP, mK_sP, mL_sP, mF_sP, mB_sP, mA_sP, mJ_sP, mP_sP, mO_sP, mN_sO, mK_sO, mL_sO, mF_sO, mB_sO, mA_sO, mJ_sO, mP_sO, mO_sO, up2, if_true, if_false, eq_self, ite_true, ite_false, reduceIte, Nat.add_left_cancel_iff, Nat.add_eq_left, Nat.left_eq_add, Nat.reduceEqDiff]; assumption) | (simp only [mN_sF, mK_sF, mL_sF, mF_sF, mB_sF, mA_sF, mJ_sF, mP_sF, mO_sF, mN_sB, mK_sB, mL_sB, mF_sB, mB_sB, mA_sB, mJ_sB, mP_sB, mO_sB, mN_sA, mK_sA, mL_sA, mF_sA, mB_sA, mA_sA, mJ_sA, mP_sA, mO_sA, mN_sJ, mK_sJ, mL_sJ, mF_sJ, mB_sJ, mA_sJ, mJ_sJ, mP_sJ, mO_sJ, mN_sP, mK_sP, mL_sP, mF_sP, mB_sP, mA_sP, mJ_sP, mP_sP, mO_sP, mN_sO, mK_sO, mL_sO, mF_sO, mB_sO, mA_sO, mJ_sO, mP_sO, mO_sO, up2, if_true, if_false, eq_self, ite_true, ite_false, reduceIte, Nat.add_left_cancel_iff, Nat.add_eq_left, Nat.left_eq_add, Nat.reduceEqDiff]; done)) ?_ | refine e_iald 120 rfl dX10_ahead_119 (by assumption) (by assumption) (by first | rfl | simp only [pk_mul, nI_add]) (by omega) (by omega) ?_
      refine e_al0 121 rfl dX10_ahead_120 ?_
      refine e_getR 124 rfl dX10_ahead_121 f_X10_123 (by assumption) (by assumption) ?_
      refine e_il2 125 rfl dX10_ahead_124 ?_
      first | refine e_ialdv 126 rfl dX10_ahead_125 (by assumption) (by assumption) (by first | rfl | simp only [pk_mul, nI_add]) (by omega) (by omega) (by first | assumption | (simp only [mN_sF, mK_sF, mL_sF, mF_sF, mB_sF, mA_sF, mJ_sF, mP_sF, mO_sF, mN_sB, mK_sB, mL_sB, mF_sB, mB_sB, mA_sB, mJ_sB, mP_sB, mO_sB, mN_sA, mK_sA, mL_sA, mF_sA, mB_sA, mA_sA, mJ_sA, mP_sA, mO_sA, mN_sJ, mK_sJ, mL_sJ, mF_sJ, mB_sJ, mA_sJ, mJ_sJ, mP_sJ, mO_sJ, mN_sP, mK_sP, mL_sP, mF_sP, mB_sP, mA_sP, mJ_sP, mP_sP, mO_sP, mN_sO, mK_sO, mL_sO, mF_sO, mB_sO, mA_sO, mJ_sO, mP_sO, mO_sO, up2, if_true, if_false, eq_self, ite_true, ite_false, reduceIte, Nat.add_left_cancel_iff, Nat.add_eq_left, Nat.left_eq_add, Nat.reduceEqDiff]; assumption) | (simp only [mN_sF, mK_sF, mL_sF, mF_sF, mB_sF, mA_sF, mJ_sF, mP_sF, mO_sF, mN_sB, mK_sB, mL_sB, mF_sB, mB_sB, mA_sB, mJ_sB, mP_sB, mO_sB, mN_sA, mK_sA, mL_sA, mF_sA, mB_sA, mA_sA, mJ_sA, mP_sA, mO_sA, mN_sJ, mK_sJ, mL_sJ, mF_sJ, mB_sJ, mA_sJ, mJ_sJ, mP_sJ, mO_sJ, mN_sP, mK_sP, mL_sP, mF_sP, mB_sP, mA_sP, mJ_sP, mP_sP, mO_sP, mN_sO, mK_sO, mL_sO, mF_sO, mB_sO, mA_sO, mJ_sO, mP_sO, mO_sO, up2, if_true, if_false, eq_self, ite_true, ite_false, reduceIte, Nat.add_left_cancel_iff, Nat.add_eq_left, Nat.left_eq_add, Nat.reduceEqDiff]; done)) ?_ | refine e_iald 126 rfl dX10_ahead_125 (by assumption) (by assumption) (by first | rfl | simp only [pk_mul, nI_add]) (by omega) (by omega) ?_
      first | refine e_cmp_eqN 152 129 (by decide) rfl dX10_ahead_126 rfl rfl (by omega) (by omega) (fun y5 => ?_) (fun y5 => ?_) | refine e_cmp_eq 152 129 (by decide) rfl dX10_ahead_126 (fun y5 => ?_) (fun y5 => ?_)
      · have hl : ka.length = kb.length := by omega
        rw [show decide (ka.length - t < kb.length - t) = false from decide_eq_false (by omega), show decide (ka = kb) = true from decide_eq_true (heq2.mpr hl), Bool.false_or, Bool.true_and] at k
        refine e_il1 153 rfl dX10_ahead_152 ?_
        refine e_il2 154 rfl dX10_ahead_153 ?_
        first | refine e_cmp_geN 161 157 (by decide) rfl dX10_ahead_154 rfl rfl (by omega) (by omega) (fun y6 => ?_) (fun y6 => ?_) | refine e_cmp_ge 161 157 (by decide) rfl dX10_ahead_154 (fun y6 => ?_) (fun y6 => ?_)
        · refine e_iconst (nI 0) 162 rfl dX10_ahead_161 ic_0 ?_
          refine e_zret dX10_ahead_162 rfl (by first | exact z0 | exact z1 | exact bI01 _ | assumption) ?_
          rw [show decide (i < j) = false from decide_eq_false (by omega)] at k
          exact k
        · refine e_iconst (nI 1) 158 rfl dX10_ahead_157 ic_1 ?_
          refine e_goto 162 (by decide) dX10_ahead_158 ?_
          refine e_zret dX10_ahead_162 rfl (by first | exact z0 | exact z1 | exact bI01 _ | assumption) ?_
          rw [show decide (i < j) = true from decide_eq_true (by omega)] at k
          exact k
      · have hl : ¬ (ka = kb) := fun q => by have := heq2.mp q; omega
        rw [show decide (ka = kb) = false from decide_eq_false hl, Bool.false_and, Bool.or_false] at k
        refine e_al0 130 rfl dX10_ahead_129 ?_
        refine e_getR 133 rfl dX10_ahead_130 f_X10_123 (by assumption) (by assumption) ?_
        refine e_il1 134 rfl dX10_ahead_133 ?_
        first | refine e_ialdv 135 rfl dX10_ahead_134 (by assumption) (by assumption) (by first | rfl | simp only [pk_mul, nI_add]) (by omega) (by omega) (by first | assumption | (simp only [mN_sF, mK_sF, mL_sF, mF_sF, mB_sF, mA_sF, mJ_sF, mP_sF, mO_sF, mN_sB, mK_sB, mL_sB, mF_sB, mB_sB, mA_sB, mJ_sB, mP_sB, mO_sB, mN_sA, mK_sA, mL_sA, mF_sA, mB_sA, mA_sA, mJ_sA, mP_sA, mO_sA, mN_sJ, mK_sJ, mL_sJ, mF_sJ, mB_sJ, mA_sJ, mJ_sJ, mP_sJ, mO_sJ, mN_sP, mK_sP, mL_sP, mF_sP, mB_sP, mA_sP, mJ_sP, mP_sP, mO_sP, mN_sO, mK_sO, mL_sO, mF_sO, mB_sO, mA_sO, mJ_sO, mP_sO, mO_sO, up2, if_true, if_false, eq_self, ite_true, ite_false, reduceIte, Nat.add_left_cancel_iff, Nat.add_eq_left, Nat.left_eq_add, Nat.reduceEqDiff]; assumption) | (simp only [mN_sF, mK_sF, mL_sF, mF_sF, mB_sF, mA_sF, mJ_sF, mP_sF, mO_sF, mN_sB, mK_sB, mL_sB, mF_sB, mB_sB, mA_sB, mJ_sB, mP_sB, mO_sB, mN_sA, mK_sA, mL_sA, mF_sA, mB_sA, mA_sA, mJ_sA, mP_sA, mO_sA, mN_sJ, mK_sJ, mL_sJ, mF_sJ, mB_sJ, mA_sJ, mJ_sJ, mP_sJ, mO_sJ, mN_sP, mK_sP, mL_sP, mF_sP, mB_sP, mA_sP, mJ_sP, mP_sP, mO_sP, mN_sO, mK_sO, mL_sO, mF_sO, mB_sO, mA_sO, mJ_sO, mP_sO, mO_sO, up2, if_true, if_false, eq_self, ite_true, ite_false, reduceIte, Nat.add_left_cancel_iff, Nat.add_eq_left, Nat.left_eq_add, Nat.reduceEqDiff]; done)) ?_ | refine e_iald 135 rfl dX10_ahead_134 (by assumption) (by assumption) (by first | rfl | simp only [pk_mul, nI_add]) (by omega) (by omega) ?_
        refine e_al0 136 rfl dX10_ahead_135 ?_
        refine e_getR 139 rfl dX10_ahead_136 f_X10_123 (by assumption) (by assumption) ?_
        refine e_il2 140 rfl dX10_ahead_139 ?_
        first | refine e_ialdv 141 rfl dX10_ahead_140 (by assumption) (by assumption) (by first | rfl | simp only [pk_mul, nI_add]) (by omega) (by omega) (by first | assumption | (simp only [mN_sF, mK_sF, mL_sF, mF_sF, mB_sF, mA_sF, mJ_sF, mP_sF, mO_sF, mN_sB, mK_sB, mL_sB, mF_sB, mB_sB, mA_sB, mJ_sB, mP_sB, mO_sB, mN_sA, mK_sA, mL_sA, mF_sA, mB_sA, mA_sA, mJ_sA, mP_sA, mO_sA, mN_sJ, mK_sJ, mL_sJ, mF_sJ, mB_sJ, mA_sJ, mJ_sJ, mP_sJ, mO_sJ, mN_sP, mK_sP, mL_sP, mF_sP, mB_sP, mA_sP, mJ_sP, mP_sP, mO_sP, mN_sO, mK_sO, mL_sO, mF_sO, mB_sO, mA_sO, mJ_sO, mP_sO, mO_sO, up2, if_true, if_false, eq_self, ite_true, ite_false, reduceIte, Nat.add_left_cancel_iff, Nat.add_eq_left, Nat.left_eq_add, Nat.reduceEqDiff]; assumption) | (simp only [mN_sF, mK_sF, mL_sF, mF_sF, mB_sF, mA_sF, mJ_sF, mP_sF, mO_sF, mN_sB, mK_sB, mL_sB, mF_sB, mB_sB, mA_sB, mJ_sB, mP_sB, mO_sB, mN_sA, mK_sA, mL_sA, mF_sA, mB_sA, mA_sA, mJ_sA, mP_sA, mO_sA, mN_sJ, mK_sJ, mL_sJ, mF_sJ, mB_sJ, mA_sJ, mJ_sJ, mP_sJ, mO_sJ, mN_sP, mK_sP, mL_sP, mF_sP, mB_sP, mA_sP, mJ_sP, mP_sP, mO_sP, mN_sO, mK_sO, mL_sO, mF_sO, mB_sO, mA_sO, mJ_sO, mP_sO, mO_sO, up2, if_true, if_false, eq_self, ite_true, ite_false, reduceIte, Nat.add_left_cancel_iff, Nat.add_eq_left, Nat.left_eq_add, Nat.reduceEqDiff]; done)) ?_ | refine e_iald 141 rfl dX10_ahead_140 (by assumption) (by assumption) (by first | rfl | simp only [pk_mul, nI_add]) (by omega) (by omega) ?_
        first | refine e_cmp_geN 148 144 (by decide) rfl dX10_ahead_141 rfl rfl (by omega) (by omega) (fun y6 => ?_) (fun y6 => ?_) | refine e_cmp_ge 148 144 (by decide) rfl dX10_ahead_141 (fun y6 => ?_) (fun y6 => ?_)
        · refine e_iconst (nI 0) 149 rfl dX10_ahead_148 ic_0 ?_
          refine e_goto 162 (by decide) dX10_ahead_149 ?_
          refine e_zret dX10_ahead_162 rfl (by first | exact z0 | exact z1 | exact bI01 _ | assumption) ?_
          rw [show decide (ka.length - t < kb.length - t) = false from decide_eq_false (by omega)] at k
          exact k
        · refine e_iconst (nI 1) 145 rfl dX10_ahead_144 ic_1 ?_
          refine e_goto 162 (by decide) dX10_ahead_145 ?_
          refine e_zret dX10_ahead_162 rfl (by first | exact z0 | exact z1 | exact bI01 _ | assumption) ?_
          rw [show decide (ka.length - t < kb.length - t) = true from decide_eq_true (by omega)] at k
          exact k
    intro fu
    induction fu with
    | zero =>
      intro t ht hlt heq q4 hq4
      refine e_il3 45 rfl dX10_ahead_44 ?_
      refine e_al0 46 rfl dX10_ahead_45 ?_
      refine e_getR 49 rfl dX10_ahead_46 f_X10_123 (by assumption) (by assumption) ?_
      refine e_il1 50 rfl dX10_ahead_49 ?_
      first | refine e_ialdv 51 rfl dX10_ahead_50 (by assumption) (by assumption) (by first | rfl | simp only [pk_mul, nI_add]) (by omega) (by omega) (by first | assumption | (simp only [mN_sF, mK_sF, mL_sF, mF_sF, mB_sF, mA_sF, mJ_sF, mP_sF, mO_sF, mN_sB, mK_sB, mL_sB, mF_sB, mB_sB, mA_sB, mJ_sB, mP_sB, mO_sB, mN_sA, mK_sA, mL_sA, mF_sA, mB_sA, mA_sA, mJ_sA, mP_sA, mO_sA, mN_sJ, mK_sJ, mL_sJ, mF_sJ, mB_sJ, mA_sJ, mJ_sJ, mP_sJ, mO_sJ, mN_sP, mK_sP, mL_sP, mF_sP, mB_sP, mA_sP, mJ_sP, mP_sP, mO_sP, mN_sO, mK_sO, mL_sO, mF_sO, mB_sO, mA_sO, mJ_sO, mP_sO, mO_sO, up2, if_true, if_false, eq_self, ite_true, ite_false, reduceIte, Nat.add_left_cancel_iff, Nat.add_eq_left, Nat.left_eq_add, Nat.reduceEqDiff]; assumption) | (simp only [mN_sF, mK_sF, mL_sF, mF_sF, mB_sF, mA_sF, mJ_sF, mP_sF, mO_sF, mN_sB, mK_sB, mL_sB, mF_sB, mB_sB, mA_sB, mJ_sB, mP_sB, mO_sB, mN_sA, mK_sA, mL_sA, mF_sA, mB_sA, mA_sA, mJ_sA, mP_sA, mO_sA, mN_sJ, mK_sJ, mL_sJ, mF_sJ, mB_sJ, mA_sJ, mJ_sJ, mP_sJ, mO_sJ, mN_sP, mK_sP, mL_sP, mF_sP, mB_sP, mA_sP, mJ_sP, mP_sP, mO_sP, mN_sO, mK_sO, mL_sO, mF_sO, mB_sO, mA_sO, mJ_sO, mP_sO, mO_sO, up2, if_true, if_false, eq_self, ite_true, ite_false, reduceIte, Nat.add_left_cancel_iff, Nat.add_eq_left, Nat.left_eq_add, Nat.reduceEqDiff]; done)) ?_ | refine e_iald 51 rfl dX10_ahead_50 (by assumption) (by assumption) (by first | rfl | simp only [pk_mul, nI_add]) (by omega) (by omega) ?_
      first | refine e_cmp_geN 114 54 (by decide) rfl dX10_ahead_51 rfl rfl (by omega) (by omega) (fun y3 => ?_) (fun y3 => ?_) | refine e_cmp_ge 114 54 (by decide) rfl dX10_ahead_51 (fun y3 => ?_) (fun y3 => ?_)
      · exact fin t _ (Or.inl (by omega)) (by omega) (by omega) hlt heq
      refine e_il3 55 rfl dX10_ahead_54 ?_
      refine e_al0 56 rfl dX10_ahead_55 ?_
      refine e_getR 59 rfl dX10_ahead_56 f_X10_123 (by assumption) (by assumption) ?_
      refine e_il2 60 rfl dX10_ahead_59 ?_
      first | refine e_ialdv 61 rfl dX10_ahead_60 (by assumption) (by assumption) (by first | rfl | simp only [pk_mul, nI_add]) (by omega) (by omega) (by first | assumption | (simp only [mN_sF, mK_sF, mL_sF, mF_sF, mB_sF, mA_sF, mJ_sF, mP_sF, mO_sF, mN_sB, mK_sB, mL_sB, mF_sB, mB_sB, mA_sB, mJ_sB, mP_sB, mO_sB, mN_sA, mK_sA, mL_sA, mF_sA, mB_sA, mA_sA, mJ_sA, mP_sA, mO_sA, mN_sJ, mK_sJ, mL_sJ, mF_sJ, mB_sJ, mA_sJ, mJ_sJ, mP_sJ, mO_sJ, mN_sP, mK_sP, mL_sP, mF_sP, mB_sP, mA_sP, mJ_sP, mP_sP, mO_sP, mN_sO, mK_sO, mL_sO, mF_sO, mB_sO, mA_sO, mJ_sO, mP_sO, mO_sO, up2, if_true, if_false, eq_self, ite_true, ite_false, reduceIte, Nat.add_left_cancel_iff, Nat.add_eq_left, Nat.left_eq_add, Nat.reduceEqDiff]; assumption) | (simp only [mN_sF, mK_sF, mL_sF, mF_sF, mB_sF, mA_sF, mJ_sF, mP_sF, mO_sF, mN_sB, mK_sB, mL_sB, mF_sB, mB_sB, mA_sB, mJ_sB, mP_sB, mO_sB, mN_sA, mK_sA, mL_sA, mF_sA, mB_sA, mA_sA, mJ_sA, mP_sA, mO_sA, mN_sJ, mK_sJ, mL_sJ, mF_sJ, mB_sJ, mA_sJ, mJ_sJ, mP_sJ, mO_sJ, mN_sP, mK_sP, mL_sP, mF_sP, mB_sP, mA_sP, mJ_sP, mP_sP, mO_sP, mN_sO, mK_sO, mL_sO, mF_sO, mB_sO, mA_sO, mJ_sO, mP_sO, mO_sO, up2, if_true, if_false, eq_self, ite_true, ite_false, reduceIte, Nat.add_left_cancel_iff, Nat.add_eq_left, Nat.left_eq_add, Nat.reduceEqDiff]; done)) ?_ | refine e_iald 61 rfl dX10_ahead_60 (by assumption) (by assumption) (by first | rfl | simp only [pk_mul, nI_add]) (by omega) (by omega) ?_
      first | refine e_cmp_geN 114 64 (by decide) rfl dX10_ahead_61 rfl rfl (by omega) (by omega) (fun y4 => ?_) (fun y4 => ?_) | refine e_cmp_ge 114 64 (by decide) rfl dX10_ahead_61 (fun y4 => ?_) (fun y4 => ?_)
      · exact fin t _ (Or.inr (by omega)) (by omega) (by omega) hlt heq
      · omega
    | succ fu ih =>
      intro t ht hlt heq q4 hq4
      have h1 : t < ka.length := by omega
      have h2 : t < kb.length := by omega
      have t1 : t < (pkL S a true).length := by omega
      have t2 : t < (pkL S b true).length := by omega
      have v1 : mA μ (m + 36) (8 * i + t) = nI (8 * i + (pkL S a true)[t]) := p1 t _ (by rw [List.getElem?_map, List.getElem?_eq_getElem t1]; rfl)
      have v2 : mA μ (m + 36) (8 * j + t) = nI (8 * j + (pkL S b true)[t]) := p2 t _ (by rw [List.getElem?_map, List.getElem?_eq_getElem t2]; rfl)
      have q1 := pkL_lt (List.getElem_mem t1)
      have q2 := pkL_lt (List.getElem_mem t2)
      have w1 : ka[t] = foldL a.2[(pkL S a true)[t]] := by
        have : ka[t] = (kyW (aS S a.1) (aB S) a)[t]'(by rw [← e3]; exact h1) := by simp only [e3]
        rw [this]
        have : (kyW (aS S a.1) (aB S) a)[t]'(by rw [← e3]; exact h1) = (fsN a).getD (pkL S a true)[t] [] := List.getElem_map ..
        rw [this, fsN_get q1]
      have w2 : kb[t] = foldL b.2[(pkL S b true)[t]] := by
        have : kb[t] = (kyW (aS S b.1) (aB S) b)[t]'(by rw [← e4]; exact h2) := by simp only [e4]
        rw [this]
        have : (kyW (aS S b.1) (aB S) b)[t]'(by rw [← e4]; exact h2) = (fsN b).getD (pkL S b true)[t] [] := List.getElem_map ..
        rw [this, fsN_get q2]
      have d1 := (hM.2.2.2.2.2.1.2 i a ha).2.2 _ _ (List.getElem?_eq_getElem q1)
      have d2 := (hM.2.2.2.2.2.1.2 j b hb).2.2 _ _ (List.getElem?_eq_getElem q2)
      have x1 := wordL (hwa.2.2.2 _ (List.getElem_mem q1))
      have x2 := wordL (hwb.2.2.2 _ (List.getElem_mem q2))
      have a8 := hwa.2.2.1
      have b8 := hwb.2.2.1
      rw [ltK_drop h1 h2] at hlt
      refine e_il3 45 rfl dX10_ahead_44 ?_
      refine e_al0 46 rfl dX10_ahead_45 ?_
      refine e_getR 49 rfl dX10_ahead_46 f_X10_123 (by assumption) (by assumption) ?_
      refine e_il1 50 rfl dX10_ahead_49 ?_
      first | refine e_ialdv 51 rfl dX10_ahead_50 (by assumption) (by assumption) (by first | rfl | simp only [pk_mul, nI_add]) (by omega) (by omega) (by first | assumption | (simp only [mN_sF, mK_sF, mL_sF, mF_sF, mB_sF, mA_sF, mJ_sF, mP_sF, mO_sF, mN_sB, mK_sB, mL_sB, mF_sB, mB_sB, mA_sB, mJ_sB, mP_sB, mO_sB, mN_sA, mK_sA, mL_sA, mF_sA, mB_sA, mA_sA, mJ_sA, mP_sA, mO_sA, mN_sJ, mK_sJ, mL_sJ, mF_sJ, mB_sJ, mA_sJ, mJ_sJ, mP_sJ, mO_sJ, mN_sP, mK_sP, mL_sP, mF_sP, mB_sP, mA_sP, mJ_sP, mP_sP, mO_sP, mN_sO, mK_sO, mL_sO, mF_sO, mB_sO, mA_sO, mJ_sO, mP_sO, mO_sO, up2, if_true, if_false, eq_self, ite_true, ite_false, reduceIte, Nat.add_left_cancel_iff, Nat.add_eq_left, Nat.left_eq_add, Nat.reduceEqDiff]; assumption) | (simp only [mN_sF, mK_sF, mL_sF, mF_sF, mB_sF, mA_sF, mJ_sF, mP_sF, mO_sF, mN_sB, mK_sB, mL_sB, mF_sB, mB_sB, mA_sB, mJ_sB, mP_sB, mO_sB, mN_sA, mK_sA, mL_sA, mF_sA, mB_sA, mA_sA, mJ_sA, mP_sA, mO_sA, mN_sJ, mK_sJ, mL_sJ, mF_sJ, mB_sJ, mA_sJ, mJ_sJ, mP_sJ, mO_sJ, mN_sP, mK_sP, mL_sP, mF_sP, mB_sP, mA_sP, mJ_sP, mP_sP, mO_sP, mN_sO, mK_sO, mL_sO, mF_sO, mB_sO, mA_sO, mJ_sO, mP_sO, mO_sO, up2, if_true, if_false, eq_self, ite_true, ite_false, reduceIte, Nat.add_left_cancel_iff, Nat.add_eq_left, Nat.left_eq_add, Nat.reduceEqDiff]; done)) ?_ | refine e_iald 51 rfl dX10_ahead_50 (by assumption) (by assumption) (by first | rfl | simp only [pk_mul, nI_add]) (by omega) (by omega) ?_
      first | refine e_cmp_geN 114 54 (by decide) rfl dX10_ahead_51 rfl rfl (by omega) (by omega) (fun y3 => ?_) (fun y3 => ?_) | refine e_cmp_ge 114 54 (by decide) rfl dX10_ahead_51 (fun y3 => ?_) (fun y3 => ?_)
      · omega
      refine e_il3 55 rfl dX10_ahead_54 ?_
      refine e_al0 56 rfl dX10_ahead_55 ?_
      refine e_getR 59 rfl dX10_ahead_56 f_X10_123 (by assumption) (by assumption) ?_
      refine e_il2 60 rfl dX10_ahead_59 ?_
      first | refine e_ialdv 61 rfl dX10_ahead_60 (by assumption) (by assumption) (by first | rfl | simp only [pk_mul, nI_add]) (by omega) (by omega) (by first | assumption | (simp only [mN_sF, mK_sF, mL_sF, mF_sF, mB_sF, mA_sF, mJ_sF, mP_sF, mO_sF, mN_sB, mK_sB, mL_sB, mF_sB, mB_sB, mA_sB, mJ_sB, mP_sB, mO_sB, mN_sA, mK_sA, mL_sA, mF_sA, mB_sA, mA_sA, mJ_sA, mP_sA, mO_sA, mN_sJ, mK_sJ, mL_sJ, mF_sJ, mB_sJ, mA_sJ, mJ_sJ, mP_sJ, mO_sJ, mN_sP, mK_sP, mL_sP, mF_sP, mB_sP, mA_sP, mJ_sP, mP_sP, mO_sP, mN_sO, mK_sO, mL_sO, mF_sO, mB_sO, mA_sO, mJ_sO, mP_sO, mO_sO, up2, if_true, if_false, eq_self, ite_true, ite_false, reduceIte, Nat.add_left_cancel_iff, Nat.add_eq_left, Nat.left_eq_add, Nat.reduceEqDiff]; assumption) | (simp only [mN_sF, mK_sF, mL_sF, mF_sF, mB_sF, mA_sF, mJ_sF, mP_sF, mO_sF, mN_sB, mK_sB, mL_sB, mF_sB, mB_sB, mA_sB, mJ_sB, mP_sB, mO_sB, mN_sA, mK_sA, mL_sA, mF_sA, mB_sA, mA_sA, mJ_sA, mP_sA, mO_sA, mN_sJ, mK_sJ, mL_sJ, mF_sJ, mB_sJ, mA_sJ, mJ_sJ, mP_sJ, mO_sJ, mN_sP, mK_sP, mL_sP, mF_sP, mB_sP, mA_sP, mJ_sP, mP_sP, mO_sP, mN_sO, mK_sO, mL_sO, mF_sO, mB_sO, mA_sO, mJ_sO, mP_sO, mO_sO, up2, if_true, if_false, eq_self, ite_true, ite_false, reduceIte, Nat.add_left_cancel_iff, Nat.add_eq_left, Nat.left_eq_add, Nat.reduceEqDiff]; done)) ?_ | refine e_iald 61 rfl dX10_ahead_60 (by assumption) (by assumption) (by first | rfl | simp only [pk_mul, nI_add]) (by omega) (by omega) ?_
      first | refine e_cmp_geN 114 64 (by decide) rfl dX10_ahead_61 rfl rfl (by omega) (by omega) (fun y4 => ?_) (fun y4 => ?_) | refine e_cmp_ge 114 64 (by decide) rfl dX10_ahead_61 (fun y4 => ?_) (fun y4 => ?_)
      · omega
      refine e_al0 65 rfl dX10_ahead_64 ?_
      refine e_al0 66 rfl dX10_ahead_65 ?_
      refine e_getR 69 rfl dX10_ahead_66 f_X10_120 (by assumption) (by assumption) ?_
      refine e_bipush (nI 8) 71 rfl dX10_ahead_69 bc_8 ?_
      refine e_il1 72 rfl dX10_ahead_71 ?_
      first | refine e_imulN 73 rfl dX10_ahead_72 rfl rfl ?_ | refine e_imul 73 rfl dX10_ahead_72 ?_
      refine e_il3 74 rfl dX10_ahead_73 ?_
      first | refine e_iaddN 75 rfl dX10_ahead_74 rfl rfl ?_ | refine e_iadd 75 rfl dX10_ahead_74 ?_
      first | refine e_ialdv 76 rfl dX10_ahead_75 (by assumption) (by assumption) (by first | rfl | simp only [pk_mul, nI_add]) (by omega) (by omega) (by first | assumption | (simp only [mN_sF, mK_sF, mL_sF, mF_sF, mB_sF, mA_sF, mJ_sF, mP_sF, mO_sF, mN_sB, mK_sB, mL_sB, mF_sB, mB_sB, mA_sB, mJ_sB, mP_sB, mO_sB, mN_sA, mK_sA, mL_sA, mF_sA, mB_sA, mA_sA, mJ_sA, mP_sA, mO_sA, mN_sJ, mK_sJ, mL_sJ, mF_sJ, mB_sJ, mA_sJ, mJ_sJ, mP_sJ, mO_sJ, mN_sP, mK_sP, mL_sP, mF_sP, mB_sP, mA_sP, mJ_sP, mP_sP, mO_sP, mN_sO, mK_sO, mL_sO, mF_sO, mB_sO, mA_sO, mJ_sO, mP_sO, mO_sO, up2, if_true, if_false, eq_self, ite_true, ite_false, reduceIte, Nat.add_left_cancel_iff, Nat.add_eq_left, Nat.left_eq_add, Nat.reduceEqDiff]; assumption) | (simp only [mN_sF, mK_sF, mL_sF, mF_sF, mB_sF, mA_sF, mJ_sF, mP_sF, mO_sF, mN_sB, mK_sB, mL_sB, mF_sB, mB_sB, mA_sB, mJ_sB, mP_sB, mO_sB, mN_sA, mK_sA, mL_sA, mF_sA, mB_sA, mA_sA, mJ_sA, mP_sA, mO_sA, mN_sJ, mK_sJ, mL_sJ, mF_sJ, mB_sJ, mA_sJ, mJ_sJ, mP_sJ, mO_sJ, mN_sP, mK_sP, mL_sP, mF_sP, mB_sP, mA_sP, mJ_sP, mP_sP, mO_sP, mN_sO, mK_sO, mL_sO, mF_sO, mB_sO, mA_sO, mJ_sO, mP_sO, mO_sO, up2, if_true, if_false, eq_self, ite_true, ite_false, reduceIte, Nat.add_left_cancel_iff, Nat.add_eq_left, Nat.left_eq_add, Nat.reduceEqDiff]; done)) ?_ | refine e_iald 76 rfl dX10_ahead_75 (by assumption) (by assumption) (by first | rfl | simp only [pk_mul, nI_add]) (by omega) (by omega) ?_
      refine e_al0 77 rfl dX10_ahead_76 ?_
      refine e_getR 80 rfl dX10_ahead_77 f_X10_120 (by assumption) (by assumption) ?_
      refine e_bipush (nI 8) 82 rfl dX10_ahead_80 bc_8 ?_
      refine e_il2 83 rfl dX10_ahead_82 ?_
      first | refine e_imulN 84 rfl dX10_ahead_83 rfl rfl ?_ | refine e_imul 84 rfl dX10_ahead_83 ?_
      refine e_il3 85 rfl dX10_ahead_84 ?_
      first | refine e_iaddN 86 rfl dX10_ahead_85 rfl rfl ?_ | refine e_iadd 86 rfl dX10_ahead_85 ?_
      first | refine e_ialdv 87 rfl dX10_ahead_86 (by assumption) (by assumption) (by first | rfl | simp only [pk_mul, nI_add]) (by omega) (by omega) (by first | assumption | (simp only [mN_sF, mK_sF, mL_sF, mF_sF, mB_sF, mA_sF, mJ_sF, mP_sF, mO_sF, mN_sB, mK_sB, mL_sB, mF_sB, mB_sB, mA_sB, mJ_sB, mP_sB, mO_sB, mN_sA, mK_sA, mL_sA, mF_sA, mB_sA, mA_sA, mJ_sA, mP_sA, mO_sA, mN_sJ, mK_sJ, mL_sJ, mF_sJ, mB_sJ, mA_sJ, mJ_sJ, mP_sJ, mO_sJ, mN_sP, mK_sP, mL_sP, mF_sP, mB_sP, mA_sP, mJ_sP, mP_sP, mO_sP, mN_sO, mK_sO, mL_sO, mF_sO, mB_sO, mA_sO, mJ_sO, mP_sO, mO_sO, up2, if_true, if_false, eq_self, ite_true, ite_false, reduceIte, Nat.add_left_cancel_iff, Nat.add_eq_left, Nat.left_eq_add, Nat.reduceEqDiff]; assumption) | (simp only [mN_sF, mK_sF, mL_sF, mF_sF, mB_sF, mA_sF, mJ_sF, mP_sF, mO_sF, mN_sB, mK_sB, mL_sB, mF_sB, mB_sB, mA_sB, mJ_sB, mP_sB, mO_sB, mN_sA, mK_sA, mL_sA, mF_sA, mB_sA, mA_sA, mJ_sA, mP_sA, mO_sA, mN_sJ, mK_sJ, mL_sJ, mF_sJ, mB_sJ, mA_sJ, mJ_sJ, mP_sJ, mO_sJ, mN_sP, mK_sP, mL_sP, mF_sP, mB_sP, mA_sP, mJ_sP, mP_sP, mO_sP, mN_sO, mK_sO, mL_sO, mF_sO, mB_sO, mA_sO, mJ_sO, mP_sO, mO_sO, up2, if_true, if_false, eq_self, ite_true, ite_false, reduceIte, Nat.add_left_cancel_iff, Nat.add_eq_left, Nat.left_eq_add, Nat.reduceEqDiff]; done)) ?_ | refine e_iald 87 rfl dX10_ahead_86 (by assumption) (by assumption) (by first | rfl | simp only [pk_mul, nI_add]) (by omega) (by omega) ?_
      refine e_invV0 [_, _] 90 rfl dX10_ahead_87 k_X10_222 mo_X10_compare rm_X10_ahead_X10_compare ⟨rfl, rfl⟩ rfl rfl (by assumption) (Nat.le_of_ble_eq_true rfl) ?_
      refine c_mCompare hM.1 (by omega) (by omega) d1 d2 x1.2.2.2.1 x2.2.2.2.1 ?_
      rw [← w1, ← w2]
      have hbd := cmpL_bd ka[t] kb[t] (by rw [w1]; exact x1.2.2.2.1) (by rw [w2]; exact x2.2.2.2.1) (by rw [w1]; exact fun c hc => by have := foldL_r c hc; omega) (by rw [w2]; exact fun c hc => by have := foldL_r c hc; omega)
      have hsg := ofInt_sg hbd.1 hbd.2
      refine e_is4 92 rfl dX10_ahead_90 (by decide) rfl ?_
      refine e_il4 94 rfl dX10_ahead_92 ?_
      refine e_if_eq 108 97 (by decide) rfl dX10_ahead_94 (fun y5 => ?_) (fun y5 => ?_)
      · have c0 := hsg.1.mp y5
        rw [if_pos c0] at hlt
        refine e_ii3 (nI (_ + 1)) 111 rfl dX10_ahead_108 (ii1 _) rfl ?_
        refine e_goto 44 (by decide) dX10_ahead_111 ?_
        refine ih (t + 1) (by omega) hlt ?_ _ rfl
        rw [heq, List.drop_eq_getElem_cons h1, List.drop_eq_getElem_cons h2, List.cons.injEq]
        have := (cmpL_zero ka[t] kb[t]).mp c0
        exact ⟨fun z => z.2, fun z => ⟨this, z⟩⟩
      · have c0 : cmpL ka[t] kb[t] ≠ 0 := fun q => y5 (hsg.1.mpr q)
        rw [if_neg c0] at hlt
        have hne : ¬ (ka = kb) := fun q => c0 ((cmpL_zero _ _).mpr (by simp only [q]))
        rw [hlt, show decide (ka = kb) = false from decide_eq_false hne, Bool.false_and, Bool.or_false] at k
        refine e_il4 99 rfl dX10_ahead_97 ?_
        refine e_if_ge 106 102 (by decide) rfl dX10_ahead_99 (fun y6 => ?_) (fun y6 => ?_)
        · refine e_iconst (nI 0) 107 rfl dX10_ahead_106 ic_0 ?_
          refine e_zret dX10_ahead_107 rfl (by first | exact z0 | exact z1 | exact bI01 _ | assumption) ?_
          have := hsg.2.mp y6
          rw [show decide (cmpL ka[t] kb[t] < 0) = false from decide_eq_false (by omega)] at k
          exact k
        · refine e_iconst (nI 1) 103 rfl dX10_ahead_102 ic_1 ?_
          refine e_goto 107 (by decide) dX10_ahead_103 ?_
          refine e_zret dX10_ahead_107 rfl (by first | exact z0 | exact z1 | exact bI01 _ | assumption) ?_
          have : ¬ (0 ≤ cmpL ka[t] kb[t]) := fun q => y6 (hsg.2.mpr q)
          rw [show decide (cmpL ka[t] kb[t] < 0) = true from decide_eq_true (by omega)] at k
          exact k
  have bIe : ∀ x y : Bool, bI x = bI y ↔ x = y := by decide
  refine Cl.of0 2 pn_X10 (Nat.le_of_ble_eq_true rfl) ⟨rfl, rfl⟩ rfl ?_
  refine e_al0 1 rfl dX10_ahead_0 ?_
  refine e_getR 4 rfl dX10_ahead_1 f_X10_117 (by assumption) (by assumption) ?_
  refine e_il1 5 rfl dX10_ahead_4 ?_
  first | refine e_baldv 6 rfl dX10_ahead_5 (by assumption) (by assumption) (by first | rfl | simp only [pk_mul, nI_add]) (by omega) (by omega) (by first | assumption | (simp only [mN_sF, mK_sF, mL_sF, mF_sF, mB_sF, mA_sF, mJ_sF, mP_sF, mO_sF, mN_sB, mK_sB, mL_sB, mF_sB, mB_sB, mA_sB, mJ_sB, mP_sB, mO_sB, mN_sA, mK_sA, mL_sA, mF_sA, mB_sA, mA_sA, mJ_sA, mP_sA, mO_sA, mN_sJ, mK_sJ, mL_sJ, mF_sJ, mB_sJ, mA_sJ, mJ_sJ, mP_sJ, mO_sJ, mN_sP, mK_sP, mL_sP, mF_sP, mB_sP, mA_sP, mJ_sP, mP_sP, mO_sP, mN_sO, mK_sO, mL_sO, mF_sO, mB_sO, mA_sO, mJ_sO, mP_sO, mO_sO, up2, if_true, if_false, eq_self, ite_true, ite_false, reduceIte, Nat.add_left_cancel_iff, Nat.add_eq_left, Nat.left_eq_add, Nat.reduceEqDiff]; assumption) | (simp only [mN_sF, mK_sF, mL_sF, mF_sF, mB_sF, mA_sF, mJ_sF, mP_sF, mO_sF, mN_sB, mK_sB, mL_sB, mF_sB, mB_sB, mA_sB, mJ_sB, mP_sB, mO_sB, mN_sA, mK_sA, mL_sA, mF_sA, mB_sA, mA_sA, mJ_sA, mP_sA, mO_sA, mN_sJ, mK_sJ, mL_sJ, mF_sJ, mB_sJ, mA_sJ, mJ_sJ, mP_sJ, mO_sJ, mN_sP, mK_sP, mL_sP, mF_sP, mB_sP, mA_sP, mJ_sP, mP_sP, mO_sP, mN_sO, mK_sO, mL_sO, mF_sO, mB_sO, mA_sO, mJ_sO, mP_sO, mO_sO, up2, if_true, if_false, eq_self, ite_true, ite_false, reduceIte, Nat.add_left_cancel_iff, Nat.add_eq_left, Nat.left_eq_add, Nat.reduceEqDiff]; done)) ?_ | refine e_zaldv 6 rfl dX10_ahead_5 (by assumption) (by assumption) (by first | rfl | simp only [pk_mul, nI_add]) (by omega) (by omega) (by first | assumption | (simp only [mN_sF, mK_sF, mL_sF, mF_sF, mB_sF, mA_sF, mJ_sF, mP_sF, mO_sF, mN_sB, mK_sB, mL_sB, mF_sB, mB_sB, mA_sB, mJ_sB, mP_sB, mO_sB, mN_sA, mK_sA, mL_sA, mF_sA, mB_sA, mA_sA, mJ_sA, mP_sA, mO_sA, mN_sJ, mK_sJ, mL_sJ, mF_sJ, mB_sJ, mA_sJ, mJ_sJ, mP_sJ, mO_sJ, mN_sP, mK_sP, mL_sP, mF_sP, mB_sP, mA_sP, mJ_sP, mP_sP, mO_sP, mN_sO, mK_sO, mL_sO, mF_sO, mB_sO, mA_sO, mJ_sO, mP_sO, mO_sO, up2, if_true, if_false, eq_self, ite_true, ite_false, reduceIte, Nat.add_left_cancel_iff, Nat.add_eq_left, Nat.left_eq_add, Nat.reduceEqDiff]; assumption) | (simp only [mN_sF, mK_sF, mL_sF, mF_sF, mB_sF, mA_sF, mJ_sF, mP_sF, mO_sF, mN_sB, mK_sB, mL_sB, mF_sB, mB_sB, mA_sB, mJ_sB, mP_sB, mO_sB, mN_sA, mK_sA, mL_sA, mF_sA, mB_sA, mA_sA, mJ_sA, mP_sA, mO_sA, mN_sJ, mK_sJ, mL_sJ, mF_sJ, mB_sJ, mA_sJ, mJ_sJ, mP_sJ, mO_sJ, mN_sP, mK_sP, mL_sP, mF_sP, mB_sP, mA_sP, mJ_sP, mP_sP, mO_sP, mN_sO, mK_sO, mL_sO, mF_sO, mB_sO, mA_sO, mJ_sO, mP_sO, mO_sO, up2, if_true, if_false, eq_self, ite_true, ite_false, reduceIte, Nat.add_left_cancel_iff, Nat.add_eq_left, Nat.left_eq_add, Nat.reduceEqDiff]; done)) ?_ | refine e_bald 6 rfl dX10_ahead_5 (by assumption) (by assumption) (by first | rfl | simp only [pk_mul, nI_add]) (by omega) (by omega) ?_ | refine e_zald 6 rfl dX10_ahead_5 (by assumption) (by assumption) (by first | rfl | simp only [pk_mul, nI_add]) (by omega) (by omega) ?_
  refine e_al0 7 rfl dX10_ahead_6 ?_
  refine e_getR 10 rfl dX10_ahead_7 f_X10_117 (by assumption) (by assumption) ?_
  refine e_il2 11 rfl dX10_ahead_10 ?_
  first | refine e_baldv 12 rfl dX10_ahead_11 (by assumption) (by assumption) (by first | rfl | simp only [pk_mul, nI_add]) (by omega) (by omega) (by first | assumption | (simp only [mN_sF, mK_sF, mL_sF, mF_sF, mB_sF, mA_sF, mJ_sF, mP_sF, mO_sF, mN_sB, mK_sB, mL_sB, mF_sB, mB_sB, mA_sB, mJ_sB, mP_sB, mO_sB, mN_sA, mK_sA, mL_sA, mF_sA, mB_sA, mA_sA, mJ_sA, mP_sA, mO_sA, mN_sJ, mK_sJ, mL_sJ, mF_sJ, mB_sJ, mA_sJ, mJ_sJ, mP_sJ, mO_sJ, mN_sP, mK_sP, mL_sP, mF_sP, mB_sP, mA_sP, mJ_sP, mP_sP, mO_sP, mN_sO, mK_sO, mL_sO, mF_sO, mB_sO, mA_sO, mJ_sO, mP_sO, mO_sO, up2, if_true, if_false, eq_self, ite_true, ite_false, reduceIte, Nat.add_left_cancel_iff, Nat.add_eq_left, Nat.left_eq_add, Nat.reduceEqDiff]; assumption) | (simp only [mN_sF, mK_sF, mL_sF, mF_sF, mB_sF, mA_sF, mJ_sF, mP_sF, mO_sF, mN_sB, mK_sB, mL_sB, mF_sB, mB_sB, mA_sB, mJ_sB, mP_sB, mO_sB, mN_sA, mK_sA, mL_sA, mF_sA, mB_sA, mA_sA, mJ_sA, mP_sA, mO_sA, mN_sJ, mK_sJ, mL_sJ, mF_sJ, mB_sJ, mA_sJ, mJ_sJ, mP_sJ, mO_sJ, mN_sP, mK_sP, mL_sP, mF_sP, mB_sP, mA_sP, mJ_sP, mP_sP, mO_sP, mN_sO, mK_sO, mL_sO, mF_sO, mB_sO, mA_sO, mJ_sO, mP_sO, mO_sO, up2, if_true, if_false, eq_self, ite_true, ite_false, reduceIte, Nat.add_left_cancel_iff, Nat.add_eq_left, Nat.left_eq_add, Nat.reduceEqDiff]; done)) ?_ | refine e_zaldv 12 rfl dX10_ahead_11 (by assumption) (by assumption) (by first | rfl | simp only [pk_mul, nI_add]) (by omega) (by omega) (by first | assumption | (simp only [mN_sF, mK_sF, mL_sF, mF_sF, mB_sF, mA_sF, mJ_sF, mP_sF, mO_sF, mN_sB, mK_sB, mL_sB, mF_sB, mB_sB, mA_sB, mJ_sB, mP_sB, mO_sB, mN_sA, mK_sA, mL_sA, mF_sA, mB_sA, mA_sA, mJ_sA, mP_sA, mO_sA, mN_sJ, mK_sJ, mL_sJ, mF_sJ, mB_sJ, mA_sJ, mJ_sJ, mP_sJ, mO_sJ, mN_sP, mK_sP, mL_sP, mF_sP, mB_sP, mA_sP, mJ_sP, mP_sP, mO_sP, mN_sO, mK_sO, mL_sO, mF_sO, mB_sO, mA_sO, mJ_sO, mP_sO, mO_sO, up2, if_true, if_false, eq_self, ite_true, ite_false, reduceIte, Nat.add_left_cancel_iff, Nat.add_eq_left, Nat.left_eq_add, Nat.reduceEqDiff]; assumption) | (simp only [mN_sF, mK_sF, mL_sF, mF_sF, mB_sF, mA_sF, mJ_sF, mP_sF, mO_sF, mN_sB, mK_sB, mL_sB, mF_sB, mB_sB, mA_sB, mJ_sB, mP_sB, mO_sB, mN_sA, mK_sA, mL_sA, mF_sA, mB_sA, mA_sA, mJ_sA, mP_sA, mO_sA, mN_sJ, mK_sJ, mL_sJ, mF_sJ, mB_sJ, mA_sJ, mJ_sJ, mP_sJ, mO_sJ, mN_sP, mK_sP, mL_sP, mF_sP, mB_sP, mA_sP, mJ_sP, mP_sP, mO_sP, mN_sO, mK_sO, mL_sO, mF_sO, mB_sO, mA_sO, mJ_sO, mP_sO, mO_sO, up2, if_true, if_false, eq_self, ite_true, ite_false, reduceIte, Nat.add_left_cancel_iff, Nat.add_eq_left, Nat.left_eq_add, Nat.reduceEqDiff]; done)) ?_ | refine e_bald 12 rfl dX10_ahead_11 (by assumption) (by assumption) (by first | rfl | simp only [pk_mul, nI_add]) (by omega) (by omega) ?_ | refine e_zald 12 rfl dX10_ahead_11 (by assumption) (by assumption) (by first | rfl | simp only [pk_mul, nI_add]) (by omega) (by omega) ?_
  refine e_cmp_eq 22 15 (by decide) rfl dX10_ahead_12 (fun y1 => ?_) (fun y1 => ?_)
  rotate_left
  · rw [if_neg (fun q => y1 (by rw [q]))] at k
    refine e_al0 16 rfl dX10_ahead_15 ?_
    refine e_getR 19 rfl dX10_ahead_16 f_X10_117 (by assumption) (by assumption) ?_
    refine e_il1 20 rfl dX10_ahead_19 ?_
    first | refine e_baldv 21 rfl dX10_ahead_20 (by assumption) (by assumption) (by first | rfl | simp only [pk_mul, nI_add]) (by omega) (by omega) (by first | assumption | (simp only [mN_sF, mK_sF, mL_sF, mF_sF, mB_sF, mA_sF, mJ_sF, mP_sF, mO_sF, mN_sB, mK_sB, mL_sB, mF_sB, mB_sB, mA_sB, mJ_sB, mP_sB, mO_sB, mN_sA, mK_sA, mL_sA, mF_sA, mB_sA, mA_sA, mJ_sA, mP_sA, mO_sA, mN_sJ, mK_sJ, mL_sJ, mF_sJ, mB_sJ, mA_sJ, mJ_sJ, mP_sJ, mO_sJ, mN_sP, mK_sP, mL_sP, mF_sP, mB_sP, mA_sP, mJ_sP, mP_sP, mO_sP, mN_sO, mK_sO, mL_sO, mF_sO, mB_sO, mA_sO, mJ_sO, mP_sO, mO_sO, up2, if_true, if_false, eq_self, ite_true, ite_false, reduceIte, Nat.add_left_cancel_iff, Nat.add_eq_left, Nat.left_eq_add, Nat.reduceEqDiff]; assumption) | (simp only [mN_sF, mK_sF, mL_sF, mF_sF, mB_sF, mA_sF, mJ_sF, mP_sF, mO_sF, mN_sB, mK_sB, mL_sB, mF_sB, mB_sB, mA_sB, mJ_sB, mP_sB, mO_sB, mN_sA, mK_sA, mL_sA, mF_sA, mB_sA, mA_sA, mJ_sA, mP_sA, mO_sA, mN_sJ, mK_sJ, mL_sJ, mF_sJ, mB_sJ, mA_sJ, mJ_sJ, mP_sJ, mO_sJ, mN_sP, mK_sP, mL_sP, mF_sP, mB_sP, mA_sP, mJ_sP, mP_sP, mO_sP, mN_sO, mK_sO, mL_sO, mF_sO, mB_sO, mA_sO, mJ_sO, mP_sO, mO_sO, up2, if_true, if_false, eq_self, ite_true, ite_false, reduceIte, Nat.add_left_cancel_iff, Nat.add_eq_left, Nat.left_eq_add, Nat.reduceEqDiff]; done)) ?_ | refine e_zaldv 21 rfl dX10_ahead_20 (by assumption) (by assumption) (by first | rfl | simp only [pk_mul, nI_add]) (by omega) (by omega) (by first | assumption | (simp only [mN_sF, mK_sF, mL_sF, mF_sF, mB_sF, mA_sF, mJ_sF, mP_sF, mO_sF, mN_sB, mK_sB, mL_sB, mF_sB, mB_sB, mA_sB, mJ_sB, mP_sB, mO_sB, mN_sA, mK_sA, mL_sA, mF_sA, mB_sA, mA_sA, mJ_sA, mP_sA, mO_sA, mN_sJ, mK_sJ, mL_sJ, mF_sJ, mB_sJ, mA_sJ, mJ_sJ, mP_sJ, mO_sJ, mN_sP, mK_sP, mL_sP, mF_sP, mB_sP, mA_sP, mJ_sP, mP_sP, mO_sP, mN_sO, mK_sO, mL_sO, mF_sO, mB_sO, mA_sO, mJ_sO, mP_sO, mO_sO, up2, if_true, if_false, eq_self, ite_true, ite_false, reduceIte, Nat.add_left_cancel_iff, Nat.add_eq_left, Nat.left_eq_add, Nat.reduceEqDiff]; assumption) | (simp only [mN_sF, mK_sF, mL_sF, mF_sF, mB_sF, mA_sF, mJ_sF, mP_sF, mO_sF, mN_sB, mK_sB, mL_sB, mF_sB, mB_sB, mA_sB, mJ_sB, mP_sB, mO_sB, mN_sA, mK_sA, mL_sA, mF_sA, mB_sA, mA_sA, mJ_sA, mP_sA, mO_sA, mN_sJ, mK_sJ, mL_sJ, mF_sJ, mB_sJ, mA_sJ, mJ_sJ, mP_sJ, mO_sJ, mN_sP, mK_sP, mL_sP, mF_sP, mB_sP, mA_sP, mJ_sP, mP_sP, mO_sP, mN_sO, mK_sO, mL_sO, mF_sO, mB_sO, mA_sO, mJ_sO, mP_sO, mO_sO, up2, if_true, if_false, eq_self, ite_true, ite_false, reduceIte, Nat.add_left_cancel_iff, Nat.add_eq_left, Nat.left_eq_add, Nat.reduceEqDiff]; done)) ?_ | refine e_bald 21 rfl dX10_ahead_20 (by assumption) (by assumption) (by first | rfl | simp only [pk_mul, nI_add]) (by omega) (by omega) ?_ | refine e_zald 21 rfl dX10_ahead_20 (by assumption) (by assumption) (by first | rfl | simp only [pk_mul, nI_add]) (by omega) (by omega) ?_
    refine e_zret dX10_ahead_21 rfl (by first | exact z0 | exact z1 | exact bI01 _ | assumption) ?_
    exact k
  have hrr := (bIe _ _).mp y1
  refine e_al0 23 rfl dX10_ahead_22 ?_
  refine e_getR 26 rfl dX10_ahead_23 f_X10_117 (by assumption) (by assumption) ?_
  refine e_il1 27 rfl dX10_ahead_26 ?_
  first | refine e_baldv 28 rfl dX10_ahead_27 (by assumption) (by assumption) (by first | rfl | simp only [pk_mul, nI_add]) (by omega) (by omega) (by first | assumption | (simp only [mN_sF, mK_sF, mL_sF, mF_sF, mB_sF, mA_sF, mJ_sF, mP_sF, mO_sF, mN_sB, mK_sB, mL_sB, mF_sB, mB_sB, mA_sB, mJ_sB, mP_sB, mO_sB, mN_sA, mK_sA, mL_sA, mF_sA, mB_sA, mA_sA, mJ_sA, mP_sA, mO_sA, mN_sJ, mK_sJ, mL_sJ, mF_sJ, mB_sJ, mA_sJ, mJ_sJ, mP_sJ, mO_sJ, mN_sP, mK_sP, mL_sP, mF_sP, mB_sP, mA_sP, mJ_sP, mP_sP, mO_sP, mN_sO, mK_sO, mL_sO, mF_sO, mB_sO, mA_sO, mJ_sO, mP_sO, mO_sO, up2, if_true, if_false, eq_self, ite_true, ite_false, reduceIte, Nat.add_left_cancel_iff, Nat.add_eq_left, Nat.left_eq_add, Nat.reduceEqDiff]; assumption) | (simp only [mN_sF, mK_sF, mL_sF, mF_sF, mB_sF, mA_sF, mJ_sF, mP_sF, mO_sF, mN_sB, mK_sB, mL_sB, mF_sB, mB_sB, mA_sB, mJ_sB, mP_sB, mO_sB, mN_sA, mK_sA, mL_sA, mF_sA, mB_sA, mA_sA, mJ_sA, mP_sA, mO_sA, mN_sJ, mK_sJ, mL_sJ, mF_sJ, mB_sJ, mA_sJ, mJ_sJ, mP_sJ, mO_sJ, mN_sP, mK_sP, mL_sP, mF_sP, mB_sP, mA_sP, mJ_sP, mP_sP, mO_sP, mN_sO, mK_sO, mL_sO, mF_sO, mB_sO, mA_sO, mJ_sO, mP_sO, mO_sO, up2, if_true, if_false, eq_self, ite_true, ite_false, reduceIte, Nat.add_left_cancel_iff, Nat.add_eq_left, Nat.left_eq_add, Nat.reduceEqDiff]; done)) ?_ | refine e_zaldv 28 rfl dX10_ahead_27 (by assumption) (by assumption) (by first | rfl | simp only [pk_mul, nI_add]) (by omega) (by omega) (by first | assumption | (simp only [mN_sF, mK_sF, mL_sF, mF_sF, mB_sF, mA_sF, mJ_sF, mP_sF, mO_sF, mN_sB, mK_sB, mL_sB, mF_sB, mB_sB, mA_sB, mJ_sB, mP_sB, mO_sB, mN_sA, mK_sA, mL_sA, mF_sA, mB_sA, mA_sA, mJ_sA, mP_sA, mO_sA, mN_sJ, mK_sJ, mL_sJ, mF_sJ, mB_sJ, mA_sJ, mJ_sJ, mP_sJ, mO_sJ, mN_sP, mK_sP, mL_sP, mF_sP, mB_sP, mA_sP, mJ_sP, mP_sP, mO_sP, mN_sO, mK_sO, mL_sO, mF_sO, mB_sO, mA_sO, mJ_sO, mP_sO, mO_sO, up2, if_true, if_false, eq_self, ite_true, ite_false, reduceIte, Nat.add_left_cancel_iff, Nat.add_eq_left, Nat.left_eq_add, Nat.reduceEqDiff]; assumption) | (simp only [mN_sF, mK_sF, mL_sF, mF_sF, mB_sF, mA_sF, mJ_sF, mP_sF, mO_sF, mN_sB, mK_sB, mL_sB, mF_sB, mB_sB, mA_sB, mJ_sB, mP_sB, mO_sB, mN_sA, mK_sA, mL_sA, mF_sA, mB_sA, mA_sA, mJ_sA, mP_sA, mO_sA, mN_sJ, mK_sJ, mL_sJ, mF_sJ, mB_sJ, mA_sJ, mJ_sJ, mP_sJ, mO_sJ, mN_sP, mK_sP, mL_sP, mF_sP, mB_sP, mA_sP, mJ_sP, mP_sP, mO_sP, mN_sO, mK_sO, mL_sO, mF_sO, mB_sO, mA_sO, mJ_sO, mP_sO, mO_sO, up2, if_true, if_false, eq_self, ite_true, ite_false, reduceIte, Nat.add_left_cancel_iff, Nat.add_eq_left, Nat.left_eq_add, Nat.reduceEqDiff]; done)) ?_ | refine e_bald 28 rfl dX10_ahead_27 (by assumption) (by assumption) (by first | rfl | simp only [pk_mul, nI_add]) (by omega) (by omega) ?_ | refine e_zald 28 rfl dX10_ahead_27 (by assumption) (by assumption) (by first | rfl | simp only [pk_mul, nI_add]) (by omega) (by omega) ?_
  first | refine e_if_neB 42 31 (by decide) rfl dX10_ahead_28 rfl (fun y2 => ?_) (fun y2 => ?_) | refine e_if_neN 42 31 (by decide) rfl dX10_ahead_28 rfl (by omega) (fun y2 => ?_) (fun y2 => ?_) | refine e_if_ne 42 31 (by decide) rfl dX10_ahead_28 (fun y2 => ?_) (fun y2 => ?_)
  rotate_left
  · rw [if_pos hrr, if_neg (by rw [y2]; decide)] at k
    refine e_il1 32 rfl dX10_ahead_31 ?_
    refine e_il2 33 rfl dX10_ahead_32 ?_
    first | refine e_cmp_geN 40 36 (by decide) rfl dX10_ahead_33 rfl rfl (by omega) (by omega) (fun y3 => ?_) (fun y3 => ?_) | refine e_cmp_ge 40 36 (by decide) rfl dX10_ahead_33 (fun y3 => ?_) (fun y3 => ?_)
    · refine e_iconst (nI 0) 41 rfl dX10_ahead_40 ic_0 ?_
      refine e_zret dX10_ahead_41 rfl (by first | exact z0 | exact z1 | exact bI01 _ | assumption) ?_
      rw [show decide (i < j) = false from decide_eq_false (by omega)] at k
      exact k
    · refine e_iconst (nI 1) 37 rfl dX10_ahead_36 ic_1 ?_
      refine e_goto 41 (by decide) dX10_ahead_37 ?_
      refine e_zret dX10_ahead_41 rfl (by first | exact z0 | exact z1 | exact bI01 _ | assumption) ?_
      rw [show decide (i < j) = true from decide_eq_true (by omega)] at k
      exact k
  refine e_iconst (nI 0) 43 rfl dX10_ahead_42 ic_0 ?_
  refine e_is3 44 rfl dX10_ahead_43 (by decide) rfl ?_
  exact loop y2 (hrr ▸ y2) (min ka.length kb.length) 0 (by omega) rfl Iff.rfl _ rfl
theorem c_placeOf {m i : Nat} {S : Ast} (hW : WF S) (hM : MI m S μ) (hR : mRdy μ m S) (hi : i < (aN S).length) (k : K (some (.int (nI ((rnk (aS S) (aB S) (aN S)).idxOf i)))) μ) : Cl E M_X10_placeOf [.ref m, .int (nI i)] μ K := by
  have n30 := hW.2.2.2.1.1
  have mk := hM.1.1
  have h20 := hM.2.2.2.2.2.1.1
  rw [idx_count rnk_perm rnk_sorted hi] at k
  have loop : ∀ (fu j : Nat), j + fu = (aN S).length → Ev E M_X10_placeOf 0 0 4 [some (.ref m), some (.int (nI i)), some (.int (nI (((List.range j).filter (fun j => decide (j ≠ i) && ahF (rOf S) (kOf S) j i)).length))), some (.int (nI j))] [] μ K := by
    intro fu
    induction fu with
    | zero =>
      intro j hj
      refine e_il3 5 rfl dX10_placeOf_4 ?_
      refine e_al0 6 rfl dX10_placeOf_5 ?_
      first | refine e_getIv 9 rfl dX10_placeOf_6 f_X10_189 (by assumption) (by first | assumption | (simp only [mN_sF, mK_sF, mL_sF, mF_sF, mB_sF, mA_sF, mJ_sF, mP_sF, mO_sF, mN_sB, mK_sB, mL_sB, mF_sB, mB_sB, mA_sB, mJ_sB, mP_sB, mO_sB, mN_sA, mK_sA, mL_sA, mF_sA, mB_sA, mA_sA, mJ_sA, mP_sA, mO_sA, mN_sJ, mK_sJ, mL_sJ, mF_sJ, mB_sJ, mA_sJ, mJ_sJ, mP_sJ, mO_sJ, mN_sP, mK_sP, mL_sP, mF_sP, mB_sP, mA_sP, mJ_sP, mP_sP, mO_sP, mN_sO, mK_sO, mL_sO, mF_sO, mB_sO, mA_sO, mJ_sO, mP_sO, mO_sO, up2, if_true, if_false, eq_self, ite_true, ite_false, reduceIte, Nat.add_left_cancel_iff, Nat.add_eq_left, Nat.left_eq_add, Nat.reduceEqDiff]; assumption) | (simp only [mN_sF, mK_sF, mL_sF, mF_sF, mB_sF, mA_sF, mJ_sF, mP_sF, mO_sF, mN_sB, mK_sB, mL_sB, mF_sB, mB_sB, mA_sB, mJ_sB, mP_sB, mO_sB, mN_sA, mK_sA, mL_sA, mF_sA, mB_sA, mA_sA, mJ_sA, mP_sA, mO_sA, mN_sJ, mK_sJ, mL_sJ, mF_sJ, mB_sJ, mA_sJ, mJ_sJ, mP_sJ, mO_sJ, mN_sP, mK_sP, mL_sP, mF_sP, mB_sP, mA_sP, mJ_sP, mP_sP, mO_sP, mN_sO, mK_sO, mL_sO, mF_sO, mB_sO, mA_sO, mJ_sO, mP_sO, mO_sO, up2, if_true, if_false, eq_self, ite_true, ite_false, reduceIte, Nat.add_left_cancel_iff, Nat.add_eq_left, Nat.left_eq_add, Nat.reduceEqDiff]; done)) ?_ | refine e_getI 9 rfl dX10_placeOf_6 f_X10_189 (by assumption) ?_
      first | refine e_cmp_geN 40 12 (by decide) rfl dX10_placeOf_9 rfl rfl (by omega) (by omega) (fun y1 => ?_) (fun y1 => ?_) | refine e_cmp_ge 40 12 (by decide) rfl dX10_placeOf_9 (fun y1 => ?_) (fun y1 => ?_)
      rotate_left
      · omega
      refine e_il2 41 rfl dX10_placeOf_40 ?_
      refine e_iret dX10_placeOf_41 rfl ?_
      rw [show j = (aN S).length by omega]
      exact k
    | succ fu ih =>
      intro j hj
      have hs : ((List.range (j + 1)).filter (fun j => decide (j ≠ i) && ahF (rOf S) (kOf S) j i)).length = ((List.range j).filter (fun j => decide (j ≠ i) && ahF (rOf S) (kOf S) j i)).length + if (decide (j ≠ i) && ahF (rOf S) (kOf S) j i) = true then 1 else 0 := by
        rw [List.range_succ, List.filter_append, List.length_append, List.filter_cons]
        split <;> rfl
      have hn := ih (j + 1) (by omega)
      rw [hs] at hn
      refine e_il3 5 rfl dX10_placeOf_4 ?_
      refine e_al0 6 rfl dX10_placeOf_5 ?_
      first | refine e_getIv 9 rfl dX10_placeOf_6 f_X10_189 (by assumption) (by first | assumption | (simp only [mN_sF, mK_sF, mL_sF, mF_sF, mB_sF, mA_sF, mJ_sF, mP_sF, mO_sF, mN_sB, mK_sB, mL_sB, mF_sB, mB_sB, mA_sB, mJ_sB, mP_sB, mO_sB, mN_sA, mK_sA, mL_sA, mF_sA, mB_sA, mA_sA, mJ_sA, mP_sA, mO_sA, mN_sJ, mK_sJ, mL_sJ, mF_sJ, mB_sJ, mA_sJ, mJ_sJ, mP_sJ, mO_sJ, mN_sP, mK_sP, mL_sP, mF_sP, mB_sP, mA_sP, mJ_sP, mP_sP, mO_sP, mN_sO, mK_sO, mL_sO, mF_sO, mB_sO, mA_sO, mJ_sO, mP_sO, mO_sO, up2, if_true, if_false, eq_self, ite_true, ite_false, reduceIte, Nat.add_left_cancel_iff, Nat.add_eq_left, Nat.left_eq_add, Nat.reduceEqDiff]; assumption) | (simp only [mN_sF, mK_sF, mL_sF, mF_sF, mB_sF, mA_sF, mJ_sF, mP_sF, mO_sF, mN_sB, mK_sB, mL_sB, mF_sB, mB_sB, mA_sB, mJ_sB, mP_sB, mO_sB, mN_sA, mK_sA, mL_sA, mF_sA, mB_sA, mA_sA, mJ_sA, mP_sA, mO_sA, mN_sJ, mK_sJ, mL_sJ, mF_sJ, mB_sJ, mA_sJ, mJ_sJ, mP_sJ, mO_sJ, mN_sP, mK_sP, mL_sP, mF_sP, mB_sP, mA_sP, mJ_sP, mP_sP, mO_sP, mN_sO, mK_sO, mL_sO, mF_sO, mB_sO, mA_sO, mJ_sO, mP_sO, mO_sO, up2, if_true, if_false, eq_self, ite_true, ite_false, reduceIte, Nat.add_left_cancel_iff, Nat.add_eq_left, Nat.left_eq_add, Nat.reduceEqDiff]; done)) ?_ | refine e_getI 9 rfl dX10_placeOf_6 f_X10_189 (by assumption) ?_
      first | refine e_cmp_geN 40 12 (by decide) rfl dX10_placeOf_9 rfl rfl (by omega) (by omega) (fun y1 => ?_) (fun y1 => ?_) | refine e_cmp_ge 40 12 (by decide) rfl dX10_placeOf_9 (fun y1 => ?_) (fun y1 => ?_)
      · omega
      refine e_il2 13 rfl dX10_placeOf_12 ?_
      refine e_il3 14 rfl dX10_placeOf_13 ?_
      refine e_il1 15 rfl dX10_placeOf_14 ?_
      first | refine e_cmp_eqN 31 18 (by decide) rfl dX10_placeOf_15 rfl rfl (by omega) (by omega) (fun y2 => ?_) (fun y2 => ?_) | refine e_cmp_eq 31 18 (by decide) rfl dX10_placeOf_15 (fun y2 => ?_) (fun y2 => ?_)
      · rw [if_neg (by simp [y2])] at hn
        refine e_iconst (nI 0) 32 rfl dX10_placeOf_31 ic_0 ?_
        first | refine e_iaddN 33 rfl dX10_placeOf_32 rfl rfl ?_ | refine e_iadd 33 rfl dX10_placeOf_32 ?_
        refine e_is2 34 rfl dX10_placeOf_33 (by decide) rfl ?_
        refine e_ii3 (nI (_ + 1)) 37 rfl dX10_placeOf_34 (ii1 _) rfl ?_
        refine e_goto 4 (by decide) dX10_placeOf_37 ?_
        exact hn
      refine e_al0 19 rfl dX10_placeOf_18 ?_
      refine e_il3 20 rfl dX10_placeOf_19 ?_
      refine e_il1 21 rfl dX10_placeOf_20 ?_
      refine e_invV0 [_, _] 24 rfl dX10_placeOf_21 k_X10_232 mo_X10_ahead rm_X10_placeOf_X10_ahead ⟨rfl, rfl⟩ rfl rfl (by assumption) (Nat.le_of_ble_eq_true rfl) ?_
      refine c_ahead hW hM hR (by omega) hi ?_
      first | refine e_if_eqB 31 27 (by decide) rfl dX10_placeOf_24 rfl (fun y3 => ?_) (fun y3 => ?_) | refine e_if_eqN 31 27 (by decide) rfl dX10_placeOf_24 rfl (by omega) (fun y3 => ?_) (fun y3 => ?_) | refine e_if_eq 31 27 (by decide) rfl dX10_placeOf_24 (fun y3 => ?_) (fun y3 => ?_)
      · rw [if_neg (by simp [y3])] at hn
        refine e_iconst (nI 0) 32 rfl dX10_placeOf_31 ic_0 ?_
        first | refine e_iaddN 33 rfl dX10_placeOf_32 rfl rfl ?_ | refine e_iadd 33 rfl dX10_placeOf_32 ?_
        refine e_is2 34 rfl dX10_placeOf_33 (by decide) rfl ?_
        refine e_ii3 (nI (_ + 1)) 37 rfl dX10_placeOf_34 (ii1 _) rfl ?_
        refine e_goto 4 (by decide) dX10_placeOf_37 ?_
        exact hn
      · rw [if_pos (by simp [y2, y3])] at hn
        refine e_iconst (nI 1) 28 rfl dX10_placeOf_27 ic_1 ?_
        refine e_goto 32 (by decide) dX10_placeOf_28 ?_
        first | refine e_iaddN 33 rfl dX10_placeOf_32 rfl rfl ?_ | refine e_iadd 33 rfl dX10_placeOf_32 ?_
        refine e_is2 34 rfl dX10_placeOf_33 (by decide) rfl ?_
        refine e_ii3 (nI (_ + 1)) 37 rfl dX10_placeOf_34 (ii1 _) rfl ?_
        refine e_goto 4 (by decide) dX10_placeOf_37 ?_
        exact hn
  refine Cl.of0 2 pn_X10 (Nat.le_of_ble_eq_true rfl) ⟨rfl, rfl⟩ rfl ?_
  refine e_iconst (nI 0) 1 rfl dX10_placeOf_0 ic_0 ?_
  refine e_is2 2 rfl dX10_placeOf_1 (by decide) rfl ?_
  refine e_iconst (nI 0) 3 rfl dX10_placeOf_2 ic_0 ?_
  refine e_is3 4 rfl dX10_placeOf_3 (by decide) rfl ?_
  exact loop (aN S).length 0 (by omega)
theorem m_order {m : Nat} {S : Ast} {x : Int32} (hW : WF S) (hM : MI m S μ) (k : ∀ μ', MF m μ μ' → MI m S μ' → K (some (.int (q_order S x))) μ') : Cl E M_X10_order [.ref m, .int x] μ K := by
  have n30 := hW.2.2.2.1.1
  have mk0 := hM.1.1
  have hM1 := hM.thr (nI 0)
  have f1 : MF m μ (sF μ m 2 (nI 0)) := MF.thr _
  refine Cl.of0 1 pn_X10 (Nat.le_of_ble_eq_true rfl) ⟨rfl, rfl⟩ rfl ?_
  refine e_al0 1 rfl dX10_order_0 ?_
  refine e_iconst (nI 0) 2 rfl dX10_order_1 ic_0 ?_
  refine e_putI 5 rfl dX10_order_2 f_X10_126 (by assumption) ?_
  generalize sF μ m 2 (nI 0) = μ1 at hM1 f1 ⊢
  have mk := hM1.1.1
  have h20 := hM1.2.2.2.2.2.1.1
  unfold q_order at k
  rcases iN_cases x with ⟨hx, qx⟩ | ⟨X, hX31, hx, qx⟩
  · rw [qx] at k
    refine e_il1 6 rfl dX10_order_5 ?_
    refine e_if_lt 17 9 (by decide) rfl dX10_order_6 (fun y1 => ?_) (fun y1 => ?_)
    · refine e_iconst (-1) 18 rfl dX10_order_17 ic_m1 ?_
      refine e_iret dX10_order_18 rfl ?_
      exact k μ1 f1 hM1
    · exact absurd hx y1
  subst hx
  rw [qx] at k
  simp only [] at k
  refine e_il1 6 rfl dX10_order_5 ?_
  first | refine e_if_ltN 17 9 (by decide) rfl dX10_order_6 rfl (by omega) ?_ | refine e_if_lt 17 9 (by decide) rfl dX10_order_6 (fun h => ?_) (fun h => ?_)
  refine e_il1 10 rfl dX10_order_9 ?_
  refine e_al0 11 rfl dX10_order_10 ?_
  first | refine e_getIv 14 rfl dX10_order_11 f_X10_189 (by assumption) (by first | assumption | (simp only [mN_sF, mK_sF, mL_sF, mF_sF, mB_sF, mA_sF, mJ_sF, mP_sF, mO_sF, mN_sB, mK_sB, mL_sB, mF_sB, mB_sB, mA_sB, mJ_sB, mP_sB, mO_sB, mN_sA, mK_sA, mL_sA, mF_sA, mB_sA, mA_sA, mJ_sA, mP_sA, mO_sA, mN_sJ, mK_sJ, mL_sJ, mF_sJ, mB_sJ, mA_sJ, mJ_sJ, mP_sJ, mO_sJ, mN_sP, mK_sP, mL_sP, mF_sP, mB_sP, mA_sP, mJ_sP, mP_sP, mO_sP, mN_sO, mK_sO, mL_sO, mF_sO, mB_sO, mA_sO, mJ_sO, mP_sO, mO_sO, up2, if_true, if_false, eq_self, ite_true, ite_false, reduceIte, Nat.add_left_cancel_iff, Nat.add_eq_left, Nat.left_eq_add, Nat.reduceEqDiff]; assumption) | (simp only [mN_sF, mK_sF, mL_sF, mF_sF, mB_sF, mA_sF, mJ_sF, mP_sF, mO_sF, mN_sB, mK_sB, mL_sB, mF_sB, mB_sB, mA_sB, mJ_sB, mP_sB, mO_sB, mN_sA, mK_sA, mL_sA, mF_sA, mB_sA, mA_sA, mJ_sA, mP_sA, mO_sA, mN_sJ, mK_sJ, mL_sJ, mF_sJ, mB_sJ, mA_sJ, mJ_sJ, mP_sJ, mO_sJ, mN_sP, mK_sP, mL_sP, mF_sP, mB_sP, mA_sP, mJ_sP, mP_sP, mO_sP, mN_sO, mK_sO, mL_sO, mF_sO, mB_sO, mA_sO, mJ_sO, mP_sO, mO_sO, up2, if_true, if_false, eq_self, ite_true, ite_false, reduceIte, Nat.add_left_cancel_iff, Nat.add_eq_left, Nat.left_eq_add, Nat.reduceEqDiff]; done)) ?_ | refine e_getI 14 rfl dX10_order_11 f_X10_189 (by assumption) ?_
  first | refine e_cmp_ltN 19 17 (by decide) rfl dX10_order_14 rfl rfl (by omega) (by omega) (fun y2 => ?_) (fun y2 => ?_) | refine e_cmp_lt 19 17 (by decide) rfl dX10_order_14 (fun y2 => ?_) (fun y2 => ?_)
  rotate_left
  · rw [List.getElem?_eq_none (by rw [rnk_len]; omega)] at k
    refine e_iconst (-1) 18 rfl dX10_order_17 ic_m1 ?_
    refine e_iret dX10_order_18 rfl ?_
    exact k μ1 f1 hM1
  have hXl : X < (rnk (aS S) (aB S) (aN S)).length := by rw [rnk_len]; exact y2
  rw [List.getElem?_eq_getElem hXl] at k
  simp only [] at k
  refine e_al0 20 rfl dX10_order_19 ?_
  refine e_invV0 [] 23 rfl dX10_order_20 k_X10_238 mo_X10_orderAll rm_X10_order_X10_orderAll ⟨rfl, rfl⟩ rfl rfl (by assumption) (Nat.le_of_ble_eq_true rfl) ?_
  refine c_orderAll hW hM1 (fun μ2 hF2 hf2 hR2 => ?_)
  have hM2 : MI m S μ2 := hM1.scr (orS_mQ hF2) (fun f hf => hf2 f (by omega))
  have k2 := k μ2 (f1.trans (mQ_MF (orS_mQ hF2))) hM2
  have mk2 := hM2.1.1
  have h202 := hM2.2.2.2.2.2.1.1
  have hnd : (rnk (aS S) (aB S) (aN S)).Nodup := rnk_perm.nodup_iff.mpr List.nodup_range
  obtain ⟨Y, hY⟩ : ∃ Y, Y = (rnk (aS S) (aB S) (aN S))[X] := ⟨_, rfl⟩
  rw [← hY] at k2
  have hYm : Y < (aN S).length := rnk_mem.mp (by rw [hY]; exact List.getElem_mem hXl)
  have hidx : (rnk (aS S) (aB S) (aN S)).idxOf Y = X := by rw [hY]; exact hnd.idxOf_getElem X hXl
  refine e_iconst (nI 0) 24 rfl dX10_order_23 ic_0 ?_
  refine e_is2 25 rfl dX10_order_24 (by decide) rfl ?_
  have loop : ∀ (fu j : Nat), j + fu = Y → Ev E M_X10_order 0 0 25 [some (.ref m), some (.int (nI X)), some (.int (nI j))] [] μ2 K := by
    intro fu
    induction fu with
    | zero =>
      intro j hj
      have ej : j = Y := by omega
      subst ej
      refine e_il2 26 rfl dX10_order_25 ?_
      refine e_al0 27 rfl dX10_order_26 ?_
      first | refine e_getIv 30 rfl dX10_order_27 f_X10_189 (by assumption) (by first | assumption | (simp only [mN_sF, mK_sF, mL_sF, mF_sF, mB_sF, mA_sF, mJ_sF, mP_sF, mO_sF, mN_sB, mK_sB, mL_sB, mF_sB, mB_sB, mA_sB, mJ_sB, mP_sB, mO_sB, mN_sA, mK_sA, mL_sA, mF_sA, mB_sA, mA_sA, mJ_sA, mP_sA, mO_sA, mN_sJ, mK_sJ, mL_sJ, mF_sJ, mB_sJ, mA_sJ, mJ_sJ, mP_sJ, mO_sJ, mN_sP, mK_sP, mL_sP, mF_sP, mB_sP, mA_sP, mJ_sP, mP_sP, mO_sP, mN_sO, mK_sO, mL_sO, mF_sO, mB_sO, mA_sO, mJ_sO, mP_sO, mO_sO, up2, if_true, if_false, eq_self, ite_true, ite_false, reduceIte, Nat.add_left_cancel_iff, Nat.add_eq_left, Nat.left_eq_add, Nat.reduceEqDiff]; assumption) | (simp only [mN_sF, mK_sF, mL_sF, mF_sF, mB_sF, mA_sF, mJ_sF, mP_sF, mO_sF, mN_sB, mK_sB, mL_sB, mF_sB, mB_sB, mA_sB, mJ_sB, mP_sB, mO_sB, mN_sA, mK_sA, mL_sA, mF_sA, mB_sA, mA_sA, mJ_sA, mP_sA, mO_sA, mN_sJ, mK_sJ, mL_sJ, mF_sJ, mB_sJ, mA_sJ, mJ_sJ, mP_sJ, mO_sJ, mN_sP, mK_sP, mL_sP, mF_sP, mB_sP, mA_sP, mJ_sP, mP_sP, mO_sP, mN_sO, mK_sO, mL_sO, mF_sO, mB_sO, mA_sO, mJ_sO, mP_sO, mO_sO, up2, if_true, if_false, eq_self, ite_true, ite_false, reduceIte, Nat.add_left_cancel_iff, Nat.add_eq_left, Nat.left_eq_add, Nat.reduceEqDiff]; done)) ?_ | refine e_getI 30 rfl dX10_order_27 f_X10_189 (by assumption) ?_
      first | refine e_cmp_geN 50 33 (by decide) rfl dX10_order_30 rfl rfl (by omega) (by omega) (fun y3 => ?_) (fun y3 => ?_) | refine e_cmp_ge 50 33 (by decide) rfl dX10_order_30 (fun y3 => ?_) (fun y3 => ?_)
      · omega
      refine e_al0 34 rfl dX10_order_33 ?_
      refine e_il2 35 rfl dX10_order_34 ?_
      refine e_invV0 [_] 38 rfl dX10_order_35 k_X10_241 mo_X10_placeOf rm_X10_order_X10_placeOf ⟨rfl, rfl⟩ rfl rfl (by assumption) (Nat.le_of_ble_eq_true rfl) ?_
      refine c_placeOf hW hM2 hR2 hYm ?_
      rw [hidx]
      refine e_il1 39 rfl dX10_order_38 ?_
      first | refine e_cmp_neN 44 42 (by decide) rfl dX10_order_39 rfl rfl (by omega) (by omega) (fun y4 => ?_) (fun y4 => ?_) | refine e_cmp_ne 44 42 (by decide) rfl dX10_order_39 (fun y4 => ?_) (fun y4 => ?_)
      · exact absurd rfl y4
      refine e_il2 43 rfl dX10_order_42 ?_
      refine e_iret dX10_order_43 rfl ?_
      exact k2
    | succ fu ih =>
      intro j hj
      have hjm : j < (aN S).length := by omega
      have hjr : j ∈ rnk (aS S) (aB S) (aN S) := rnk_mem.mpr hjm
      have hl := List.idxOf_lt_length_of_mem hjr
      rw [rnk_len] at hl
      have hne : (rnk (aS S) (aB S) (aN S)).idxOf j ≠ X := fun q => by
        have h1 : (rnk (aS S) (aB S) (aN S))[(rnk (aS S) (aB S) (aN S)).idxOf j]'(by rw [rnk_len]; exact hl) = j := List.getElem_idxOf _
        have h2 : (rnk (aS S) (aB S) (aN S))[X] = j := by simp only [← q]; exact h1
        omega
      refine e_il2 26 rfl dX10_order_25 ?_
      refine e_al0 27 rfl dX10_order_26 ?_
      first | refine e_getIv 30 rfl dX10_order_27 f_X10_189 (by assumption) (by first | assumption | (simp only [mN_sF, mK_sF, mL_sF, mF_sF, mB_sF, mA_sF, mJ_sF, mP_sF, mO_sF, mN_sB, mK_sB, mL_sB, mF_sB, mB_sB, mA_sB, mJ_sB, mP_sB, mO_sB, mN_sA, mK_sA, mL_sA, mF_sA, mB_sA, mA_sA, mJ_sA, mP_sA, mO_sA, mN_sJ, mK_sJ, mL_sJ, mF_sJ, mB_sJ, mA_sJ, mJ_sJ, mP_sJ, mO_sJ, mN_sP, mK_sP, mL_sP, mF_sP, mB_sP, mA_sP, mJ_sP, mP_sP, mO_sP, mN_sO, mK_sO, mL_sO, mF_sO, mB_sO, mA_sO, mJ_sO, mP_sO, mO_sO, up2, if_true, if_false, eq_self, ite_true, ite_false, reduceIte, Nat.add_left_cancel_iff, Nat.add_eq_left, Nat.left_eq_add, Nat.reduceEqDiff]; assumption) | (simp only [mN_sF, mK_sF, mL_sF, mF_sF, mB_sF, mA_sF, mJ_sF, mP_sF, mO_sF, mN_sB, mK_sB, mL_sB, mF_sB, mB_sB, mA_sB, mJ_sB, mP_sB, mO_sB, mN_sA, mK_sA, mL_sA, mF_sA, mB_sA, mA_sA, mJ_sA, mP_sA, mO_sA, mN_sJ, mK_sJ, mL_sJ, mF_sJ, mB_sJ, mA_sJ, mJ_sJ, mP_sJ, mO_sJ, mN_sP, mK_sP, mL_sP, mF_sP, mB_sP, mA_sP, mJ_sP, mP_sP, mO_sP, mN_sO, mK_sO, mL_sO, mF_sO, mB_sO, mA_sO, mJ_sO, mP_sO, mO_sO, up2, if_true, if_false, eq_self, ite_true, ite_false, reduceIte, Nat.add_left_cancel_iff, Nat.add_eq_left, Nat.left_eq_add, Nat.reduceEqDiff]; done)) ?_ | refine e_getI 30 rfl dX10_order_27 f_X10_189 (by assumption) ?_
      first | refine e_cmp_geN 50 33 (by decide) rfl dX10_order_30 rfl rfl (by omega) (by omega) (fun y3 => ?_) (fun y3 => ?_) | refine e_cmp_ge 50 33 (by decide) rfl dX10_order_30 (fun y3 => ?_) (fun y3 => ?_)
      · omega
      refine e_al0 34 rfl dX10_order_33 ?_
      refine e_il2 35 rfl dX10_order_34 ?_
      refine e_invV0 [_] 38 rfl dX10_order_35 k_X10_241 mo_X10_placeOf rm_X10_order_X10_placeOf ⟨rfl, rfl⟩ rfl rfl (by assumption) (Nat.le_of_ble_eq_true rfl) ?_
      refine c_placeOf hW hM2 hR2 hjm ?_
      refine e_il1 39 rfl dX10_order_38 ?_
      first | refine e_cmp_neN 44 42 (by decide) rfl dX10_order_39 rfl rfl (by omega) (by omega) (fun y4 => ?_) (fun y4 => ?_) | refine e_cmp_ne 44 42 (by decide) rfl dX10_order_39 (fun y4 => ?_) (fun y4 => ?_)
      · refine e_ii2 (nI (_ + 1)) 47 rfl dX10_order_44 (ii1 _) rfl ?_
        refine e_goto 25 (by decide) dX10_order_47 ?_
        exact ih (j + 1) (by omega)
      · exact absurd y4 hne
  exact loop Y 0 (by omega)
end MORDER
