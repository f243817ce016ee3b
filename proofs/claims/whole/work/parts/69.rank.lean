/-! NameDesk: rank, order -/
section RANK
variable {E : En} {μ : Mm} {K : Option Value → Mm → Prop}
theorem Hd.app {f : Nat → Int32} {x y : List Nat} (h1 : Hd f x) (h2 : Hd (fun q => f (x.length + q)) y) : Hd f (x ++ y) := by
  intro i c hi
  by_cases q : i < x.length
  · rw [List.getElem?_append_left q] at hi; exact h1 i c hi
  · rw [List.getElem?_append_right (by omega)] at hi
    have e : f (x.length + (i - x.length)) = nI c := h2 _ _ hi
    rw [show x.length + (i - x.length) = i by omega] at e
    exact e
theorem Hd.cons {f : Nat → Int32} {x : Nat} {y : List Nat} (h1 : f 0 = nI x) (h2 : Hd (fun q => f (q + 1)) y) : Hd f (x :: y) := by
  intro i c hi
  cases i with
  | zero => simp at hi; rw [← hi]; exact h1
  | succ i => rw [List.getElem?_cons_succ] at hi; exact h2 i c hi
theorem Hd.of {f g : Nat → Int32} {l : List Nat} (h : Hd f l) (e : ∀ i, i < l.length → g i = f i) : Hd g l := fun i c hi => by rw [e i (List.getElem?_eq_some_iff.mp hi).1]; exact h i c hi
theorem insB_mem {bef : Nat → Nat → Bool} {x : Nat} : ∀ (l : List Nat) (y : Nat), y ∈ insB bef x l ↔ y = x ∨ y ∈ l := by
  intro l
  induction l with
  | nil => intro y; simp [insB]
  | cons z r ih =>
    intro y
    unfold insB
    split
    · rw [List.mem_cons, ih, List.mem_cons]
      constructor
      · rintro (a | a | a)
        · exact Or.inr (Or.inl a)
        · exact Or.inl a
        · exact Or.inr (Or.inr a)
      · rintro (a | a | a)
        · exact Or.inr (Or.inl a)
        · exact Or.inl a
        · exact Or.inr (Or.inr a)
    · rw [List.mem_cons]
theorem insB_len {bef : Nat → Nat → Bool} {x : Nat} : ∀ (l : List Nat), (insB bef x l).length = l.length + 1 := by
  intro l
  induction l with
  | nil => rfl
  | cons z r ih =>
    unfold insB
    split
    · rw [List.length_cons, ih, List.length_cons]
    · rfl
theorem rnkR_mem {bef : Nat → Nat → Bool} : ∀ n y, y ∈ rnkR bef n ↔ y < n := by
  intro n
  induction n with
  | zero => intro y; simp [rnkR]
  | succ n ih =>
    intro y
    rw [rnkR, insB_mem, ih]
    omega
theorem rnkR_len {bef : Nat → Nat → Bool} : ∀ n, (rnkR bef n).length = n := by
  intro n
  induction n with
  | zero => rfl
  | succ n ih => rw [rnkR, insB_len, ih]
theorem DI.rk {d : Nat} {S : Ast} {μ' : Mm} (hW : WF S) (hD : DI d S μ) (f : Fr (fun q => q = d + 294 ∨ q = d) μ μ') (hf : ∀ g, g ≠ 11 → mF μ' d g = mF μ d g) (hR : RkI μ' d (aS S) (aB S) (aN S)) : DI d S μ' := by
  obtain ⟨h1, h2, h3, h4, h5, h6, h7, h8, h9, h10, h11, h12⟩ := hD
  exact ⟨h1.fx f.fx (fun g _ => by rw [f.2.2.2.1]) (by omega), h2.fx f.fx (by omega) (by omega), h3.fx f.fx (by omega), h4.fx f.fx (fun q a b => by omega), h5.fr f, h6.fx f.fx (fun q a b => by omega), h7.fx f.fx (fun q a b => by omega), h8.fr f, h9.fx f.fx (by rw [f.2.2.2.1]) (by omega) (fun q a => by omega), h10.fx hW.2.2.2.1 f.fx (hf 7 (by decide)) (fun q a b => by omega), h11.fx f.fx (hf 9 (by decide)) (fun q a b => by omega), hR⟩
theorem DI.ky {d i : Nat} {S : Ast} {nm : Nm} (hW : WF S) (hD : DI d S μ) (hi : (aN S)[i]? = some nm) (h : mF μ (nA d i) 3 = nI 1) : Ng μ (nA d i) ∧ mF μ (nA d i) 4 = bI (rdB (aS S nm.1) (aB S) nm) ∧ Ky μ (nA d i) (kyP (aS S nm.1) (aB S) nm) (kyW (aS S nm.1) (aB S) nm) := by
  obtain ⟨h1, h2, h3⟩ := hD.fresh hi h
  have hil := (List.getElem?_eq_some_iff.mp hi).1
  have n30 := hW.2.2.2.1.1
  have hwf := hW.2.2.2.1.2 nm (List.mem_of_getElem? hi)
  have hN := hD.2.2.2.2.2.2.2.2.2.1
  have hNf := (hN.2.2 i nm hi).2.1.nf hwf
  have hsm := (hD.2.2.2.2.2.2.2.2.1.2.choose_spec.2.2.2 nm.1 hwf.1).2
  have l8 : (kyP (aS S nm.1) (aB S) nm).length ≤ 8 := chL_len (soO_ok hsm).2.1 (by rw [rdK_len]; exact hwf.2.2.1)
  refine ⟨hN.2.1 i (by omega), h1.1, h2, l8, h3, by unfold kyW; simp, fun j hj => ?_⟩
  have hp := chL_lt (List.getElem_mem hj)
  rw [rdK_len] at hp
  have hw8 := hwf.2.2.1
  refine ⟨by omega, fun h' => hNf.2.2 _ _ ?_⟩
  have e : (kyW (aS S nm.1) (aB S) nm)[j] = (fsN nm).getD (kyP (aS S nm.1) (aB S) nm)[j] [] := List.getElem_map ..
  rw [e, List.getD_eq_getElem?_getD, List.getElem?_eq_getElem (by rw [fsN_len]; exact hp)]
  rfl
theorem c_rank {d : Nat} {S : Ast} (hW : WF S) (hD : DI d S μ) (k : ∀ μ', DF d μ μ' → DI d S μ' → Hd (mA μ' (d + 294)) (rnk (aS S) (aB S) (aN S)) → K none μ') : Cl E M_X9_rank [.ref d] μ K := by
  have gk := hD.1.1.1
  have n30 := hW.2.2.2.1.1
  obtain ⟨b, hb, hbr⟩ := hD.2.2.2.2.2.2.2.2.2.2.2
  refine Cl.of0 3 pn_X9 (Nat.le_of_ble_eq_true rfl) ⟨rfl, rfl⟩ rfl ?_
  refine e_al0 1 rfl dX9_rank_0 ?_
  first | refine e_getIv 4 rfl dX9_rank_1 f_X9_72 (by assumption) (by first | assumption | (simp only [mN_sF, mK_sF, mL_sF, mF_sF, mB_sF, mA_sF, mJ_sF, mP_sF, mO_sF, mN_sB, mK_sB, mL_sB, mF_sB, mB_sB, mA_sB, mJ_sB, mP_sB, mO_sB, mN_sA, mK_sA, mL_sA, mF_sA, mB_sA, mA_sA, mJ_sA, mP_sA, mO_sA, mN_sJ, mK_sJ, mL_sJ, mF_sJ, mB_sJ, mA_sJ, mJ_sJ, mP_sJ, mO_sJ, mN_sP, mK_sP, mL_sP, mF_sP, mB_sP, mA_sP, mJ_sP, mP_sP, mO_sP, mN_sO, mK_sO, mL_sO, mF_sO, mB_sO, mA_sO, mJ_sO, mP_sO, mO_sO, up2, if_true, if_false, eq_self, ite_true, ite_false, reduceIte, Nat.add_left_cancel_iff, Nat.add_eq_left, Nat.left_eq_add, Nat.reduceEqDiff]; assumption) | (simp only [mN_sF, mK_sF, mL_sF, mF_sF, mB_sF, mA_sF, mJ_sF, mP_sF, mO_sF, mN_sB, mK_sB, mL_sB, mF_sB, mB_sB, mA_sB, mJ_sB, mP_sB, mO_sB, mN_sA, mK_sA, mL_sA, mF_sA, mB_sA, mA_sA, mJ_sA, mP_sA, mO_sA, mN_sJ, mK_sJ, mL_sJ, mF_sJ, mB_sJ, mA_sJ, mJ_sJ, mP_sJ, mO_sJ, mN_sP, mK_sP, mL_sP, mF_sP, mB_sP, mA_sP, mJ_sP, mP_sP, mO_sP, mN_sO, mK_sO, mL_sO, mF_sO, mB_sO, mA_sO, mJ_sO, mP_sO, mO_sO, up2, if_true, if_false, eq_self, ite_true, ite_false, reduceIte, Nat.add_left_cancel_iff, Nat.add_eq_left, Nat.left_eq_add, Nat.reduceEqDiff]; done)) ?_ | refine e_getI 4 rfl dX9_rank_1 f_X9_72 (by assumption) ?_
  first | refine e_if_eqB 8 7 (by decide) rfl dX9_rank_4 rfl (fun y1 => ?_) (fun y1 => ?_) | refine e_if_eqN 8 7 (by decide) rfl dX9_rank_4 rfl (by omega) (fun y1 => ?_) (fun y1 => ?_) | refine e_if_eq 8 7 (by decide) rfl dX9_rank_4 (fun y1 => ?_) (fun y1 => ?_)
  rotate_left
  · refine e_ret dX9_rank_7 rfl ?_
    exact k μ Fx.rf hD (hbr y1)
  rw [y1] at hb
  obtain ⟨bef, hbef⟩ : ∃ bef, bef = befN (aS S) (aB S) (aN S) := ⟨_, rfl⟩
  have outer : ∀ (fu i : Nat), i + fu = (aN S).length → ∀ μ1 l2 l3, DF d μ μ1 → DI d S μ1 → mF μ1 d 11 = nI 0 → (∀ j, j < i → mF μ1 (nA d j) 3 = nI 1) → Hd (mA μ1 (d + 294)) (rnkR bef i).reverse → Ev E M_X9_rank 0 0 10 [some (.ref d), some (.int (nI i)), l2, l3] [] μ1 K := by
    intro fu
    induction fu with
    | zero =>
      intro i hi μ1 l2 l3 hX1 hD1 h11 hfr hH
      have gk1 := hD1.1.1.1
      have h7 := hD1.2.2.2.2.2.2.2.2.2.1.1
      refine e_il1 11 rfl dX9_rank_10 ?_
      refine e_al0 12 rfl dX9_rank_11 ?_
      first | refine e_getIv 15 rfl dX9_rank_12 f_X9_54 (by assumption) (by first | assumption | (simp only [mN_sF, mK_sF, mL_sF, mF_sF, mB_sF, mA_sF, mJ_sF, mP_sF, mO_sF, mN_sB, mK_sB, mL_sB, mF_sB, mB_sB, mA_sB, mJ_sB, mP_sB, mO_sB, mN_sA, mK_sA, mL_sA, mF_sA, mB_sA, mA_sA, mJ_sA, mP_sA, mO_sA, mN_sJ, mK_sJ, mL_sJ, mF_sJ, mB_sJ, mA_sJ, mJ_sJ, mP_sJ, mO_sJ, mN_sP, mK_sP, mL_sP, mF_sP, mB_sP, mA_sP, mJ_sP, mP_sP, mO_sP, mN_sO, mK_sO, mL_sO, mF_sO, mB_sO, mA_sO, mJ_sO, mP_sO, mO_sO, up2, if_true, if_false, eq_self, ite_true, ite_false, reduceIte, Nat.add_left_cancel_iff, Nat.add_eq_left, Nat.left_eq_add, Nat.reduceEqDiff]; assumption) | (simp only [mN_sF, mK_sF, mL_sF, mF_sF, mB_sF, mA_sF, mJ_sF, mP_sF, mO_sF, mN_sB, mK_sB, mL_sB, mF_sB, mB_sB, mA_sB, mJ_sB, mP_sB, mO_sB, mN_sA, mK_sA, mL_sA, mF_sA, mB_sA, mA_sA, mJ_sA, mP_sA, mO_sA, mN_sJ, mK_sJ, mL_sJ, mF_sJ, mB_sJ, mA_sJ, mJ_sJ, mP_sJ, mO_sJ, mN_sP, mK_sP, mL_sP, mF_sP, mB_sP, mA_sP, mJ_sP, mP_sP, mO_sP, mN_sO, mK_sO, mL_sO, mF_sO, mB_sO, mA_sO, mJ_sO, mP_sO, mO_sO, up2, if_true, if_false, eq_self, ite_true, ite_false, reduceIte, Nat.add_left_cancel_iff, Nat.add_eq_left, Nat.left_eq_add, Nat.reduceEqDiff]; done)) ?_ | refine e_getI 15 rfl dX9_rank_12 f_X9_54 (by assumption) ?_
      first | refine e_cmp_geN 83 18 (by decide) rfl dX9_rank_15 rfl rfl (by omega) (by omega) (fun y2 => ?_) (fun y2 => ?_) | refine e_cmp_ge 83 18 (by decide) rfl dX9_rank_15 (fun y2 => ?_) (fun y2 => ?_)
      rotate_left
      · omega
      refine e_al0 84 rfl dX9_rank_83 ?_
      refine e_iconst (nI 1) 85 rfl dX9_rank_84 ic_1 ?_
      refine e_putZ 88 rfl dX9_rank_85 f_X9_72 (by assumption) (by first | exact z0 | exact z1 | exact bI01 _ | assumption) ?_
      refine e_ret dX9_rank_88 rfl ?_
      have ei : i = (aN S).length := by omega
      subst ei
      have hH2 : Hd (mA (sF μ1 d 11 (nI 1)) (d + 294)) (rnk (aS S) (aB S) (aN S)) := by unfold rnk; rw [← hbef]; exact hH
      refine k _ (hX1.sF ⟨by omega, by omega⟩ _ _) (hD1.rk hW ((Fr.rf (S := fun q => q = d + 294 ∨ q = d)).sF (Or.inr rfl) _ _) (fun g hg => by show up2 _ d 11 _ d g = _; rw [up2_k hg]) ⟨true, by simp only [mN_sF, mK_sF, mL_sF, mF_sF, mB_sF, mA_sF, mJ_sF, mP_sF, mO_sF, mN_sB, mK_sB, mL_sB, mF_sB, mB_sB, mA_sB, mJ_sB, mP_sB, mO_sB, mN_sA, mK_sA, mL_sA, mF_sA, mB_sA, mA_sA, mJ_sA, mP_sA, mO_sA, mN_sJ, mK_sJ, mL_sJ, mF_sJ, mB_sJ, mA_sJ, mJ_sJ, mP_sJ, mO_sJ, mN_sP, mK_sP, mL_sP, mF_sP, mB_sP, mA_sP, mJ_sP, mP_sP, mO_sP, mN_sO, mK_sO, mL_sO, mF_sO, mB_sO, mA_sO, mJ_sO, mP_sO, mO_sO, up2, if_true, if_false, eq_self, ite_true, ite_false, reduceIte, Nat.add_left_cancel_iff, Nat.add_eq_left, Nat.left_eq_add, Nat.reduceEqDiff]; rfl, fun _ => hH2⟩) hH2
    | succ fu ih =>
      intro i hi μ1 l2 l3 hX1 hD1 h11 hfr hH
      have gk1 := hD1.1.1.1
      have h7 := hD1.2.2.2.2.2.2.2.2.2.1.1
      have hil : i < (aN S).length := by omega
      obtain ⟨nmi, hnm⟩ : ∃ nmi, (aN S)[i]? = some nmi := ⟨_, List.getElem?_eq_getElem hil⟩
      refine e_il1 11 rfl dX9_rank_10 ?_
      refine e_al0 12 rfl dX9_rank_11 ?_
      first | refine e_getIv 15 rfl dX9_rank_12 f_X9_54 (by assumption) (by first | assumption | (simp only [mN_sF, mK_sF, mL_sF, mF_sF, mB_sF, mA_sF, mJ_sF, mP_sF, mO_sF, mN_sB, mK_sB, mL_sB, mF_sB, mB_sB, mA_sB, mJ_sB, mP_sB, mO_sB, mN_sA, mK_sA, mL_sA, mF_sA, mB_sA, mA_sA, mJ_sA, mP_sA, mO_sA, mN_sJ, mK_sJ, mL_sJ, mF_sJ, mB_sJ, mA_sJ, mJ_sJ, mP_sJ, mO_sJ, mN_sP, mK_sP, mL_sP, mF_sP, mB_sP, mA_sP, mJ_sP, mP_sP, mO_sP, mN_sO, mK_sO, mL_sO, mF_sO, mB_sO, mA_sO, mJ_sO, mP_sO, mO_sO, up2, if_true, if_false, eq_self, ite_true, ite_false, reduceIte, Nat.add_left_cancel_iff, Nat.add_eq_left, Nat.left_eq_add, Nat.reduceEqDiff]; assumption) | (simp only [mN_sF, mK_sF, mL_sF, mF_sF, mB_sF, mA_sF, mJ_sF, mP_sF, mO_sF, mN_sB, mK_sB, mL_sB, mF_sB, mB_sB, mA_sB, mJ_sB, mP_sB, mO_sB, mN_sA, mK_sA, mL_sA, mF_sA, mB_sA, mA_sA, mJ_sA, mP_sA, mO_sA, mN_sJ, mK_sJ, mL_sJ, mF_sJ, mB_sJ, mA_sJ, mJ_sJ, mP_sJ, mO_sJ, mN_sP, mK_sP, mL_sP, mF_sP, mB_sP, mA_sP, mJ_sP, mP_sP, mO_sP, mN_sO, mK_sO, mL_sO, mF_sO, mB_sO, mA_sO, mJ_sO, mP_sO, mO_sO, up2, if_true, if_false, eq_self, ite_true, ite_false, reduceIte, Nat.add_left_cancel_iff, Nat.add_eq_left, Nat.left_eq_add, Nat.reduceEqDiff]; done)) ?_ | refine e_getI 15 rfl dX9_rank_12 f_X9_54 (by assumption) ?_
      first | refine e_cmp_geN 83 18 (by decide) rfl dX9_rank_15 rfl rfl (by omega) (by omega) (fun y2 => ?_) (fun y2 => ?_) | refine e_cmp_ge 83 18 (by decide) rfl dX9_rank_15 (fun y2 => ?_) (fun y2 => ?_)
      · omega
      refine e_al0 19 rfl dX9_rank_18 ?_
      refine e_il1 20 rfl dX9_rank_19 ?_
      refine e_invV0 [_] 23 rfl dX9_rank_20 k_X9_187 mo_X9_freshName rm_X9_rank_X9_freshName ⟨rfl, rfl⟩ rfl rfl (by assumption) (Nat.le_of_ble_eq_true rfl) ?_
      refine c_freshName hW hD1 hnm (fun μ2 hF2 hf2 hP2 hD2 hfi => ?_)
      have hX2 : DF d μ μ2 := hX1.trans (hF2.mono (fun q h => by unfold fnQ rdQ nA at h; omega))
      have h112 : mF μ2 d 11 = nI 0 := by rw [hf2 11 (by decide)]; exact h11
      have hfr2 : ∀ j, j < i + 1 → mF μ2 (nA d j) 3 = nI 1 := fun j hj => by
        by_cases e : j = i
        · rw [e]; exact hfi
        · rw [(hF2.2.2.2 (nA d j) (by unfold fnQ rdQ nA; omega)).1]; exact hfr j (by omega)
      have hH2 : Hd (mA μ2 (d + 294)) (rnkR bef i).reverse := by rw [(hF2.2.2.2 (d + 294) (by unfold fnQ rdQ nA; omega)).2.2.1]; exact hH
      refine e_as2 24 rfl dX9_rank_23 (by decide) rfl ?_
      refine e_il1 25 rfl dX9_rank_24 ?_
      refine e_is3 26 rfl dX9_rank_25 (by decide) rfl ?_
      have hRm : ∀ y, y ∈ rnkR bef i → y < i := fun y hy => (rnkR_mem i y).mp hy
      have hRl := rnkR_len (bef := bef) i
      have inner : ∀ (M L : List Nat) μ3, DF d μ μ3 → DI d S μ3 → mF μ3 d 11 = nI 0 → (∀ j, j < i + 1 → mF μ3 (nA d j) 3 = nI 1) → rnkR bef i = L ++ M → insB bef i (rnkR bef i) = L ++ insB bef i M → Hd (mA μ3 (d + 294)) M.reverse → Hd (fun q => mA μ3 (d + 294) (M.length + 1 + q)) L.reverse → Ev E M_X9_rank 0 0 26 [some (.ref d), some (.int (nI i)), some (.ref (nA d i)), some (.int (nI M.length))] [] μ3 K := by
        intro M
        induction M with
        | nil =>
          intro L μ3 hX3 hD3 h113 hfr3 eR eI hM hL
          obtain ⟨⟨gk3, p0, p1, p2, p4, p5, p6, p8, p10, px⟩, ⟨k3, l3', k262, l262, k294, l294, kx⟩, g3⟩ := id hD3.1
          have z : ([] : List Nat).length = 0 := rfl
          rw [z] at hL ⊢
          refine e_il3 27 rfl dX9_rank_26 ?_
          first | refine e_if_leN 70 30 (by decide) rfl dX9_rank_27 rfl (by omega) (fun y3 => ?_) (fun y3 => ?_) | refine e_if_le 70 30 (by decide) rfl dX9_rank_27 (fun y3 => ?_) (fun y3 => ?_)
          rotate_left
          · omega
          refine e_al0 71 rfl dX9_rank_70 ?_
          refine e_getR 74 rfl dX9_rank_71 f_X9_68 (by assumption) (by assumption) ?_
          refine e_il3 75 rfl dX9_rank_74 ?_
          refine e_il1 76 rfl dX9_rank_75 ?_
          refine e_iast 77 rfl dX9_rank_76 (by assumption) (by assumption) (by first | rfl | simp only [pk_mul, nI_add]) (by omega) (by omega) ?_
          refine e_ii1 (nI (_ + 1)) 80 rfl dX9_rank_77 (ii1 _) rfl ?_
          refine e_goto 10 (by decide) dX9_rank_80 ?_
          rw [eR] at hRl
          simp at hRl
          have hA : Hd (mA (sA μ3 (d + 294) 0 (nI i)) (d + 294)) (rnkR bef (i + 1)).reverse := by
            rw [rnkR, eI, insB, List.reverse_append]
            refine Hd.cons (by show up2 _ (d + 294) 0 _ (d + 294) 0 = _; rw [up2_s]) (hL.of (fun q hq => ?_))
            show up2 _ (d + 294) 0 _ (d + 294) (q + 1) = mA μ3 (d + 294) (0 + 1 + q)
            rw [up2_k (by omega), show 0 + 1 + q = q + 1 by omega]
          refine ih (i + 1) (by omega) _ _ _ (hX3.sA ⟨by omega, by omega⟩ _ _) (hD3.rk hW ((Fr.rf (S := fun q => q = d + 294 ∨ q = d)).sA (Or.inl rfl) _ _) (fun g _ => rfl) ⟨false, h113, fun q => by cases q⟩) h113 hfr3 hA
        | cons y M ihM =>
          intro L μ3 hX3 hD3 h113 hfr3 eR eI hM hL
          obtain ⟨⟨gk3, p0, p1, p2, p4, p5, p6, p8, p10, px⟩, ⟨k3, l3', k262, l262, k294, l294, kx⟩, g3⟩ := id hD3.1
          have hyi : y < i := hRm y (by rw [eR]; simp)
          have hlen : M.length + 1 + L.length = i := by rw [eR] at hRl; simp at hRl; omega
          have hAy : mA μ3 (d + 294) M.length = nI y := by
            have := hM M.length y (by rw [List.reverse_cons, List.getElem?_append_right (by simp)]; simp)
            exact this
          obtain ⟨nmy, hyN⟩ : ∃ nmy, (aN S)[y]? = some nmy := ⟨_, List.getElem?_eq_getElem (by omega)⟩
          have oy := g3 y (by omega)
          obtain ⟨ng1, r1, ky1⟩ := hD3.ky hW hnm (hfr3 i (by omega))
          obtain ⟨ng2, r2, ky2⟩ := hD3.ky hW hyN (hfr3 y (by omega))
          have nk1 := ng1.1.1
          have hM1 : M.length + 1 - 1 = M.length := by omega
          simp only [List.length_cons] at hL ⊢
          refine e_il3 27 rfl dX9_rank_26 ?_
          first | refine e_if_leN 70 30 (by decide) rfl dX9_rank_27 rfl (by omega) (fun y3 => ?_) (fun y3 => ?_) | refine e_if_le 70 30 (by decide) rfl dX9_rank_27 (fun y3 => ?_) (fun y3 => ?_)
          · omega
          have hAy' : mA μ3 (d + 294) (M.length + 1 - 1) = nI y := by rw [hM1]; exact hAy
          refine e_al2 31 rfl dX9_rank_30 ?_
          refine e_al0 32 rfl dX9_rank_31 ?_
          refine e_getR 35 rfl dX9_rank_32 f_X9_50 (by assumption) (by assumption) ?_
          refine e_al0 36 rfl dX9_rank_35 ?_
          refine e_getR 39 rfl dX9_rank_36 f_X9_68 (by assumption) (by assumption) ?_
          refine e_il3 40 rfl dX9_rank_39 ?_
          refine e_iconst (nI 1) 41 rfl dX9_rank_40 ic_1 ?_
          first | refine e_isubN 42 rfl dX9_rank_41 rfl rfl (by omega) ?_ | refine e_isub 42 rfl dX9_rank_41 ?_
          first | refine e_ialdv 43 rfl dX9_rank_42 (by assumption) (by assumption) (by first | rfl | simp only [pk_mul, nI_add]) (by omega) (by omega) (by first | assumption | (simp only [mN_sF, mK_sF, mL_sF, mF_sF, mB_sF, mA_sF, mJ_sF, mP_sF, mO_sF, mN_sB, mK_sB, mL_sB, mF_sB, mB_sB, mA_sB, mJ_sB, mP_sB, mO_sB, mN_sA, mK_sA, mL_sA, mF_sA, mB_sA, mA_sA, mJ_sA, mP_sA, mO_sA, mN_sJ, mK_sJ, mL_sJ, mF_sJ, mB_sJ, mA_sJ, mJ_sJ, mP_sJ, mO_sJ, mN_sP, mK_sP, mL_sP, mF_sP, mB_sP, mA_sP, mJ_sP, mP_sP, mO_sP, mN_sO, mK_sO, mL_sO, mF_sO, mB_sO, mA_sO, mJ_sO, mP_sO, mO_sO, up2, if_true, if_false, eq_self, ite_true, ite_false, reduceIte, Nat.add_left_cancel_iff, Nat.add_eq_left, Nat.left_eq_add, Nat.reduceEqDiff]; assumption) | (simp only [mN_sF, mK_sF, mL_sF, mF_sF, mB_sF, mA_sF, mJ_sF, mP_sF, mO_sF, mN_sB, mK_sB, mL_sB, mF_sB, mB_sB, mA_sB, mJ_sB, mP_sB, mO_sB, mN_sA, mK_sA, mL_sA, mF_sA, mB_sA, mA_sA, mJ_sA, mP_sA, mO_sA, mN_sJ, mK_sJ, mL_sJ, mF_sJ, mB_sJ, mA_sJ, mJ_sJ, mP_sJ, mO_sJ, mN_sP, mK_sP, mL_sP, mF_sP, mB_sP, mA_sP, mJ_sP, mP_sP, mO_sP, mN_sO, mK_sO, mL_sO, mF_sO, mB_sO, mA_sO, mJ_sO, mP_sO, mO_sO, up2, if_true, if_false, eq_self, ite_true, ite_false, reduceIte, Nat.add_left_cancel_iff, Nat.add_eq_left, Nat.left_eq_add, Nat.reduceEqDiff]; done)) ?_ | refine e_iald 43 rfl dX9_rank_42 (by assumption) (by assumption) (by first | rfl | simp only [pk_mul, nI_add]) (by omega) (by omega) ?_
          refine e_aald 44 rfl dX9_rank_43 (by assumption) (by decide) (by assumption) (by first | rfl | simp only [pk_mul, nI_add]) (by omega) (by omega) (by assumption) ?_
          refine e_invV0 [_] 47 rfl dX9_rank_44 k_X9_278 mo_X2_isBefore rm_X9_rank_X2_isBefore ⟨rfl, rfl⟩ rfl rfl (by assumption) (Nat.le_of_ble_eq_true rfl) ?_
          refine c_isBefore ng1 ng2 r1 r2 (fun _ => ky1) (fun _ => ky2) ?_
          have eb : befL (rdB (aS S nmi.1) (aB S) nmi) (kyW (aS S nmi.1) (aB S) nmi) (rdB (aS S nmy.1) (aB S) nmy) (kyW (aS S nmy.1) (aB S) nmy) = bef i y := by rw [hbef]; unfold befN; rw [hnm, hyN]
          rw [eb]
          have hMr : Hd (mA μ3 (d + 294)) M.reverse := fun q c hq => hM q c (by
            have := (List.getElem?_eq_some_iff.mp hq).1
            rw [List.reverse_cons, List.getElem?_append_left this]; exact hq)
          first | refine e_if_eqB 70 50 (by decide) rfl dX9_rank_47 rfl (fun y4 => ?_) (fun y4 => ?_) | refine e_if_eqN 70 50 (by decide) rfl dX9_rank_47 rfl (by omega) (fun y4 => ?_) (fun y4 => ?_) | refine e_if_eq 70 50 (by decide) rfl dX9_rank_47 (fun y4 => ?_) (fun y4 => ?_)
          · refine e_al0 71 rfl dX9_rank_70 ?_
            refine e_getR 74 rfl dX9_rank_71 f_X9_68 (by assumption) (by assumption) ?_
            refine e_il3 75 rfl dX9_rank_74 ?_
            refine e_il1 76 rfl dX9_rank_75 ?_
            refine e_iast 77 rfl dX9_rank_76 (by assumption) (by assumption) (by first | rfl | simp only [pk_mul, nI_add]) (by omega) (by omega) ?_
            refine e_ii1 (nI (_ + 1)) 80 rfl dX9_rank_77 (ii1 _) rfl ?_
            refine e_goto 10 (by decide) dX9_rank_80 ?_
            have hA : Hd (mA (sA μ3 (d + 294) (M.length + 1) (nI i)) (d + 294)) (rnkR bef (i + 1)).reverse := by
              rw [rnkR, eI, insB, if_neg (by rw [y4]; decide), List.reverse_append, List.reverse_cons, List.append_assoc]
              refine Hd.app (hM.of (fun q hq => ?_)) (Hd.cons ?_ (hL.of (fun q hq => ?_)))
              · show up2 _ (d + 294) _ _ (d + 294) q = _
                simp at hq
                rw [up2_k (by omega)]
              · show up2 _ (d + 294) _ _ (d + 294) _ = _
                simp only [List.length_reverse, List.length_cons, Nat.add_zero]
                rw [up2_s]
              · show up2 _ (d + 294) _ _ (d + 294) _ = mA μ3 (d + 294) (M.length + 1 + 1 + q)
                simp only [List.length_reverse, List.length_cons]
                rw [up2_k (by omega), show M.length + 1 + (q + 1) = M.length + 1 + 1 + q by omega]
            refine ih (i + 1) (by omega) _ _ _ (hX3.sA ⟨by omega, by omega⟩ _ _) (hD3.rk hW ((Fr.rf (S := fun q => q = d + 294 ∨ q = d)).sA (Or.inl rfl) _ _) (fun g _ => rfl) ⟨false, h113, fun q => by cases q⟩) h113 hfr3 hA
          · refine e_al0 51 rfl dX9_rank_50 ?_
            refine e_getR 54 rfl dX9_rank_51 f_X9_68 (by assumption) (by assumption) ?_
            refine e_il3 55 rfl dX9_rank_54 ?_
            refine e_al0 56 rfl dX9_rank_55 ?_
            refine e_getR 59 rfl dX9_rank_56 f_X9_68 (by assumption) (by assumption) ?_
            refine e_il3 60 rfl dX9_rank_59 ?_
            refine e_iconst (nI 1) 61 rfl dX9_rank_60 ic_1 ?_
            first | refine e_isubN 62 rfl dX9_rank_61 rfl rfl (by omega) ?_ | refine e_isub 62 rfl dX9_rank_61 ?_
            first | refine e_ialdv 63 rfl dX9_rank_62 (by assumption) (by assumption) (by first | rfl | simp only [pk_mul, nI_add]) (by omega) (by omega) (by first | assumption | (simp only [mN_sF, mK_sF, mL_sF, mF_sF, mB_sF, mA_sF, mJ_sF, mP_sF, mO_sF, mN_sB, mK_sB, mL_sB, mF_sB, mB_sB, mA_sB, mJ_sB, mP_sB, mO_sB, mN_sA, mK_sA, mL_sA, mF_sA, mB_sA, mA_sA, mJ_sA, mP_sA, mO_sA, mN_sJ, mK_sJ, mL_sJ, mF_sJ, mB_sJ, mA_sJ, mJ_sJ, mP_sJ, mO_sJ, mN_sP, mK_sP, mL_sP, mF_sP, mB_sP, mA_sP, mJ_sP, mP_sP, mO_sP, mN_sO, mK_sO, mL_sO, mF_sO, mB_sO, mA_sO, mJ_sO, mP_sO, mO_sO, up2, if_true, if_false, eq_self, ite_true, ite_false, reduceIte, Nat.add_left_cancel_iff, Nat.add_eq_left, Nat.left_eq_add, Nat.reduceEqDiff]; assumption) | (simp only [mN_sF, mK_sF, mL_sF, mF_sF, mB_sF, mA_sF, mJ_sF, mP_sF, mO_sF, mN_sB, mK_sB, mL_sB, mF_sB, mB_sB, mA_sB, mJ_sB, mP_sB, mO_sB, mN_sA, mK_sA, mL_sA, mF_sA, mB_sA, mA_sA, mJ_sA, mP_sA, mO_sA, mN_sJ, mK_sJ, mL_sJ, mF_sJ, mB_sJ, mA_sJ, mJ_sJ, mP_sJ, mO_sJ, mN_sP, mK_sP, mL_sP, mF_sP, mB_sP, mA_sP, mJ_sP, mP_sP, mO_sP, mN_sO, mK_sO, mL_sO, mF_sO, mB_sO, mA_sO, mJ_sO, mP_sO, mO_sO, up2, if_true, if_false, eq_self, ite_true, ite_false, reduceIte, Nat.add_left_cancel_iff, Nat.add_eq_left, Nat.left_eq_add, Nat.reduceEqDiff]; done)) ?_ | refine e_iald 63 rfl dX9_rank_62 (by assumption) (by assumption) (by first | rfl | simp only [pk_mul, nI_add]) (by omega) (by omega) ?_
            refine e_iast 64 rfl dX9_rank_63 (by assumption) (by assumption) (by first | rfl | simp only [pk_mul, nI_add]) (by omega) (by omega) ?_
            refine e_ii3 (nI _) 67 rfl dX9_rank_64 (iim1 _) rfl ?_
            refine e_goto 26 (by decide) dX9_rank_67 ?_
            refine ihM (L ++ [y]) _ (hX3.sA ⟨by omega, by omega⟩ _ _) (hD3.rk hW ((Fr.rf (S := fun q => q = d + 294 ∨ q = d)).sA (Or.inl rfl) _ _) (fun g _ => rfl) ⟨false, h113, fun q => by cases q⟩) h113 hfr3 (by rw [eR]; simp) ?_ (hMr.of (fun q hq => ?_)) ?_
            · rw [eI, insB, if_pos y4]; simp
            · show up2 _ (d + 294) _ _ (d + 294) q = _
              simp at hq
              rw [up2_k (by omega)]
            · rw [List.reverse_append]
              refine Hd.cons ?_ (hL.of (fun q hq => ?_))
              · show up2 _ (d + 294) _ _ (d + 294) _ = _
                rw [show M.length + 1 + 0 = M.length + 1 by omega, up2_s]
              · show up2 _ (d + 294) _ _ (d + 294) _ = mA μ3 (d + 294) (M.length + 1 + 1 + q)
                rw [up2_k (by omega), show M.length + 1 + (q + 1) = M.length + 1 + 1 + q by omega]
      have := inner (rnkR bef i) [] μ2 hX2 hD2 h112 hfr2 rfl rfl hH2 Hd.nil
      rw [hRl] at this
      exact this
  refine e_iconst (nI 0) 9 rfl dX9_rank_8 ic_0 ?_
  refine e_is1 10 rfl dX9_rank_9 (by decide) rfl ?_
  exact outer (aN S).length 0 (by omega) μ _ _ Fx.rf hD hb (fun j hj => by omega) Hd.nil
noncomputable def q_order (S : Ast) (x : Int32) : Int32 := match iN x with
  | some i => match (rnk (aS S) (aB S) (aN S))[i]? with
    | some y => nI y
    | none => -1
  | none => -1
theorem rnk_len {sh : Nat → Option Shp} {es : List Ent} {ns : List Nm} : (rnk sh es ns).length = ns.length := by unfold rnk; rw [List.length_reverse, rnkR_len]
theorem rnk_mem {sh : Nat → Option Shp} {es : List Ent} {ns : List Nm} {y : Nat} : y ∈ rnk sh es ns ↔ y < ns.length := by unfold rnk; rw [List.mem_reverse, rnkR_mem]
theorem d_order {d : Nat} {S : Ast} {x : Int32} (hW : WF S) (hD : DI d S μ) (k : ∀ μ', DF d μ μ' → DI d S μ' → K (some (.int (q_order S x))) μ') : Cl E M_X9_order [.ref d, .int x] μ K := by
  have gk := hD.1.1.1
  have n30 := hW.2.2.2.1.1
  unfold q_order at k
  refine Cl.of0 0 pn_X9 (Nat.le_of_ble_eq_true rfl) ⟨rfl, rfl⟩ rfl ?_
  refine e_al0 1 rfl dX9_order_0 ?_
  refine e_il1 2 rfl dX9_order_1 ?_
  refine e_invV0 [_] 5 rfl dX9_order_2 k_X9_156 mo_X9_isName rm_X9_order_X9_isName ⟨rfl, rfl⟩ rfl rfl (by assumption) (Nat.le_of_ble_eq_true rfl) ?_
  refine c_isName gk hD.2.2.2.2.2.2.2.2.2.1.1 n30 ?_
  cases eN : nmx (aN S) x with
  | none =>
    have k2 : K (some (.int (-1))) μ := by
      have k' := k μ Fx.rf hD
      unfold nmx at eN
      cases e : iN x with
      | none => rw [e] at k'; exact k'
      | some i =>
        rw [e] at k' eN
        have eN' : (aN S)[i]? = none := eN
        have : (rnk (aS S) (aB S) (aN S))[i]? = none := by rw [List.getElem?_eq_none_iff, rnk_len]; exact List.getElem?_eq_none_iff.mp eN'
        simp only [this] at k'
        exact k'
    first | refine e_if_neB 10 8 (by decide) rfl dX9_order_5 rfl (fun y1 => ?_) (fun y1 => ?_) | refine e_if_neN 10 8 (by decide) rfl dX9_order_5 rfl (by omega) (fun y1 => ?_) (fun y1 => ?_) | refine e_if_ne 10 8 (by decide) rfl dX9_order_5 (fun y1 => ?_) (fun y1 => ?_)
    · cases y1
    · refine e_iconst (-1) 9 rfl dX9_order_8 ic_m1 ?_
      refine e_iret dX9_order_9 rfl ?_
      exact k2
  | some nm =>
  obtain ⟨i, hx, hi⟩ := nmx_some eN
  have hil := (List.getElem?_eq_some_iff.mp hi).1
  subst hx
  rw [iN_nI (by omega)] at k
  have hg : (rnk (aS S) (aB S) (aN S))[i]? = some ((rnk (aS S) (aB S) (aN S))[i]'(by rw [rnk_len]; exact hil)) := List.getElem?_eq_getElem _
  simp only [hg] at k
  first | refine e_if_neB 10 8 (by decide) rfl dX9_order_5 rfl (fun y1 => ?_) (fun y1 => ?_) | refine e_if_neN 10 8 (by decide) rfl dX9_order_5 rfl (by omega) (fun y1 => ?_) (fun y1 => ?_) | refine e_if_ne 10 8 (by decide) rfl dX9_order_5 (fun y1 => ?_) (fun y1 => ?_)
  rotate_left
  · cases y1
  refine e_al0 11 rfl dX9_order_10 ?_
  refine e_invV0 [] 14 rfl dX9_order_11 k_X9_181 mo_X9_rank rm_X9_order_X9_rank ⟨rfl, rfl⟩ rfl rfl (by assumption) (Nat.le_of_ble_eq_true rfl) ?_
  refine c_rank hW hD (fun μ1 hF1 hD1 hH1 => ?_)
  obtain ⟨⟨gk1, p0, p1, p2, p4, p5, p6, p8, p10, px⟩, ⟨k3, l3', k262, l262, k294, l294, kx⟩, g3⟩ := id hD1.1
  have hv := hH1 i _ hg
  refine e_al0 15 rfl dX9_order_14 ?_
  refine e_getR 18 rfl dX9_order_15 f_X9_68 (by assumption) (by assumption) ?_
  refine e_il1 19 rfl dX9_order_18 ?_
  first | refine e_ialdv 20 rfl dX9_order_19 (by assumption) (by assumption) (by first | rfl | simp only [pk_mul, nI_add]) (by omega) (by omega) (by first | assumption | (simp only [mN_sF, mK_sF, mL_sF, mF_sF, mB_sF, mA_sF, mJ_sF, mP_sF, mO_sF, mN_sB, mK_sB, mL_sB, mF_sB, mB_sB, mA_sB, mJ_sB, mP_sB, mO_sB, mN_sA, mK_sA, mL_sA, mF_sA, mB_sA, mA_sA, mJ_sA, mP_sA, mO_sA, mN_sJ, mK_sJ, mL_sJ, mF_sJ, mB_sJ, mA_sJ, mJ_sJ, mP_sJ, mO_sJ, mN_sP, mK_sP, mL_sP, mF_sP, mB_sP, mA_sP, mJ_sP, mP_sP, mO_sP, mN_sO, mK_sO, mL_sO, mF_sO, mB_sO, mA_sO, mJ_sO, mP_sO, mO_sO, up2, if_true, if_false, eq_self, ite_true, ite_false, reduceIte, Nat.add_left_cancel_iff, Nat.add_eq_left, Nat.left_eq_add, Nat.reduceEqDiff]; assumption) | (simp only [mN_sF, mK_sF, mL_sF, mF_sF, mB_sF, mA_sF, mJ_sF, mP_sF, mO_sF, mN_sB, mK_sB, mL_sB, mF_sB, mB_sB, mA_sB, mJ_sB, mP_sB, mO_sB, mN_sA, mK_sA, mL_sA, mF_sA, mB_sA, mA_sA, mJ_sA, mP_sA, mO_sA, mN_sJ, mK_sJ, mL_sJ, mF_sJ, mB_sJ, mA_sJ, mJ_sJ, mP_sJ, mO_sJ, mN_sP, mK_sP, mL_sP, mF_sP, mB_sP, mA_sP, mJ_sP, mP_sP, mO_sP, mN_sO, mK_sO, mL_sO, mF_sO, mB_sO, mA_sO, mJ_sO, mP_sO, mO_sO, up2, if_true, if_false, eq_self, ite_true, ite_false, reduceIte, Nat.add_left_cancel_iff, Nat.add_eq_left, Nat.left_eq_add, Nat.reduceEqDiff]; done)) ?_ | refine e_iald 20 rfl dX9_order_19 (by assumption) (by assumption) (by first | rfl | simp only [pk_mul, nI_add]) (by omega) (by omega) ?_
  refine e_iret dX9_order_20 rfl ?_
  exact k μ1 hF1 hD1
theorem c_placeInRanking {d i : Nat} {S : Ast} (hW : WF S) (hD : DI d S μ) (hi : i < (aN S).length) (hH : Hd (mA μ (d + 294)) (rnk (aS S) (aB S) (aN S))) (k : K (some (.int (nI ((rnk (aS S) (aB S) (aN S)).idxOf i)))) μ) : Cl E M_X9_placeInRanking [.ref d, .int (nI i)] μ K := by
  obtain ⟨⟨gk, p0, p1, p2, p4, p5, p6, p8, p10, px⟩, ⟨k3, l3', k262, l262, k294, l294, kx⟩, g3⟩ := id hD.1
  have n30 := hW.2.2.2.1.1
  have h7 := hD.2.2.2.2.2.2.2.2.2.1.1
  obtain ⟨R, hR⟩ : ∃ R, R = rnk (aS S) (aB S) (aN S) := ⟨_, rfl⟩
  have hRl : R.length = (aN S).length := by rw [hR, rnk_len]
  have hRm : i ∈ R := by rw [hR, rnk_mem]; exact hi
  have hRb : ∀ y ∈ R, y < 30 := fun y hy => by rw [hR, rnk_mem] at hy; omega
  rw [← hR] at hH k
  clear hR
  have hidx := List.idxOf_lt_length_of_mem hRm
  have loop : ∀ (fu j : Nat), j + fu = R.idxOf i → Ev E M_X9_placeInRanking 0 0 2 [some (.ref d), some (.int (nI i)), some (.int (nI j))] [] μ K := by
    intro fu
    induction fu with
    | zero =>
      intro j hj
      have hjl : j < R.length := by omega
      have hv := hH.at hjl
      have hjb := hRb _ (List.getElem_mem hjl)
      have e : R[j] = i := by
        have := List.getElem_idxOf hidx
        have ej : R.idxOf i = j := by omega
        simp only [ej] at this
        exact this
      rw [e] at hv
      refine e_il2 3 rfl dX9_placeInRanking_2 ?_
      refine e_al0 4 rfl dX9_placeInRanking_3 ?_
      first | refine e_getIv 7 rfl dX9_placeInRanking_4 f_X9_54 (by assumption) (by first | assumption | (simp only [mN_sF, mK_sF, mL_sF, mF_sF, mB_sF, mA_sF, mJ_sF, mP_sF, mO_sF, mN_sB, mK_sB, mL_sB, mF_sB, mB_sB, mA_sB, mJ_sB, mP_sB, mO_sB, mN_sA, mK_sA, mL_sA, mF_sA, mB_sA, mA_sA, mJ_sA, mP_sA, mO_sA, mN_sJ, mK_sJ, mL_sJ, mF_sJ, mB_sJ, mA_sJ, mJ_sJ, mP_sJ, mO_sJ, mN_sP, mK_sP, mL_sP, mF_sP, mB_sP, mA_sP, mJ_sP, mP_sP, mO_sP, mN_sO, mK_sO, mL_sO, mF_sO, mB_sO, mA_sO, mJ_sO, mP_sO, mO_sO, up2, if_true, if_false, eq_self, ite_true, ite_false, reduceIte, Nat.add_left_cancel_iff, Nat.add_eq_left, Nat.left_eq_add, Nat.reduceEqDiff]; assumption) | (simp only [mN_sF, mK_sF, mL_sF, mF_sF, mB_sF, mA_sF, mJ_sF, mP_sF, mO_sF, mN_sB, mK_sB, mL_sB, mF_sB, mB_sB, mA_sB, mJ_sB, mP_sB, mO_sB, mN_sA, mK_sA, mL_sA, mF_sA, mB_sA, mA_sA, mJ_sA, mP_sA, mO_sA, mN_sJ, mK_sJ, mL_sJ, mF_sJ, mB_sJ, mA_sJ, mJ_sJ, mP_sJ, mO_sJ, mN_sP, mK_sP, mL_sP, mF_sP, mB_sP, mA_sP, mJ_sP, mP_sP, mO_sP, mN_sO, mK_sO, mL_sO, mF_sO, mB_sO, mA_sO, mJ_sO, mP_sO, mO_sO, up2, if_true, if_false, eq_self, ite_true, ite_false, reduceIte, Nat.add_left_cancel_iff, Nat.add_eq_left, Nat.left_eq_add, Nat.reduceEqDiff]; done)) ?_ | refine e_getI 7 rfl dX9_placeInRanking_4 f_X9_54 (by assumption) ?_
      first | refine e_cmp_geN 28 10 (by decide) rfl dX9_placeInRanking_7 rfl rfl (by omega) (by omega) (fun y1 => ?_) (fun y1 => ?_) | refine e_cmp_ge 28 10 (by decide) rfl dX9_placeInRanking_7 (fun y1 => ?_) (fun y1 => ?_)
      · omega
      refine e_al0 11 rfl dX9_placeInRanking_10 ?_
      refine e_getR 14 rfl dX9_placeInRanking_11 f_X9_68 (by assumption) (by assumption) ?_
      refine e_il2 15 rfl dX9_placeInRanking_14 ?_
      first | refine e_ialdv 16 rfl dX9_placeInRanking_15 (by assumption) (by assumption) (by first | rfl | simp only [pk_mul, nI_add]) (by omega) (by omega) (by first | assumption | (simp only [mN_sF, mK_sF, mL_sF, mF_sF, mB_sF, mA_sF, mJ_sF, mP_sF, mO_sF, mN_sB, mK_sB, mL_sB, mF_sB, mB_sB, mA_sB, mJ_sB, mP_sB, mO_sB, mN_sA, mK_sA, mL_sA, mF_sA, mB_sA, mA_sA, mJ_sA, mP_sA, mO_sA, mN_sJ, mK_sJ, mL_sJ, mF_sJ, mB_sJ, mA_sJ, mJ_sJ, mP_sJ, mO_sJ, mN_sP, mK_sP, mL_sP, mF_sP, mB_sP, mA_sP, mJ_sP, mP_sP, mO_sP, mN_sO, mK_sO, mL_sO, mF_sO, mB_sO, mA_sO, mJ_sO, mP_sO, mO_sO, up2, if_true, if_false, eq_self, ite_true, ite_false, reduceIte, Nat.add_left_cancel_iff, Nat.add_eq_left, Nat.left_eq_add, Nat.reduceEqDiff]; assumption) | (simp only [mN_sF, mK_sF, mL_sF, mF_sF, mB_sF, mA_sF, mJ_sF, mP_sF, mO_sF, mN_sB, mK_sB, mL_sB, mF_sB, mB_sB, mA_sB, mJ_sB, mP_sB, mO_sB, mN_sA, mK_sA, mL_sA, mF_sA, mB_sA, mA_sA, mJ_sA, mP_sA, mO_sA, mN_sJ, mK_sJ, mL_sJ, mF_sJ, mB_sJ, mA_sJ, mJ_sJ, mP_sJ, mO_sJ, mN_sP, mK_sP, mL_sP, mF_sP, mB_sP, mA_sP, mJ_sP, mP_sP, mO_sP, mN_sO, mK_sO, mL_sO, mF_sO, mB_sO, mA_sO, mJ_sO, mP_sO, mO_sO, up2, if_true, if_false, eq_self, ite_true, ite_false, reduceIte, Nat.add_left_cancel_iff, Nat.add_eq_left, Nat.left_eq_add, Nat.reduceEqDiff]; done)) ?_ | refine e_iald 16 rfl dX9_placeInRanking_15 (by assumption) (by assumption) (by first | rfl | simp only [pk_mul, nI_add]) (by omega) (by omega) ?_
      refine e_il1 17 rfl dX9_placeInRanking_16 ?_
      first | refine e_cmp_neN 22 20 (by decide) rfl dX9_placeInRanking_17 rfl rfl (by omega) (by omega) (fun y2 => ?_) (fun y2 => ?_) | refine e_cmp_ne 22 20 (by decide) rfl dX9_placeInRanking_17 (fun y2 => ?_) (fun y2 => ?_)
      · exact absurd rfl y2
      refine e_il2 21 rfl dX9_placeInRanking_20 ?_
      refine e_iret dX9_placeInRanking_21 rfl ?_
      rw [show j = R.idxOf i by omega]
      exact k
    | succ fu ih =>
      intro j hj
      have hjl : j < R.length := by omega
      have hv := hH.at hjl
      have hjb := hRb _ (List.getElem_mem hjl)
      have ne : R[j] ≠ i := fun e => by
        have h1 : j < R.findIdx (· == i) := by have : R.idxOf i = R.findIdx (· == i) := rfl; omega
        have h2 := List.not_of_lt_findIdx h1
        rw [e] at h2
        simp at h2
      refine e_il2 3 rfl dX9_placeInRanking_2 ?_
      refine e_al0 4 rfl dX9_placeInRanking_3 ?_
      first | refine e_getIv 7 rfl dX9_placeInRanking_4 f_X9_54 (by assumption) (by first | assumption | (simp only [mN_sF, mK_sF, mL_sF, mF_sF, mB_sF, mA_sF, mJ_sF, mP_sF, mO_sF, mN_sB, mK_sB, mL_sB, mF_sB, mB_sB, mA_sB, mJ_sB, mP_sB, mO_sB, mN_sA, mK_sA, mL_sA, mF_sA, mB_sA, mA_sA, mJ_sA, mP_sA, mO_sA, mN_sJ, mK_sJ, mL_sJ, mF_sJ, mB_sJ, mA_sJ, mJ_sJ, mP_sJ, mO_sJ, mN_sP, mK_sP, mL_sP, mF_sP, mB_sP, mA_sP, mJ_sP, mP_sP, mO_sP, mN_sO, mK_sO, mL_sO, mF_sO, mB_sO, mA_sO, mJ_sO, mP_sO, mO_sO, up2, if_true, if_false, eq_self, ite_true, ite_false, reduceIte, Nat.add_left_cancel_iff, Nat.add_eq_left, Nat.left_eq_add, Nat.reduceEqDiff]; assumption) | (simp only [mN_sF, mK_sF, mL_sF, mF_sF, mB_sF, mA_sF, mJ_sF, mP_sF, mO_sF, mN_sB, mK_sB, mL_sB, mF_sB, mB_sB, mA_sB, mJ_sB, mP_sB, mO_sB, mN_sA, mK_sA, mL_sA, mF_sA, mB_sA, mA_sA, mJ_sA, mP_sA, mO_sA, mN_sJ, mK_sJ, mL_sJ, mF_sJ, mB_sJ, mA_sJ, mJ_sJ, mP_sJ, mO_sJ, mN_sP, mK_sP, mL_sP, mF_sP, mB_sP, mA_sP, mJ_sP, mP_sP, mO_sP, mN_sO, mK_sO, mL_sO, mF_sO, mB_sO, mA_sO, mJ_sO, mP_sO, mO_sO, up2, if_true, if_false, eq_self, ite_true, ite_false, reduceIte, Nat.add_left_cancel_iff, Nat.add_eq_left, Nat.left_eq_add, Nat.reduceEqDiff]; done)) ?_ | refine e_getI 7 rfl dX9_placeInRanking_4 f_X9_54 (by assumption) ?_
      first | refine e_cmp_geN 28 10 (by decide) rfl dX9_placeInRanking_7 rfl rfl (by omega) (by omega) (fun y1 => ?_) (fun y1 => ?_) | refine e_cmp_ge 28 10 (by decide) rfl dX9_placeInRanking_7 (fun y1 => ?_) (fun y1 => ?_)
      · omega
      refine e_al0 11 rfl dX9_placeInRanking_10 ?_
      refine e_getR 14 rfl dX9_placeInRanking_11 f_X9_68 (by assumption) (by assumption) ?_
      refine e_il2 15 rfl dX9_placeInRanking_14 ?_
      first | refine e_ialdv 16 rfl dX9_placeInRanking_15 (by assumption) (by assumption) (by first | rfl | simp only [pk_mul, nI_add]) (by omega) (by omega) (by first | assumption | (simp only [mN_sF, mK_sF, mL_sF, mF_sF, mB_sF, mA_sF, mJ_sF, mP_sF, mO_sF, mN_sB, mK_sB, mL_sB, mF_sB, mB_sB, mA_sB, mJ_sB, mP_sB, mO_sB, mN_sA, mK_sA, mL_sA, mF_sA, mB_sA, mA_sA, mJ_sA, mP_sA, mO_sA, mN_sJ, mK_sJ, mL_sJ, mF_sJ, mB_sJ, mA_sJ, mJ_sJ, mP_sJ, mO_sJ, mN_sP, mK_sP, mL_sP, mF_sP, mB_sP, mA_sP, mJ_sP, mP_sP, mO_sP, mN_sO, mK_sO, mL_sO, mF_sO, mB_sO, mA_sO, mJ_sO, mP_sO, mO_sO, up2, if_true, if_false, eq_self, ite_true, ite_false, reduceIte, Nat.add_left_cancel_iff, Nat.add_eq_left, Nat.left_eq_add, Nat.reduceEqDiff]; assumption) | (simp only [mN_sF, mK_sF, mL_sF, mF_sF, mB_sF, mA_sF, mJ_sF, mP_sF, mO_sF, mN_sB, mK_sB, mL_sB, mF_sB, mB_sB, mA_sB, mJ_sB, mP_sB, mO_sB, mN_sA, mK_sA, mL_sA, mF_sA, mB_sA, mA_sA, mJ_sA, mP_sA, mO_sA, mN_sJ, mK_sJ, mL_sJ, mF_sJ, mB_sJ, mA_sJ, mJ_sJ, mP_sJ, mO_sJ, mN_sP, mK_sP, mL_sP, mF_sP, mB_sP, mA_sP, mJ_sP, mP_sP, mO_sP, mN_sO, mK_sO, mL_sO, mF_sO, mB_sO, mA_sO, mJ_sO, mP_sO, mO_sO, up2, if_true, if_false, eq_self, ite_true, ite_false, reduceIte, Nat.add_left_cancel_iff, Nat.add_eq_left, Nat.left_eq_add, Nat.reduceEqDiff]; done)) ?_ | refine e_iald 16 rfl dX9_placeInRanking_15 (by assumption) (by assumption) (by first | rfl | simp only [pk_mul, nI_add]) (by omega) (by omega) ?_
      refine e_il1 17 rfl dX9_placeInRanking_16 ?_
      first | refine e_cmp_neN 22 20 (by decide) rfl dX9_placeInRanking_17 rfl rfl (by omega) (by omega) (fun y2 => ?_) (fun y2 => ?_) | refine e_cmp_ne 22 20 (by decide) rfl dX9_placeInRanking_17 (fun y2 => ?_) (fun y2 => ?_)
      · refine e_ii2 (nI (_ + 1)) 25 rfl dX9_placeInRanking_22 (ii1 _) rfl ?_
        refine e_goto 2 (by decide) dX9_placeInRanking_25 ?_
        exact ih (j + 1) (by omega)
      · exact absurd y2 ne
  refine Cl.of0 1 pn_X9 (Nat.le_of_ble_eq_true rfl) ⟨rfl, rfl⟩ rfl ?_
  refine e_iconst (nI 0) 1 rfl dX9_placeInRanking_0 ic_0 ?_
  refine e_is2 2 rfl dX9_placeInRanking_1 (by decide) rfl ?_
  exact loop (R.idxOf i) 0 (by omega)
end RANK
