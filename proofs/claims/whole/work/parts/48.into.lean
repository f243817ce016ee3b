/-! NameDesk$ShapeText.readInto -/
section INTO
variable {E : En} {μ : Mm} {K : Option Value → Mm → Prop}
abbrev Shp : Type := List Slot0 × List Nat × List Nat × List Nat
def pShape (l : List Nat) : (Nat × Nat) ⊕ Shp := match pSl l 8 0 [] with
  | .inl e => .inl e
  | .inr (p1, sl) => match pLt l 7 p1 [] with
    | .inl e => .inl e
    | .inr (p2, so) => match pLt l 7 p2 [] with
      | .inl e => .inl e
      | .inr (p3, ca) => match pEnd l p3 with
        | .inl e => .inl e
        | .inr (p4, en) => if l[p4]? = some 46 then (if p4 + 1 < l.length then .inl (1, p4 + 1) else .inr (sl, so, ca, en)) else .inl (1, p4)
theorem pSl_le (l : List Nat) : ∀ f p acc p' sl, pSl l f p acc = .inr (p', sl) → p' ≤ l.length := by
  intro f
  induction f with
  | zero =>
    intro p acc p' sl h
    rw [pSl_eq] at h
    split at h
    · split at h
      next q => cases h; have := (List.getElem?_eq_some_iff.mp q.2).1; omega
      next => cases h
    · cases h
  | succ f ih =>
    intro p acc p' sl h
    rw [pSl_eq] at h
    split at h
    · split at h
      next q => cases h; have := (List.getElem?_eq_some_iff.mp q.2).1; omega
      next => cases h
    · exact ih _ _ _ _ h
theorem pLt_le (l : List Nat) : ∀ f p acc p' ks, pLt l f p acc = .inr (p', ks) → p' ≤ l.length ∧ ks.length ≤ acc.length + f ∧ (acc.Nodup → (∀ k ∈ acc, k < 7) → ks.Nodup ∧ ∀ k ∈ ks, k < 7) := by
  intro f
  induction f with
  | zero =>
    intro p acc p' sl h
    rw [pLt_eq] at h
    split at h
    · split at h
      next q => cases h; have := (List.getElem?_eq_some_iff.mp q.2).1; exact ⟨by omega, by omega, fun a b => ⟨a, b⟩⟩
      next => cases h
    · split at h <;> cases h
  | succ f ih =>
    intro p acc p' sl h
    rw [pLt_eq] at h
    split at h
    · split at h
      next q => cases h; have := (List.getElem?_eq_some_iff.mp q.2).1; exact ⟨by omega, by omega, fun a b => ⟨a, b⟩⟩
      next => cases h
    next k hk =>
      split at h
      · cases h
      next hn =>
        obtain ⟨r1, r2, r3⟩ := ih _ _ _ _ h
        refine ⟨r1, by simp at r2; omega, fun a b => r3 ?_ ?_⟩
        · rw [List.nodup_append]
          exact ⟨a, by simp, fun x hx y hy => by simp at hy; subst hy; exact fun e => hn (e ▸ hx)⟩
        · intro x hx
          rcases List.mem_append.mp hx with q | q
          · exact b x q
          · simp at q; subst q; exact (kAt_lt hk).1
def Sl (μ : Mm) (s u f : Nat) (ks : List Nat) : Prop := mF μ s f = nI ks.length ∧ ks.length ≤ 7 ∧ Hd (mA μ u) ks ∧ ks.Nodup ∧ ∀ k ∈ ks, k < 7
/-- all of a shape -/
def Sf (μ : Mm) (s : Nat) (x : Shp) : Prop := Ss μ s x.1 ∧ Sk μ s x.1 ∧ Sl μ s (s + 6) 8 x.2.1 ∧ Sl μ s (s + 7) 10 x.2.2.1 ∧ Se μ s x.2.2.2
def zS (a s : Nat) : Nat → Prop := fun q => q = a ∨ (s ≤ q ∧ q ≤ s + 8)
theorem c_readInto (KH : KHere E) {a t s : Nat} {l : List Nat} (hak : mK μ a = 6) (htk : mK μ t = 12) (htl : mL μ t = 400) (hT : Tb (mB μ t) l) (hl4 : l.length ≤ 400) (hlc : ∀ c ∈ l, c < 256) (hg : Sg μ s) (hda : ∀ q, q ≤ 8 → a ≠ s + q) (hdt : ∀ q, q ≤ 8 → t ≠ s + q)
    (kt : ∀ x, pShape l = .inr x → ∀ μ', Fx (zS a s) μ μ' → mP μ' a 0 = some t → mF μ' a 3 = nI 0 → mF μ' a 4 = -1 → Sg μ' s → Sf μ' s x → K (some (.int (nI 1))) μ')
    (kf : ∀ f p, pShape l = .inl (f, p) → ∀ μ', Fx (zS a s) μ μ' → mP μ' a 0 = some t → Flt μ' a f p → Sg μ' s → K (some (.int (nI 0))) μ') : Cl E M_X5_readInto [.ref a, .ref s, .ref t, .int (nI l.length)] μ K := by
  have hat : a ≠ t := fun e => by rw [e, htk] at hak; cases hak
  have d0 : a ≠ s := hda 0 (by decide)
  have d6 : a ≠ s + 6 := hda 6 (by decide)
  have d7 : a ≠ s + 7 := hda 7 (by decide)
  have Sa : zS a s a := Or.inl rfl
  have Sz : ∀ q, q ≤ 8 → zS a s (s + q) := fun q h => Or.inr ⟨by omega, by omega⟩
  have S0 : zS a s s := Or.inr ⟨by omega, by omega⟩
  have hF0 : Fx (zS a s) μ (sF (sF (sF (sF (sP μ a 0 (some t)) a 1 (nI l.length)) a 2 (nI 0)) a 3 (nI 0)) a 4 (-1)) := ((((Fx.rf.sP Sa _ _).sF Sa _ _).sF Sa _ _).sF Sa _ _).sF Sa _ _
  have hF0a : Fx (fun q => q = a) μ (sF (sF (sF (sF (sP μ a 0 (some t)) a 1 (nI l.length)) a 2 (nI 0)) a 3 (nI 0)) a 4 (-1)) := (((((Fx.rf (S := fun q => q = a)).sP rfl _ _).sF rfl _ _).sF rfl _ _).sF rfl _ _).sF rfl _ _
  have hX0 : Xt (sF (sF (sF (sF (sP μ a 0 (some t)) a 1 (nI l.length)) a 2 (nI 0)) a 3 (nI 0)) a 4 (-1)) a t l 0 := ⟨⟨hak, by simp only [mN_sF, mK_sF, mL_sF, mF_sF, mB_sF, mA_sF, mJ_sF, mP_sF, mO_sF, mN_sB, mK_sB, mL_sB, mF_sB, mB_sB, mA_sB, mJ_sB, mP_sB, mO_sB, mN_sA, mK_sA, mL_sA, mF_sA, mB_sA, mA_sA, mJ_sA, mP_sA, mO_sA, mN_sJ, mK_sJ, mL_sJ, mF_sJ, mB_sJ, mA_sJ, mJ_sJ, mP_sJ, mO_sJ, mN_sP, mK_sP, mL_sP, mF_sP, mB_sP, mA_sP, mJ_sP, mP_sP, mO_sP, mN_sO, mK_sO, mL_sO, mF_sO, mB_sO, mA_sO, mJ_sO, mP_sO, mO_sO, up2, if_true, if_false, eq_self, ite_true, ite_false, reduceIte, Nat.add_left_cancel_iff, Nat.add_eq_left, Nat.left_eq_add, Nat.reduceEqDiff], htk, htl⟩, by simp only [mN_sF, mK_sF, mL_sF, mF_sF, mB_sF, mA_sF, mJ_sF, mP_sF, mO_sF, mN_sB, mK_sB, mL_sB, mF_sB, mB_sB, mA_sB, mJ_sB, mP_sB, mO_sB, mN_sA, mK_sA, mL_sA, mF_sA, mB_sA, mA_sA, mJ_sA, mP_sA, mO_sA, mN_sJ, mK_sJ, mL_sJ, mF_sJ, mB_sJ, mA_sJ, mJ_sJ, mP_sJ, mO_sJ, mN_sP, mK_sP, mL_sP, mF_sP, mB_sP, mA_sP, mJ_sP, mP_sP, mO_sP, mN_sO, mK_sO, mL_sO, mF_sO, mB_sO, mA_sO, mJ_sO, mP_sO, mO_sO, up2, if_true, if_false, eq_self, ite_true, ite_false, reduceIte, Nat.add_left_cancel_iff, Nat.add_eq_left, Nat.left_eq_add, Nat.reduceEqDiff], by simp only [mN_sF, mK_sF, mL_sF, mF_sF, mB_sF, mA_sF, mJ_sF, mP_sF, mO_sF, mN_sB, mK_sB, mL_sB, mF_sB, mB_sB, mA_sB, mJ_sB, mP_sB, mO_sB, mN_sA, mK_sA, mL_sA, mF_sA, mB_sA, mA_sA, mJ_sA, mP_sA, mO_sA, mN_sJ, mK_sJ, mL_sJ, mF_sJ, mB_sJ, mA_sJ, mJ_sJ, mP_sJ, mO_sJ, mN_sP, mK_sP, mL_sP, mF_sP, mB_sP, mA_sP, mJ_sP, mP_sP, mO_sP, mN_sO, mK_sO, mL_sO, mF_sO, mB_sO, mA_sO, mJ_sO, mP_sO, mO_sO, up2, if_true, if_false, eq_self, ite_true, ite_false, reduceIte, Nat.add_left_cancel_iff, Nat.add_eq_left, Nat.left_eq_add, Nat.reduceEqDiff], hT, hl4, hlc, by omega⟩
  have h30 : mF (sF (sF (sF (sF (sP μ a 0 (some t)) a 1 (nI l.length)) a 2 (nI 0)) a 3 (nI 0)) a 4 (-1)) a 3 = nI 0 := by simp only [mN_sF, mK_sF, mL_sF, mF_sF, mB_sF, mA_sF, mJ_sF, mP_sF, mO_sF, mN_sB, mK_sB, mL_sB, mF_sB, mB_sB, mA_sB, mJ_sB, mP_sB, mO_sB, mN_sA, mK_sA, mL_sA, mF_sA, mB_sA, mA_sA, mJ_sA, mP_sA, mO_sA, mN_sJ, mK_sJ, mL_sJ, mF_sJ, mB_sJ, mA_sJ, mJ_sJ, mP_sJ, mO_sJ, mN_sP, mK_sP, mL_sP, mF_sP, mB_sP, mA_sP, mJ_sP, mP_sP, mO_sP, mN_sO, mK_sO, mL_sO, mF_sO, mB_sO, mA_sO, mJ_sO, mP_sO, mO_sO, up2, if_true, if_false, eq_self, ite_true, ite_false, reduceIte, Nat.add_left_cancel_iff, Nat.add_eq_left, Nat.left_eq_add, Nat.reduceEqDiff]
  have h40 : mF (sF (sF (sF (sF (sP μ a 0 (some t)) a 1 (nI l.length)) a 2 (nI 0)) a 3 (nI 0)) a 4 (-1)) a 4 = -1 := by simp only [mN_sF, mK_sF, mL_sF, mF_sF, mB_sF, mA_sF, mJ_sF, mP_sF, mO_sF, mN_sB, mK_sB, mL_sB, mF_sB, mB_sB, mA_sB, mJ_sB, mP_sB, mO_sB, mN_sA, mK_sA, mL_sA, mF_sA, mB_sA, mA_sA, mJ_sA, mP_sA, mO_sA, mN_sJ, mK_sJ, mL_sJ, mF_sJ, mB_sJ, mA_sJ, mJ_sJ, mP_sJ, mO_sJ, mN_sP, mK_sP, mL_sP, mF_sP, mB_sP, mA_sP, mJ_sP, mP_sP, mO_sP, mN_sO, mK_sO, mL_sO, mF_sO, mB_sO, mA_sO, mJ_sO, mP_sO, mO_sO, up2, if_true, if_false, eq_self, ite_true, ite_false, reduceIte, Nat.add_left_cancel_iff, Nat.add_eq_left, Nat.left_eq_add, Nat.reduceEqDiff]
  have hg0 := hg.fx hF0a (fun e => d0 e.symm)
  refine Cl.of0 0 pn_X5 (Nat.le_of_ble_eq_true rfl) ⟨rfl, rfl⟩ rfl ?_
  refine e_al0 1 rfl dX5_readInto_0 ?_
  refine e_al2 2 rfl dX5_readInto_1 ?_
  refine e_putR 5 rfl dX5_readInto_2 f_X5_9 (by assumption) rfl rfl (fun h => by cases h) ?_
  refine e_al0 6 rfl dX5_readInto_5 ?_
  refine e_il3 7 rfl dX5_readInto_6 ?_
  refine e_al2 8 rfl dX5_readInto_7 ?_
  refine e_alen 9 rfl dX5_readInto_8 (by first | exact Or.inl (by assumption) | exact Or.inr (Or.inl (by assumption)) | exact Or.inr (Or.inr (by assumption))) (by assumption) ?_
  first | refine e_minN 12 rfl dX5_readInto_9 k_X5_28 (Nat.le_of_ble_eq_true rfl) (Nat.le_of_ble_eq_true rfl) rfl rfl (by omega) (by omega) ?_ | refine e_min 12 rfl dX5_readInto_9 k_X5_28 (Nat.le_of_ble_eq_true rfl) (Nat.le_of_ble_eq_true rfl) ?_
  rw [Nat.min_eq_left hl4]
  refine e_putI 15 rfl dX5_readInto_12 f_X5_15 (by assumption) ?_
  refine e_al0 16 rfl dX5_readInto_15 ?_
  refine e_iconst (nI 0) 17 rfl dX5_readInto_16 ic_0 ?_
  refine e_putI 20 rfl dX5_readInto_17 f_X5_19 (by assumption) ?_
  refine e_al0 21 rfl dX5_readInto_20 ?_
  refine e_iconst (nI 0) 22 rfl dX5_readInto_21 ic_0 ?_
  refine e_putI 25 rfl dX5_readInto_22 f_X5_22 (by assumption) ?_
  refine e_al0 26 rfl dX5_readInto_25 ?_
  refine e_iconst (-1) 27 rfl dX5_readInto_26 ic_m1 ?_
  refine e_putI 30 rfl dX5_readInto_27 f_X5_25 (by assumption) ?_
  generalize sF (sF (sF (sF (sP μ a 0 (some t)) a 1 (nI l.length)) a 2 (nI 0)) a 3 (nI 0)) a 4 (-1) = μ0 at hF0 hX0 h30 h40 hg0 ⊢
  have ak0 := hX0.1.1
  refine e_al0 31 rfl dX5_readInto_30 ?_
  refine e_al1 32 rfl dX5_readInto_31 ?_
  refine e_invV0 [_] 35 rfl dX5_readInto_32 k_X5_34 mo_X5_readSlots rm_X5_readInto_X5_readSlots ⟨rfl, rfl⟩ rfl rfl (by assumption) (Nat.le_of_ble_eq_true rfl) ?_
  refine c_readSlots KH hX0 hg0 hda hdt hat (fun p1 sl e1 μ1 hF1 hf1 h31 h41 hX1 hS1 => ?_) (fun f p e1 μ1 hF1 hfl => ?_)
  rotate_left
  · -- a fault in the slots
    have hFz := hF0.trans ((hF1.mono (fun q hq => by rcases hq with r | r | r | r | r; exact Or.inl r; all_goals exact Or.inr ⟨by omega, by omega⟩)).fx)
    first | refine e_if_neB 40 38 (by decide) rfl dX5_readInto_35 rfl (fun z => ?_) (fun z => ?_) | refine e_if_neN 40 38 (by decide) rfl dX5_readInto_35 rfl (by omega) (fun z => ?_) (fun z => ?_) | refine e_if_ne 40 38 (by decide) rfl dX5_readInto_35 (fun z => ?_) (fun z => ?_)
    · omega
    refine e_iconst (nI 0) 39 rfl dX5_readInto_38 ic_0 ?_
    refine e_zret dX5_readInto_39 rfl (by first | exact z0 | exact z1 | exact bI01 _ | assumption) ?_
    exact kf f p (by unfold pShape; rw [e1]) μ1 hFz (by rw [hF1.2.2.2.1]; exact hX0.1.2.1) hfl (hg0.fr hF1)
  have hFz1 := hF0.trans ((hF1.mono (S' := zS a s) (fun q hq => by rcases hq with r | r | r | r | r; exact Or.inl r; all_goals exact Or.inr ⟨by omega, by omega⟩)).fx)
  have hg1 := hg0.fr hF1
  have hp1 := pSl_le l _ _ _ _ _ e1
  obtain ⟨⟨gk1, -, -, -, -, -, g71, g91, -⟩, -, -, -, -, -, -, -, -, -, -, k61, l61, k71, l71, -⟩ := id hg1
  have ak1 := hX1.1.1
  first | refine e_if_neB 40 38 (by decide) rfl dX5_readInto_35 rfl (fun z => ?_) (fun z => ?_) | refine e_if_neN 40 38 (by decide) rfl dX5_readInto_35 rfl (by omega) (fun z => ?_) (fun z => ?_) | refine e_if_ne 40 38 (by decide) rfl dX5_readInto_35 (fun z => ?_) (fun z => ?_)
  rotate_left
  · omega
  refine e_al1 41 rfl dX5_readInto_40 ?_
  refine e_al0 42 rfl dX5_readInto_41 ?_
  refine e_al1 43 rfl dX5_readInto_42 ?_
  refine e_getR 46 rfl dX5_readInto_43 f_X5_38 (by assumption) (by assumption) ?_
  refine e_invV0 [_] 49 rfl dX5_readInto_46 k_X5_44 mo_X5_readLetters rm_X5_readInto_X5_readLetters ⟨rfl, rfl⟩ rfl rfl (by assumption) (Nat.le_of_ble_eq_true rfl) ?_
  refine c_readLetters KH hX1 (by omega) k61 l61 (fun p2 so e2 μ2 hF2 h32 h42 hX2 hH2 => ?_) (fun f p e2 μ2 hF2 hfl => ?_)
  rotate_left
  · have hFz := hFz1.trans ((hF2.mono (S' := zS a s) (fun q hq => by rcases hq with r | r; exact Or.inl r; exact Or.inr ⟨by omega, by omega⟩)).fx)
    have gk2 := (hg1.fr hF2).1.1
    refine e_putI 52 rfl dX5_readInto_49 f_X5_48 (by assumption) ?_
    refine e_al1 53 rfl dX5_readInto_52 ?_
    first | refine e_getIv 56 rfl dX5_readInto_53 f_X5_48 (by assumption) (by first | assumption | (simp only [mN_sF, mK_sF, mL_sF, mF_sF, mB_sF, mA_sF, mJ_sF, mP_sF, mO_sF, mN_sB, mK_sB, mL_sB, mF_sB, mB_sB, mA_sB, mJ_sB, mP_sB, mO_sB, mN_sA, mK_sA, mL_sA, mF_sA, mB_sA, mA_sA, mJ_sA, mP_sA, mO_sA, mN_sJ, mK_sJ, mL_sJ, mF_sJ, mB_sJ, mA_sJ, mJ_sJ, mP_sJ, mO_sJ, mN_sP, mK_sP, mL_sP, mF_sP, mB_sP, mA_sP, mJ_sP, mP_sP, mO_sP, mN_sO, mK_sO, mL_sO, mF_sO, mB_sO, mA_sO, mJ_sO, mP_sO, mO_sO, up2, if_true, if_false, eq_self, ite_true, ite_false, reduceIte, Nat.add_left_cancel_iff, Nat.add_eq_left, Nat.left_eq_add, Nat.reduceEqDiff]; assumption) | (simp only [mN_sF, mK_sF, mL_sF, mF_sF, mB_sF, mA_sF, mJ_sF, mP_sF, mO_sF, mN_sB, mK_sB, mL_sB, mF_sB, mB_sB, mA_sB, mJ_sB, mP_sB, mO_sB, mN_sA, mK_sA, mL_sA, mF_sA, mB_sA, mA_sA, mJ_sA, mP_sA, mO_sA, mN_sJ, mK_sJ, mL_sJ, mF_sJ, mB_sJ, mA_sJ, mJ_sJ, mP_sJ, mO_sJ, mN_sP, mK_sP, mL_sP, mF_sP, mB_sP, mA_sP, mJ_sP, mP_sP, mO_sP, mN_sO, mK_sO, mL_sO, mF_sO, mB_sO, mA_sO, mJ_sO, mP_sO, mO_sO, up2, if_true, if_false, eq_self, ite_true, ite_false, reduceIte, Nat.add_left_cancel_iff, Nat.add_eq_left, Nat.left_eq_add, Nat.reduceEqDiff]; done)) ?_ | refine e_getI 56 rfl dX5_readInto_53 f_X5_48 (by assumption) ?_
    refine e_iconst (-1) 57 rfl dX5_readInto_56 ic_m1 ?_
    refine e_cmp_ne 62 60 (by decide) rfl dX5_readInto_57 (fun z9 => ?_) (fun z9 => ?_)
    · exact absurd (by simp only [mN_sF, mK_sF, mL_sF, mF_sF, mB_sF, mA_sF, mJ_sF, mP_sF, mO_sF, mN_sB, mK_sB, mL_sB, mF_sB, mB_sB, mA_sB, mJ_sB, mP_sB, mO_sB, mN_sA, mK_sA, mL_sA, mF_sA, mB_sA, mA_sA, mJ_sA, mP_sA, mO_sA, mN_sJ, mK_sJ, mL_sJ, mF_sJ, mB_sJ, mA_sJ, mJ_sJ, mP_sJ, mO_sJ, mN_sP, mK_sP, mL_sP, mF_sP, mB_sP, mA_sP, mJ_sP, mP_sP, mO_sP, mN_sO, mK_sO, mL_sO, mF_sO, mB_sO, mA_sO, mJ_sO, mP_sO, mO_sO, up2, if_true, if_false, eq_self, ite_true, ite_false, reduceIte, Nat.add_left_cancel_iff, Nat.add_eq_left, Nat.left_eq_add, Nat.reduceEqDiff]) z9
    refine e_iconst (nI 0) 61 rfl dX5_readInto_60 ic_0 ?_
    refine e_zret dX5_readInto_61 rfl (by first | exact z0 | exact z1 | exact bI01 _ | assumption) ?_
    have hF9 : Fr (fun q => q = s) μ2 (sF μ2 s 8 (-1)) := (Fr.rf (S := fun q => q = s)).sF rfl _ _
    refine kf f p (by unfold pShape; rw [e1]; simp only []; rw [e2]) _ (hFz.sF S0 _ _) (by show mP μ2 a 0 = _; rw [hF2.2.2.2.1]; exact hX1.1.2.1) ?_ ((hg1.fr hF2).fr hF9)
    unfold Flt
    rw [(hF9.2.2.2.2.2 a d0).1]; exact hfl
  have hFz2 := hFz1.trans ((hF2.mono (S' := zS a s) (fun q hq => by rcases hq with r | r; exact Or.inl r; exact Or.inr ⟨by omega, by omega⟩)).fx)
  have hg2 := hg1.fr hF2
  obtain ⟨hp2, hso7, hsoN⟩ := pLt_le l _ _ _ _ _ e2
  have hso := hsoN (by simp) (by simp)
  simp only [List.length_nil, Nat.zero_add] at hso7
  have gk2 := hg2.1.1
  have hsl2 : Ss μ2 s sl := hS1.fr hF2 (by rw [(hF2.2.2.2.2.2 s (by omega)).1]) (by have := hda 1 (by decide); omega) (by have := hda 2 (by decide); omega) (by have := hda 3 (by decide); omega)
  -- the sort's size is laid
  have hF3 : Fr (fun q => q = s) μ2 (sF μ2 s 8 (nI so.length)) := (Fr.rf (S := fun q => q = s)).sF rfl _ _
  have hX3 := hX2.fr hF3 d0 (fun e => hdt 0 (by decide) e)
  have hg3 := hg2.fr hF3
  have hsl3 : Ss (sF μ2 s 8 (nI so.length)) s sl := hsl2.fr hF3 (by simp only [mN_sF, mK_sF, mL_sF, mF_sF, mB_sF, mA_sF, mJ_sF, mP_sF, mO_sF, mN_sB, mK_sB, mL_sB, mF_sB, mB_sB, mA_sB, mJ_sB, mP_sB, mO_sB, mN_sA, mK_sA, mL_sA, mF_sA, mB_sA, mA_sA, mJ_sA, mP_sA, mO_sA, mN_sJ, mK_sJ, mL_sJ, mF_sJ, mB_sJ, mA_sJ, mJ_sJ, mP_sJ, mO_sJ, mN_sP, mK_sP, mL_sP, mF_sP, mB_sP, mA_sP, mJ_sP, mP_sP, mO_sP, mN_sO, mK_sO, mL_sO, mF_sO, mB_sO, mA_sO, mJ_sO, mP_sO, mO_sO, up2, if_true, if_false, eq_self, ite_true, ite_false, reduceIte, Nat.add_left_cancel_iff, Nat.add_eq_left, Nat.left_eq_add, Nat.reduceEqDiff]) (by omega) (by omega) (by omega)
  have h83 : mF (sF μ2 s 8 (nI so.length)) s 8 = nI so.length := by simp only [mN_sF, mK_sF, mL_sF, mF_sF, mB_sF, mA_sF, mJ_sF, mP_sF, mO_sF, mN_sB, mK_sB, mL_sB, mF_sB, mB_sB, mA_sB, mJ_sB, mP_sB, mO_sB, mN_sA, mK_sA, mL_sA, mF_sA, mB_sA, mA_sA, mJ_sA, mP_sA, mO_sA, mN_sJ, mK_sJ, mL_sJ, mF_sJ, mB_sJ, mA_sJ, mJ_sJ, mP_sJ, mO_sJ, mN_sP, mK_sP, mL_sP, mF_sP, mB_sP, mA_sP, mJ_sP, mP_sP, mO_sP, mN_sO, mK_sO, mL_sO, mF_sO, mB_sO, mA_sO, mJ_sO, mP_sO, mO_sO, up2, if_true, if_false, eq_self, ite_true, ite_false, reduceIte, Nat.add_left_cancel_iff, Nat.add_eq_left, Nat.left_eq_add, Nat.reduceEqDiff]
  have hH3 : Hd (mA (sF μ2 s 8 (nI so.length)) (s + 6)) so := hH2
  have h33 : mF (sF μ2 s 8 (nI so.length)) a 3 = nI 0 := by rw [(hF3.2.2.2.2.2 a d0).1]; exact (h32.trans h31).trans h30
  have h43 : mF (sF μ2 s 8 (nI so.length)) a 4 = -1 := by rw [(hF3.2.2.2.2.2 a d0).1]; exact (h42.trans h41).trans h40
  have hFz3 := hFz2.sF S0 8 (nI so.length)
  refine e_putI 52 rfl dX5_readInto_49 f_X5_48 (by assumption) ?_
  generalize sF μ2 s 8 (nI so.length) = μ3 at hX3 hg3 hsl3 h83 hH3 h33 h43 hFz3 ⊢
  obtain ⟨⟨gk3, -, -, -, -, -, g73, g93, -⟩, -, -, -, -, -, -, -, -, -, -, k63, l63, k73, l73, -⟩ := id hg3
  have ak3 := hX3.1.1
  refine e_al1 53 rfl dX5_readInto_52 ?_
  first | refine e_getIv 56 rfl dX5_readInto_53 f_X5_48 (by assumption) (by first | assumption | (simp only [mN_sF, mK_sF, mL_sF, mF_sF, mB_sF, mA_sF, mJ_sF, mP_sF, mO_sF, mN_sB, mK_sB, mL_sB, mF_sB, mB_sB, mA_sB, mJ_sB, mP_sB, mO_sB, mN_sA, mK_sA, mL_sA, mF_sA, mB_sA, mA_sA, mJ_sA, mP_sA, mO_sA, mN_sJ, mK_sJ, mL_sJ, mF_sJ, mB_sJ, mA_sJ, mJ_sJ, mP_sJ, mO_sJ, mN_sP, mK_sP, mL_sP, mF_sP, mB_sP, mA_sP, mJ_sP, mP_sP, mO_sP, mN_sO, mK_sO, mL_sO, mF_sO, mB_sO, mA_sO, mJ_sO, mP_sO, mO_sO, up2, if_true, if_false, eq_self, ite_true, ite_false, reduceIte, Nat.add_left_cancel_iff, Nat.add_eq_left, Nat.left_eq_add, Nat.reduceEqDiff]; assumption) | (simp only [mN_sF, mK_sF, mL_sF, mF_sF, mB_sF, mA_sF, mJ_sF, mP_sF, mO_sF, mN_sB, mK_sB, mL_sB, mF_sB, mB_sB, mA_sB, mJ_sB, mP_sB, mO_sB, mN_sA, mK_sA, mL_sA, mF_sA, mB_sA, mA_sA, mJ_sA, mP_sA, mO_sA, mN_sJ, mK_sJ, mL_sJ, mF_sJ, mB_sJ, mA_sJ, mJ_sJ, mP_sJ, mO_sJ, mN_sP, mK_sP, mL_sP, mF_sP, mB_sP, mA_sP, mJ_sP, mP_sP, mO_sP, mN_sO, mK_sO, mL_sO, mF_sO, mB_sO, mA_sO, mJ_sO, mP_sO, mO_sO, up2, if_true, if_false, eq_self, ite_true, ite_false, reduceIte, Nat.add_left_cancel_iff, Nat.add_eq_left, Nat.left_eq_add, Nat.reduceEqDiff]; done)) ?_ | refine e_getI 56 rfl dX5_readInto_53 f_X5_48 (by assumption) ?_
  refine e_iconst (-1) 57 rfl dX5_readInto_56 ic_m1 ?_
  refine e_cmp_ne 62 60 (by decide) rfl dX5_readInto_57 (fun z9 => ?_) (fun z9 => ?_)
  rotate_left
  · exfalso
    have := nI_pos (n := so.length) (by omega)
    rw [z9] at this
    exact this (by decide)
  refine e_al1 63 rfl dX5_readInto_62 ?_
  refine e_al0 64 rfl dX5_readInto_63 ?_
  refine e_al1 65 rfl dX5_readInto_64 ?_
  refine e_getR 68 rfl dX5_readInto_65 f_X5_51 (by assumption) (by assumption) ?_
  refine e_invV0 [_] 71 rfl dX5_readInto_68 k_X5_44 mo_X5_readLetters rm_X5_readInto_X5_readLetters ⟨rfl, rfl⟩ rfl rfl (by assumption) (Nat.le_of_ble_eq_true rfl) ?_
  refine c_readLetters KH hX3 (by omega) k73 l73 (fun p3 ca e3 μ4 hF4 h34 h44 hX4 hH4 => ?_) (fun f p e3 μ4 hF4 hfl => ?_)
  rotate_left
  · have hFz := hFz3.trans ((hF4.mono (S' := zS a s) (fun q hq => by rcases hq with r | r; exact Or.inl r; exact Or.inr ⟨by omega, by omega⟩)).fx)
    have gk4 := (hg3.fr hF4).1.1
    refine e_putI 74 rfl dX5_readInto_71 f_X5_54 (by assumption) ?_
    refine e_al1 75 rfl dX5_readInto_74 ?_
    first | refine e_getIv 78 rfl dX5_readInto_75 f_X5_54 (by assumption) (by first | assumption | (simp only [mN_sF, mK_sF, mL_sF, mF_sF, mB_sF, mA_sF, mJ_sF, mP_sF, mO_sF, mN_sB, mK_sB, mL_sB, mF_sB, mB_sB, mA_sB, mJ_sB, mP_sB, mO_sB, mN_sA, mK_sA, mL_sA, mF_sA, mB_sA, mA_sA, mJ_sA, mP_sA, mO_sA, mN_sJ, mK_sJ, mL_sJ, mF_sJ, mB_sJ, mA_sJ, mJ_sJ, mP_sJ, mO_sJ, mN_sP, mK_sP, mL_sP, mF_sP, mB_sP, mA_sP, mJ_sP, mP_sP, mO_sP, mN_sO, mK_sO, mL_sO, mF_sO, mB_sO, mA_sO, mJ_sO, mP_sO, mO_sO, up2, if_true, if_false, eq_self, ite_true, ite_false, reduceIte, Nat.add_left_cancel_iff, Nat.add_eq_left, Nat.left_eq_add, Nat.reduceEqDiff]; assumption) | (simp only [mN_sF, mK_sF, mL_sF, mF_sF, mB_sF, mA_sF, mJ_sF, mP_sF, mO_sF, mN_sB, mK_sB, mL_sB, mF_sB, mB_sB, mA_sB, mJ_sB, mP_sB, mO_sB, mN_sA, mK_sA, mL_sA, mF_sA, mB_sA, mA_sA, mJ_sA, mP_sA, mO_sA, mN_sJ, mK_sJ, mL_sJ, mF_sJ, mB_sJ, mA_sJ, mJ_sJ, mP_sJ, mO_sJ, mN_sP, mK_sP, mL_sP, mF_sP, mB_sP, mA_sP, mJ_sP, mP_sP, mO_sP, mN_sO, mK_sO, mL_sO, mF_sO, mB_sO, mA_sO, mJ_sO, mP_sO, mO_sO, up2, if_true, if_false, eq_self, ite_true, ite_false, reduceIte, Nat.add_left_cancel_iff, Nat.add_eq_left, Nat.left_eq_add, Nat.reduceEqDiff]; done)) ?_ | refine e_getI 78 rfl dX5_readInto_75 f_X5_54 (by assumption) ?_
    refine e_iconst (-1) 79 rfl dX5_readInto_78 ic_m1 ?_
    refine e_cmp_ne 84 82 (by decide) rfl dX5_readInto_79 (fun z8 => ?_) (fun z8 => ?_)
    · exact absurd (by simp only [mN_sF, mK_sF, mL_sF, mF_sF, mB_sF, mA_sF, mJ_sF, mP_sF, mO_sF, mN_sB, mK_sB, mL_sB, mF_sB, mB_sB, mA_sB, mJ_sB, mP_sB, mO_sB, mN_sA, mK_sA, mL_sA, mF_sA, mB_sA, mA_sA, mJ_sA, mP_sA, mO_sA, mN_sJ, mK_sJ, mL_sJ, mF_sJ, mB_sJ, mA_sJ, mJ_sJ, mP_sJ, mO_sJ, mN_sP, mK_sP, mL_sP, mF_sP, mB_sP, mA_sP, mJ_sP, mP_sP, mO_sP, mN_sO, mK_sO, mL_sO, mF_sO, mB_sO, mA_sO, mJ_sO, mP_sO, mO_sO, up2, if_true, if_false, eq_self, ite_true, ite_false, reduceIte, Nat.add_left_cancel_iff, Nat.add_eq_left, Nat.left_eq_add, Nat.reduceEqDiff]) z8
    refine e_iconst (nI 0) 83 rfl dX5_readInto_82 ic_0 ?_
    refine e_zret dX5_readInto_83 rfl (by first | exact z0 | exact z1 | exact bI01 _ | assumption) ?_
    have hF9 : Fr (fun q => q = s) μ4 (sF μ4 s 10 (-1)) := (Fr.rf (S := fun q => q = s)).sF rfl _ _
    refine kf f p (by unfold pShape; rw [e1]; simp only []; rw [e2]; simp only []; rw [e3]) _ (hFz.sF S0 _ _) (by show mP μ4 a 0 = _; rw [hF4.2.2.2.1]; exact hX3.1.2.1) ?_ ((hg3.fr hF4).fr hF9)
    unfold Flt
    rw [(hF9.2.2.2.2.2 a d0).1]; exact hfl
  have hFz4 := hFz3.trans ((hF4.mono (S' := zS a s) (fun q hq => by rcases hq with r | r; exact Or.inl r; exact Or.inr ⟨by omega, by omega⟩)).fx)
  have hg4 := hg3.fr hF4
  obtain ⟨hp3, hca7, hcaN⟩ := pLt_le l _ _ _ _ _ e3
  have hca := hcaN (by simp) (by simp)
  simp only [List.length_nil, Nat.zero_add] at hca7
  have gk4 := hg4.1.1
  have hsl4 : Ss μ4 s sl := hsl3.fr hF4 (by rw [(hF4.2.2.2.2.2 s (by omega)).1]) (by have := hda 1 (by decide); omega) (by have := hda 2 (by decide); omega) (by have := hda 3 (by decide); omega)
  have h84 : mF μ4 s 8 = nI so.length := by rw [(hF4.2.2.2.2.2 s (by omega)).1]; exact h83
  have hHs4 : Hd (mA μ4 (s + 6)) so := by rw [(hF4.2.2.2.2.2 (s + 6) (by omega)).2.2.1]; exact hH3
  have hF5 : Fr (fun q => q = s) μ4 (sF μ4 s 10 (nI ca.length)) := (Fr.rf (S := fun q => q = s)).sF rfl _ _
  have hX5 := hX4.fr hF5 d0 (fun e => hdt 0 (by decide) e)
  have hg5 := hg4.fr hF5
  have hsl5 : Ss (sF μ4 s 10 (nI ca.length)) s sl := hsl4.fr hF5 (by simp only [mN_sF, mK_sF, mL_sF, mF_sF, mB_sF, mA_sF, mJ_sF, mP_sF, mO_sF, mN_sB, mK_sB, mL_sB, mF_sB, mB_sB, mA_sB, mJ_sB, mP_sB, mO_sB, mN_sA, mK_sA, mL_sA, mF_sA, mB_sA, mA_sA, mJ_sA, mP_sA, mO_sA, mN_sJ, mK_sJ, mL_sJ, mF_sJ, mB_sJ, mA_sJ, mJ_sJ, mP_sJ, mO_sJ, mN_sP, mK_sP, mL_sP, mF_sP, mB_sP, mA_sP, mJ_sP, mP_sP, mO_sP, mN_sO, mK_sO, mL_sO, mF_sO, mB_sO, mA_sO, mJ_sO, mP_sO, mO_sO, up2, if_true, if_false, eq_self, ite_true, ite_false, reduceIte, Nat.add_left_cancel_iff, Nat.add_eq_left, Nat.left_eq_add, Nat.reduceEqDiff]) (by omega) (by omega) (by omega)
  have h85 : mF (sF μ4 s 10 (nI ca.length)) s 8 = nI so.length := by simp only [mN_sF, mK_sF, mL_sF, mF_sF, mB_sF, mA_sF, mJ_sF, mP_sF, mO_sF, mN_sB, mK_sB, mL_sB, mF_sB, mB_sB, mA_sB, mJ_sB, mP_sB, mO_sB, mN_sA, mK_sA, mL_sA, mF_sA, mB_sA, mA_sA, mJ_sA, mP_sA, mO_sA, mN_sJ, mK_sJ, mL_sJ, mF_sJ, mB_sJ, mA_sJ, mJ_sJ, mP_sJ, mO_sJ, mN_sP, mK_sP, mL_sP, mF_sP, mB_sP, mA_sP, mJ_sP, mP_sP, mO_sP, mN_sO, mK_sO, mL_sO, mF_sO, mB_sO, mA_sO, mJ_sO, mP_sO, mO_sO, up2, if_true, if_false, eq_self, ite_true, ite_false, reduceIte, Nat.add_left_cancel_iff, Nat.add_eq_left, Nat.left_eq_add, Nat.reduceEqDiff]; exact h84
  have h105 : mF (sF μ4 s 10 (nI ca.length)) s 10 = nI ca.length := by simp only [mN_sF, mK_sF, mL_sF, mF_sF, mB_sF, mA_sF, mJ_sF, mP_sF, mO_sF, mN_sB, mK_sB, mL_sB, mF_sB, mB_sB, mA_sB, mJ_sB, mP_sB, mO_sB, mN_sA, mK_sA, mL_sA, mF_sA, mB_sA, mA_sA, mJ_sA, mP_sA, mO_sA, mN_sJ, mK_sJ, mL_sJ, mF_sJ, mB_sJ, mA_sJ, mJ_sJ, mP_sJ, mO_sJ, mN_sP, mK_sP, mL_sP, mF_sP, mB_sP, mA_sP, mJ_sP, mP_sP, mO_sP, mN_sO, mK_sO, mL_sO, mF_sO, mB_sO, mA_sO, mJ_sO, mP_sO, mO_sO, up2, if_true, if_false, eq_self, ite_true, ite_false, reduceIte, Nat.add_left_cancel_iff, Nat.add_eq_left, Nat.left_eq_add, Nat.reduceEqDiff]
  have hHs5 : Hd (mA (sF μ4 s 10 (nI ca.length)) (s + 6)) so := hHs4
  have hHc5 : Hd (mA (sF μ4 s 10 (nI ca.length)) (s + 7)) ca := hH4
  have h35 : mF (sF μ4 s 10 (nI ca.length)) a 3 = nI 0 := by rw [(hF5.2.2.2.2.2 a d0).1]; exact h34.trans h33
  have h45 : mF (sF μ4 s 10 (nI ca.length)) a 4 = -1 := by rw [(hF5.2.2.2.2.2 a d0).1]; exact h44.trans h43
  have hFz5 := hFz4.sF S0 10 (nI ca.length)
  refine e_putI 74 rfl dX5_readInto_71 f_X5_54 (by assumption) ?_
  generalize sF μ4 s 10 (nI ca.length) = μ5 at hX5 hg5 hsl5 h85 h105 hHs5 hHc5 h35 h45 hFz5 ⊢
  have gk5 := hg5.1.1
  have ak5 := hX5.1.1
  refine e_al1 75 rfl dX5_readInto_74 ?_
  first | refine e_getIv 78 rfl dX5_readInto_75 f_X5_54 (by assumption) (by first | assumption | (simp only [mN_sF, mK_sF, mL_sF, mF_sF, mB_sF, mA_sF, mJ_sF, mP_sF, mO_sF, mN_sB, mK_sB, mL_sB, mF_sB, mB_sB, mA_sB, mJ_sB, mP_sB, mO_sB, mN_sA, mK_sA, mL_sA, mF_sA, mB_sA, mA_sA, mJ_sA, mP_sA, mO_sA, mN_sJ, mK_sJ, mL_sJ, mF_sJ, mB_sJ, mA_sJ, mJ_sJ, mP_sJ, mO_sJ, mN_sP, mK_sP, mL_sP, mF_sP, mB_sP, mA_sP, mJ_sP, mP_sP, mO_sP, mN_sO, mK_sO, mL_sO, mF_sO, mB_sO, mA_sO, mJ_sO, mP_sO, mO_sO, up2, if_true, if_false, eq_self, ite_true, ite_false, reduceIte, Nat.add_left_cancel_iff, Nat.add_eq_left, Nat.left_eq_add, Nat.reduceEqDiff]; assumption) | (simp only [mN_sF, mK_sF, mL_sF, mF_sF, mB_sF, mA_sF, mJ_sF, mP_sF, mO_sF, mN_sB, mK_sB, mL_sB, mF_sB, mB_sB, mA_sB, mJ_sB, mP_sB, mO_sB, mN_sA, mK_sA, mL_sA, mF_sA, mB_sA, mA_sA, mJ_sA, mP_sA, mO_sA, mN_sJ, mK_sJ, mL_sJ, mF_sJ, mB_sJ, mA_sJ, mJ_sJ, mP_sJ, mO_sJ, mN_sP, mK_sP, mL_sP, mF_sP, mB_sP, mA_sP, mJ_sP, mP_sP, mO_sP, mN_sO, mK_sO, mL_sO, mF_sO, mB_sO, mA_sO, mJ_sO, mP_sO, mO_sO, up2, if_true, if_false, eq_self, ite_true, ite_false, reduceIte, Nat.add_left_cancel_iff, Nat.add_eq_left, Nat.left_eq_add, Nat.reduceEqDiff]; done)) ?_ | refine e_getI 78 rfl dX5_readInto_75 f_X5_54 (by assumption) ?_
  refine e_iconst (-1) 79 rfl dX5_readInto_78 ic_m1 ?_
  refine e_cmp_ne 84 82 (by decide) rfl dX5_readInto_79 (fun z9 => ?_) (fun z9 => ?_)
  rotate_left
  · exfalso
    have := nI_pos (n := ca.length) (by omega)
    rw [z9] at this
    exact this (by decide)
  refine e_al0 85 rfl dX5_readInto_84 ?_
  refine e_al1 86 rfl dX5_readInto_85 ?_
  refine e_invV0 [_] 89 rfl dX5_readInto_86 k_X5_57 mo_X5_readEnding rm_X5_readInto_X5_readEnding ⟨rfl, rfl⟩ rfl rfl (by assumption) (Nat.le_of_ble_eq_true rfl) ?_
  have epre : ∀ r, (match pEnd l p3 with
        | .inl e => (.inl e : (Nat × Nat) ⊕ Shp)
        | .inr (p4, en) => if l[p4]? = some 46 then (if p4 + 1 < l.length then .inl (1, p4 + 1) else .inr (sl, so, ca, en)) else .inl (1, p4)) = r → pShape l = r := fun r hr => by unfold pShape; rw [e1]; simp only []; rw [e2]; simp only []; rw [e3]; exact hr
  refine c_readEnding hX5 (by omega) hg5 hda hdt (fun p4 en e4 μ6 hF6 hf6 h36 h46 hX6 hp4 hE6 => ?_) (fun f p e4 μ6 hF6 hfl => ?_)
  rotate_left
  · have hFz := hFz5.trans ((hF6.mono (S' := zS a s) (fun q hq => by rcases hq with r | r | r; exact Or.inl r; all_goals exact Or.inr ⟨by omega, by omega⟩)).fx)
    first | refine e_if_eqB 101 92 (by decide) rfl dX5_readInto_89 rfl (fun z => ?_) (fun z => ?_) | refine e_if_eqN 101 92 (by decide) rfl dX5_readInto_89 rfl (by omega) (fun z => ?_) (fun z => ?_) | refine e_if_eq 101 92 (by decide) rfl dX5_readInto_89 (fun z => ?_) (fun z => ?_)
    · refine e_iconst (nI 0) 102 rfl dX5_readInto_101 ic_0 ?_
      refine e_zret dX5_readInto_102 rfl (by first | exact z0 | exact z1 | exact bI01 _ | assumption) ?_
      exact kf f p (epre _ (by rw [e4])) μ6 hFz (by rw [hF6.2.2.2.1]; exact hX5.1.2.1) hfl (hg5.fr hF6)
    · omega
  have hFz6 := hFz5.trans ((hF6.mono (S' := zS a s) (fun q hq => by rcases hq with r | r | r; exact Or.inl r; all_goals exact Or.inr ⟨by omega, by omega⟩)).fx)
  have hg6 := hg5.fr hF6
  have ak6 := hX6.1.1
  have hsl6 : Ss μ6 s sl := hsl5.fr hF6 (hf6 0 (by decide)) (by unfold eS; have := hda 1 (by decide); omega) (by unfold eS; have := hda 2 (by decide); omega) (by unfold eS; have := hda 3 (by decide); omega)
  have hSo6 : Sl μ6 s (s + 6) 8 so := ⟨(hf6 8 (by decide)).trans h85, by omega, by rw [(hF6.2.2.2.2.2 (s + 6) (by unfold eS; omega)).2.2.1]; exact hHs5, hso⟩
  have hCa6 : Sl μ6 s (s + 7) 10 ca := ⟨(hf6 10 (by decide)).trans h105, by omega, by rw [(hF6.2.2.2.2.2 (s + 7) (by unfold eS; omega)).2.2.1]; exact hHc5, hca⟩
  first | refine e_if_eqB 101 92 (by decide) rfl dX5_readInto_89 rfl (fun z => ?_) (fun z => ?_) | refine e_if_eqN 101 92 (by decide) rfl dX5_readInto_89 rfl (by omega) (fun z => ?_) (fun z => ?_) | refine e_if_eq 101 92 (by decide) rfl dX5_readInto_89 (fun z => ?_) (fun z => ?_)
  · omega
  refine e_al0 93 rfl dX5_readInto_92 ?_
  refine e_bipush (nI 46) 95 rfl dX5_readInto_93 bc_46 ?_
  refine e_invV0 [_] 98 rfl dX5_readInto_95 k_X5_60 mo_X5_pass rm_X5_readInto_X5_pass ⟨rfl, rfl⟩ rfl rfl (by assumption) (Nat.le_of_ble_eq_true rfl) ?_
  refine c_pass hX6 (by decide) hp4 (fun h46' μ7 hF7 h37 h47 hX7 => ?_) (fun h46' μ7 hF7 hfl hX7 => ?_)
  rotate_left
  · first | refine e_if_neB 103 101 (by decide) rfl dX5_readInto_98 rfl (fun zz => ?_) (fun zz => ?_) | refine e_if_neN 103 101 (by decide) rfl dX5_readInto_98 rfl (by omega) (fun zz => ?_) (fun zz => ?_) | refine e_if_ne 103 101 (by decide) rfl dX5_readInto_98 (fun zz => ?_) (fun zz => ?_)
    · omega
    refine e_iconst (nI 0) 102 rfl dX5_readInto_101 ic_0 ?_
    refine e_zret dX5_readInto_102 rfl (by first | exact z0 | exact z1 | exact bI01 _ | assumption) ?_
    exact kf 1 p4 (epre _ (by rw [e4]; simp only []; rw [if_neg h46'])) μ7 (hFz6.trans ((hF7.mono (S' := zS a s) (fun q e => Or.inl e)).fx)) (by rw [hF7.2.2.2.1]; exact hX6.1.2.1) hfl (hg6.fr hF7)
  have hFz7 := hFz6.trans ((hF7.mono (S' := zS a s) (fun q e => Or.inl e)).fx)
  have hg7 := hg6.fr hF7
  have ak7 := hX7.1.1
  have a17 := hX7.2.1
  have a27 := hX7.2.2.1
  have nas : ¬ (s = a) := fun e => d0 e.symm
  have hsl7 : Ss μ7 s sl := hsl6.fr hF7 (by rw [(hF7.2.2.2.2.2 s nas).1]) (fun e => hda 1 (by decide) e.symm) (fun e => hda 2 (by decide) e.symm) (fun e => hda 3 (by decide) e.symm)
  have hSo7 : Sl μ7 s (s + 6) 8 so := by unfold Sl; rw [(hF7.2.2.2.2.2 s nas).1, (hF7.2.2.2.2.2 (s + 6) (fun e => d6 e.symm)).2.2.1]; exact hSo6
  have hCa7 : Sl μ7 s (s + 7) 10 ca := by unfold Sl; rw [(hF7.2.2.2.2.2 s nas).1, (hF7.2.2.2.2.2 (s + 7) (fun e => d7 e.symm)).2.2.1]; exact hCa6
  have hE7 : Se μ7 s en := by unfold Se; rw [(hF7.2.2.2.2.2 s nas).1, (hF7.2.2.2.2.2 (s + 8) (fun e => hda 8 (by decide) e.symm)).2.1]; exact hE6
  first | refine e_if_neB 103 101 (by decide) rfl dX5_readInto_98 rfl (fun zz => ?_) (fun zz => ?_) | refine e_if_neN 103 101 (by decide) rfl dX5_readInto_98 rfl (by omega) (fun zz => ?_) (fun zz => ?_) | refine e_if_ne 103 101 (by decide) rfl dX5_readInto_98 (fun zz => ?_) (fun zz => ?_)
  rotate_left
  · omega
  refine e_al0 104 rfl dX5_readInto_103 ?_
  first | refine e_getIv 107 rfl dX5_readInto_104 f_X5_19 (by assumption) (by first | assumption | (simp only [mN_sF, mK_sF, mL_sF, mF_sF, mB_sF, mA_sF, mJ_sF, mP_sF, mO_sF, mN_sB, mK_sB, mL_sB, mF_sB, mB_sB, mA_sB, mJ_sB, mP_sB, mO_sB, mN_sA, mK_sA, mL_sA, mF_sA, mB_sA, mA_sA, mJ_sA, mP_sA, mO_sA, mN_sJ, mK_sJ, mL_sJ, mF_sJ, mB_sJ, mA_sJ, mJ_sJ, mP_sJ, mO_sJ, mN_sP, mK_sP, mL_sP, mF_sP, mB_sP, mA_sP, mJ_sP, mP_sP, mO_sP, mN_sO, mK_sO, mL_sO, mF_sO, mB_sO, mA_sO, mJ_sO, mP_sO, mO_sO, up2, if_true, if_false, eq_self, ite_true, ite_false, reduceIte, Nat.add_left_cancel_iff, Nat.add_eq_left, Nat.left_eq_add, Nat.reduceEqDiff]; assumption) | (simp only [mN_sF, mK_sF, mL_sF, mF_sF, mB_sF, mA_sF, mJ_sF, mP_sF, mO_sF, mN_sB, mK_sB, mL_sB, mF_sB, mB_sB, mA_sB, mJ_sB, mP_sB, mO_sB, mN_sA, mK_sA, mL_sA, mF_sA, mB_sA, mA_sA, mJ_sA, mP_sA, mO_sA, mN_sJ, mK_sJ, mL_sJ, mF_sJ, mB_sJ, mA_sJ, mJ_sJ, mP_sJ, mO_sJ, mN_sP, mK_sP, mL_sP, mF_sP, mB_sP, mA_sP, mJ_sP, mP_sP, mO_sP, mN_sO, mK_sO, mL_sO, mF_sO, mB_sO, mA_sO, mJ_sO, mP_sO, mO_sO, up2, if_true, if_false, eq_self, ite_true, ite_false, reduceIte, Nat.add_left_cancel_iff, Nat.add_eq_left, Nat.left_eq_add, Nat.reduceEqDiff]; done)) ?_ | refine e_getI 107 rfl dX5_readInto_104 f_X5_19 (by assumption) ?_
  refine e_al0 108 rfl dX5_readInto_107 ?_
  first | refine e_getIv 111 rfl dX5_readInto_108 f_X5_15 (by assumption) (by first | assumption | (simp only [mN_sF, mK_sF, mL_sF, mF_sF, mB_sF, mA_sF, mJ_sF, mP_sF, mO_sF, mN_sB, mK_sB, mL_sB, mF_sB, mB_sB, mA_sB, mJ_sB, mP_sB, mO_sB, mN_sA, mK_sA, mL_sA, mF_sA, mB_sA, mA_sA, mJ_sA, mP_sA, mO_sA, mN_sJ, mK_sJ, mL_sJ, mF_sJ, mB_sJ, mA_sJ, mJ_sJ, mP_sJ, mO_sJ, mN_sP, mK_sP, mL_sP, mF_sP, mB_sP, mA_sP, mJ_sP, mP_sP, mO_sP, mN_sO, mK_sO, mL_sO, mF_sO, mB_sO, mA_sO, mJ_sO, mP_sO, mO_sO, up2, if_true, if_false, eq_self, ite_true, ite_false, reduceIte, Nat.add_left_cancel_iff, Nat.add_eq_left, Nat.left_eq_add, Nat.reduceEqDiff]; assumption) | (simp only [mN_sF, mK_sF, mL_sF, mF_sF, mB_sF, mA_sF, mJ_sF, mP_sF, mO_sF, mN_sB, mK_sB, mL_sB, mF_sB, mB_sB, mA_sB, mJ_sB, mP_sB, mO_sB, mN_sA, mK_sA, mL_sA, mF_sA, mB_sA, mA_sA, mJ_sA, mP_sA, mO_sA, mN_sJ, mK_sJ, mL_sJ, mF_sJ, mB_sJ, mA_sJ, mJ_sJ, mP_sJ, mO_sJ, mN_sP, mK_sP, mL_sP, mF_sP, mB_sP, mA_sP, mJ_sP, mP_sP, mO_sP, mN_sO, mK_sO, mL_sO, mF_sO, mB_sO, mA_sO, mJ_sO, mP_sO, mO_sO, up2, if_true, if_false, eq_self, ite_true, ite_false, reduceIte, Nat.add_left_cancel_iff, Nat.add_eq_left, Nat.left_eq_add, Nat.reduceEqDiff]; done)) ?_ | refine e_getI 111 rfl dX5_readInto_108 f_X5_15 (by assumption) ?_
  first | refine e_cmp_geN 120 114 (by decide) rfl dX5_readInto_111 rfl rfl (by omega) (by omega) (fun zl => ?_) (fun zl => ?_) | refine e_cmp_ge 120 114 (by decide) rfl dX5_readInto_111 (fun zl => ?_) (fun zl => ?_)
  rotate_left
  · -- more behind
    refine e_al0 115 rfl dX5_readInto_114 ?_
    refine e_iconst (nI 1) 116 rfl dX5_readInto_115 ic_1 ?_
    refine e_invV0 [_] 119 rfl dX5_readInto_116 k_X5_64 mo_X5_stopWith rm_X5_readInto_X5_stopWith ⟨rfl, rfl⟩ rfl rfl (by assumption) (Nat.le_of_ble_eq_true rfl) ?_
    refine c_stopWith hX7 (fun μ8 hF8 hfl hX8 => ?_)
    refine e_zret dX5_readInto_119 rfl (by first | exact z0 | exact z1 | exact bI01 _ | assumption) ?_
    exact kf 1 (p4 + 1) (epre _ (by rw [e4]; simp only []; rw [if_pos h46', if_pos zl])) μ8 (hFz7.trans ((hF8.mono (S' := zS a s) (fun q e => Or.inl e)).fx)) (by rw [hF8.2.2.2.1]; exact hX7.1.2.1) hfl (hg7.fr hF8)
  have gk7 := hg7.1.1
  refine e_al1 121 rfl dX5_readInto_120 ?_
  refine e_invV0 [] 124 rfl dX5_readInto_121 k_X5_68 mo_X4_link rm_X5_readInto_X4_link ⟨rfl, rfl⟩ rfl rfl (by assumption) (Nat.le_of_ble_eq_true rfl) ?_
  refine c_link hg7 hsl7 (fun μ8 hF8 hf8 hK8 => ?_)
  refine e_iconst (nI 1) 125 rfl dX5_readInto_124 ic_1 ?_
  refine e_zret dX5_readInto_125 rfl (by first | exact z0 | exact z1 | exact bI01 _ | assumption) ?_
  have nl' : ∀ q, q ≠ 0 → q ≠ 4 → q ≠ 5 → ¬ lS s (s + q) := fun q h1 h2 h3 => by unfold lS; omega
  have nla : ¬ lS s a := by unfold lS; have := hda 4 (by decide); have := hda 5 (by decide); omega
  refine kt (sl, so, ca, en) (epre _ (by rw [e4]; simp only []; rw [if_pos h46', if_neg (by omega)])) μ8 (hFz7.trans ((hF8.mono (S' := zS a s) (fun q e => by rcases e with r | r | r <;> exact Or.inr ⟨by omega, by omega⟩)).fx)) (by rw [hF8.2.2.2.1]; exact hX7.1.2.1) ?_ ?_ (hg7.fr hF8) ⟨?_, hK8, ?_, ?_, ?_⟩
  · rw [(hF8.2.2.2.2.2 a nla).1]; exact (h37.trans h36).trans h35
  · rw [(hF8.2.2.2.2.2 a nla).1]; exact (h47.trans h46).trans h45
  · exact hsl7.fr hF8 (hf8 0 (by decide)) (nl' 1 (by decide) (by decide) (by decide)) (nl' 2 (by decide) (by decide) (by decide)) (nl' 3 (by decide) (by decide) (by decide))
  · exact ⟨(hf8 8 (by decide)).trans hSo7.1, hSo7.2.1, by rw [(hF8.2.2.2.2.2 (s + 6) (nl' 6 (by decide) (by decide) (by decide))).2.2.1]; exact hSo7.2.2.1, hSo7.2.2.2⟩
  · exact ⟨(hf8 10 (by decide)).trans hCa7.1, hCa7.2.1, by rw [(hF8.2.2.2.2.2 (s + 7) (nl' 7 (by decide) (by decide) (by decide))).2.2.1]; exact hCa7.2.2.1, hCa7.2.2.2⟩
  · exact ⟨(hf8 12 (by decide)).trans hE7.1, hE7.2.1, by rw [(hF8.2.2.2.2.2 (s + 8) (nl' 8 (by decide) (by decide) (by decide))).2.1]; exact hE7.2.2.1, hE7.2.2.2⟩
end INTO
