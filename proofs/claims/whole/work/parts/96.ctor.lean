/-! constructors of what holds rows alone -/
section CTOR
variable {E : En} {μ : Mm} {K : Option Value → Mm → Prop}
def same (q : Nat) (μ μ' : Mm) : Prop := mK μ' q = mK μ q ∧ mL μ' q = mL μ q ∧ mF μ' q = mF μ q ∧ mB μ' q = mB μ q ∧ mA μ' q = mA μ q ∧ mJ μ' q = mJ μ q ∧ mP μ' q = mP μ q ∧ mO μ' q = mO μ q
theorem same.rf {q : Nat} : same q μ μ := ⟨rfl, rfl, rfl, rfl, rfl, rfl, rfl, rfl⟩
theorem same.trans {q : Nat} {μ' μ'' : Mm} (h : same q μ μ') (g : same q μ' μ'') : same q μ μ'' := ⟨g.1.trans h.1, g.2.1.trans h.2.1, g.2.2.1.trans h.2.2.1, g.2.2.2.1.trans h.2.2.2.1, g.2.2.2.2.1.trans h.2.2.2.2.1, g.2.2.2.2.2.1.trans h.2.2.2.2.2.1, g.2.2.2.2.2.2.1.trans h.2.2.2.2.2.2.1, g.2.2.2.2.2.2.2.trans h.2.2.2.2.2.2.2⟩
/-- a new cell, all of it zero -/
def cell0 (μ : Mm) (a k l : Nat) : Prop := mK μ a = k ∧ mL μ a = l ∧ mF μ a = (fun _ => 0) ∧ mB μ a = (fun _ => 0) ∧ mA μ a = (fun _ => 0) ∧ mJ μ a = (fun _ => 0) ∧ mP μ a = (fun _ => none) ∧ mO μ a = (fun _ => none)
theorem cell0.of {a k l : Nat} {μ' : Mm} (h : cell0 μ a k l) (s : same a μ μ') : cell0 μ' a k l := ⟨s.1.trans h.1, s.2.1.trans h.2.1, s.2.2.1.trans h.2.2.1, s.2.2.2.1.trans h.2.2.2.1, s.2.2.2.2.1.trans h.2.2.2.2.1, s.2.2.2.2.2.1.trans h.2.2.2.2.2.1, s.2.2.2.2.2.2.1.trans h.2.2.2.2.2.2.1, s.2.2.2.2.2.2.2.trans h.2.2.2.2.2.2.2⟩
theorem sN_same {k l q : Nat} (h : q ≠ mN μ) : same q μ (sN μ k l) := ⟨up1_n h, up1_n h, up1_n h, up1_n h, up1_n h, up1_n h, up1_n h, up1_n h⟩
theorem sN_cell {k l : Nat} : cell0 (sN μ k l) (mN μ) k l := ⟨up1_s, up1_s, up1_s, up1_s, up1_s, up1_s, up1_s, up1_s⟩
theorem sF_same {a f q : Nat} {v : Int32} (h : q ≠ a) : same q μ (sF μ a f v) := ⟨rfl, rfl, up2_a h, rfl, rfl, rfl, rfl, rfl⟩
theorem sP_same {a f q : Nat} {v : Option Nat} (h : q ≠ a) : same q μ (sP μ a f v) := ⟨rfl, rfl, rfl, rfl, rfl, rfl, up2_a h, rfl⟩
theorem sO_same {a f q : Nat} {v : Option Nat} (h : q ≠ a) : same q μ (sO μ a f v) := ⟨rfl, rfl, rfl, rfl, rfl, rfl, rfl, up2_a h⟩
theorem sA_same {a f q : Nat} {v : Int32} (h : q ≠ a) : same q μ (sA μ a f v) := ⟨rfl, rfl, rfl, rfl, up2_a h, rfl, rfl, rfl⟩
theorem sB_same {a f q : Nat} {v : Int32} (h : q ≠ a) : same q μ (sB μ a f v) := ⟨rfl, rfl, rfl, up2_a h, rfl, rfl, rfl, rfl⟩
theorem up2_1 {α : Type} {f : Nat → Nat → α} {a k : Nat} {v : α} : up2 f a k v a = up1 (f a) k v := funext (fun j => by
  by_cases c : j = k
  · rw [c, up2_s, up1_s]
  · rw [up2_k c, up1_n c])
/-- an object at t and its rows behind it -/
def Ob (μ0 μ : Mm) (t c : Nat) (L : List (Nat × Nat)) (P : Nat → Option Nat) (F : Nat → Int32) : Prop := mN μ = t + 1 + L.length ∧ mK μ t = c ∧ mP μ t = P ∧ mF μ t = F ∧ (∀ j x, L[j]? = some x → cell0 μ (t + 1 + j) x.1 x.2) ∧ ∀ q, q < t → same q μ0 μ
theorem Ob.sF {μ0 : Mm} {t c : Nat} {L : List (Nat × Nat)} {P : Nat → Option Nat} {F : Nat → Int32} (h : Ob μ0 μ t c L P F) (f : Nat) (v : Int32) : Ob μ0 (sF μ t f v) t c L P (up1 F f v) := by
  obtain ⟨h1, h2, h3, h4, h5, h6⟩ := h
  refine ⟨h1, h2, h3, ?_, fun j x hj => (h5 j x hj).of (sF_same (by omega)), fun q hq => (h6 q hq).trans (sF_same (by omega))⟩
  rw [← h4]
  exact up2_1
theorem Ob.mkN {μ0 : Mm} {t c : Nat} {L : List (Nat × Nat)} {P : Nat → Option Nat} {F : Nat → Int32} (h : Ob μ0 μ t c L P F) (k l : Nat) : mK (sN μ k l) t = c := by
  rw [(sN_same (by rw [h.1]; omega)).1]; exact h.2.1
theorem Ob.na {μ0 : Mm} {t c : Nat} {L : List (Nat × Nat)} {P : Nat → Option Nat} {F : Nat → Int32} (h : Ob μ0 μ t c L P F) (k l f : Nat) : Ob μ0 (sP (sN μ k l) t f (some (mN μ))) t c (L ++ [(k, l)]) (up1 P f (some (t + 1 + L.length))) F := by
  obtain ⟨h1, h2, h3, h4, h5, h6⟩ := h
  have st := sN_same (μ := μ) (k := k) (l := l) (q := t) (by rw [h1]; omega)
  refine ⟨?_, st.1.trans h2, ?_, st.2.2.1.trans h4, fun j x hj => ?_, fun q hq => ((h6 q hq).trans (sN_same (by rw [h1]; omega))).trans (sP_same (by omega))⟩
  · show mN μ + 1 = _
    rw [h1, List.length_append]; rfl
  · rw [← h3, ← st.2.2.2.2.2.2.1, h1]
    exact up2_1
  · by_cases e : j < L.length
    · rw [List.getElem?_append_left e] at hj
      exact ((h5 j x hj).of (sN_same (by rw [h1]; omega))).of (sP_same (by omega))
    · rw [List.getElem?_append_right (by omega)] at hj
      have hz : j - L.length < 1 := (List.getElem?_eq_some_iff.mp hj).1
      have ej : j = L.length := by omega
      subst ej
      rw [Nat.sub_self] at hj
      have hx : (k, l) = x := Option.some.inj hj
      rw [← hx, ← h1]
      exact sN_cell.of (sP_same (by rw [h1]; omega))
theorem Ob.start {k : Nat} : Ob (sN μ k 0) (sN μ k 0) (mN μ) k [] (fun _ => none) (fun _ => 0) := ⟨rfl, sN_cell.1, sN_cell.2.2.2.2.2.2.1, sN_cell.2.2.1, fun j x hj => by simp at hj, fun q _ => same.rf⟩
theorem i_word {ν μ0 : Mm} {t : Nat} (o0 : Ob ν μ0 t 9 [] (fun _ => none) (fun _ => 0)) (k : ∀ μ', Ob ν μ' t 9 [(12, 21), (12, 20)] (up1 (up1 (fun _ => none) 0 (some (t + 1 + 0))) 2 (some (t + 1 + 1))) (up1 (up1 (fun _ => 0) 1 (nI 0)) 3 (nI 0)) → K none μ') : Cl E M_X8_init [.ref t] μ0 K := by
  have mk0 := o0.2.1
  refine Cl.of (nn := 0) pn_X8 (Nat.le_of_ble_eq_true rfl) rfl ?_
  refine e_al0 1 rfl dX8_init_0 ?_
  refine e_obj 4 rfl dX8_init_1 k_X8_3 (Nat.le_of_ble_eq_true rfl) (Nat.le_of_ble_eq_true rfl) ?_
  refine e_al0 5 rfl dX8_init_4 ?_
  refine e_bipush (nI 21) 7 rfl dX8_init_5 bc_21 ?_
  refine e_newaB 1 20 9 rfl dX8_init_7 (Or.inl ⟨rfl, rfl⟩) ac_byte rfl (by decide) rfl rfl ?_
  have n0 := o0.mkN 12 21
  refine e_putR 12 rfl dX8_init_9 f_X8_9 (by assumption) rfl rfl (fun _ => ⟨rfl, rfl⟩) ?_
  have o1 := o0.na 12 21 0
  generalize sP (sN μ0 12 21) t 0 (some (mN μ0)) = μ1 at o1 ⊢
  clear n0
  have mk1 := o1.2.1
  clear mk0 o0
  refine e_al0 13 rfl dX8_init_12 ?_
  refine e_iconst (nI 0) 14 rfl dX8_init_13 ic_0 ?_
  refine e_putI 17 rfl dX8_init_14 f_X8_15 (by assumption) ?_
  have o2 := o1.sF 1 (nI 0)
  generalize sF μ1 t 1 (nI 0) = μ2 at o2 ⊢
  have mk2 := o2.2.1
  clear mk1 o1
  refine e_al0 18 rfl dX8_init_17 ?_
  refine e_bipush (nI 20) 20 rfl dX8_init_18 bc_20 ?_
  refine e_newaB 0 0 22 rfl dX8_init_20 (Or.inl ⟨rfl, rfl⟩) ac_byte rfl (by decide) rfl rfl ?_
  have n2 := o2.mkN 12 20
  refine e_putR 25 rfl dX8_init_22 f_X8_19 (by assumption) rfl rfl (fun _ => ⟨rfl, rfl⟩) ?_
  have o3 := o2.na 12 20 2
  generalize sP (sN μ2 12 20) t 2 (some (mN μ2)) = μ3 at o3 ⊢
  clear n2
  have mk3 := o3.2.1
  clear mk2 o2
  refine e_al0 26 rfl dX8_init_25 ?_
  refine e_iconst (nI 0) 27 rfl dX8_init_26 ic_0 ?_
  refine e_putI 30 rfl dX8_init_27 f_X8_22 (by assumption) ?_
  have o4 := o3.sF 3 (nI 0)
  generalize sF μ3 t 3 (nI 0) = μ4 at o4 ⊢
  have mk4 := o4.2.1
  clear mk3 o3
  refine e_ret dX8_init_30 rfl ?_
  exact k μ4 o4
theorem i_line {ν μ0 : Mm} {t : Nat} (o0 : Ob ν μ0 t 2 [] (fun _ => none) (fun _ => 0)) (k : ∀ μ', Ob ν μ' t 2 [(12, 488)] (up1 (fun _ => none) 0 (some (t + 1 + 0))) (up1 (fun _ => 0) 1 (nI 0)) → K none μ') : Cl E M_X1_init [.ref t] μ0 K := by
  have mk0 := o0.2.1
  refine Cl.of (nn := 0) pn_X1 (Nat.le_of_ble_eq_true rfl) rfl ?_
  refine e_al0 1 rfl dX1_init_0 ?_
  refine e_obj 4 rfl dX1_init_1 k_X1_3 (Nat.le_of_ble_eq_true rfl) (Nat.le_of_ble_eq_true rfl) ?_
  refine e_al0 5 rfl dX1_init_4 ?_
  refine e_sipush (nI 488) 8 rfl dX1_init_5 sc_488 ?_
  refine e_newaB 0 0 10 rfl dX1_init_8 (Or.inl ⟨rfl, rfl⟩) ac_byte rfl (by decide) rfl rfl ?_
  have n0 := o0.mkN 12 488
  refine e_putR 13 rfl dX1_init_10 f_X1_9 (by assumption) rfl rfl (fun _ => ⟨rfl, rfl⟩) ?_
  have o1 := o0.na 12 488 0
  generalize sP (sN μ0 12 488) t 0 (some (mN μ0)) = μ1 at o1 ⊢
  clear n0
  have mk1 := o1.2.1
  clear mk0 o0
  refine e_al0 14 rfl dX1_init_13 ?_
  refine e_iconst (nI 0) 15 rfl dX1_init_14 ic_0 ?_
  refine e_putI 18 rfl dX1_init_15 f_X1_15 (by assumption) ?_
  have o2 := o1.sF 1 (nI 0)
  generalize sF μ1 t 1 (nI 0) = μ2 at o2 ⊢
  have mk2 := o2.2.1
  clear mk1 o1
  refine e_ret dX1_init_18 rfl ?_
  exact k μ2 o2
theorem i_tape {ν μ0 : Mm} {t : Nat} (o0 : Ob ν μ0 t 8 [] (fun _ => none) (fun _ => 0)) (k : ∀ μ', Ob ν μ' t 8 [(12, 400)] (up1 (fun _ => none) 0 (some (t + 1 + 0))) (up1 (fun _ => 0) 1 (nI 0)) → K none μ') : Cl E M_X7_init [.ref t] μ0 K := by
  have mk0 := o0.2.1
  refine Cl.of (nn := 0) pn_X7 (Nat.le_of_ble_eq_true rfl) rfl ?_
  refine e_al0 1 rfl dX7_init_0 ?_
  refine e_obj 4 rfl dX7_init_1 k_X7_3 (Nat.le_of_ble_eq_true rfl) (Nat.le_of_ble_eq_true rfl) ?_
  refine e_al0 5 rfl dX7_init_4 ?_
  refine e_sipush (nI 400) 8 rfl dX7_init_5 sc_400 ?_
  refine e_newaB 0 0 10 rfl dX7_init_8 (Or.inl ⟨rfl, rfl⟩) ac_byte rfl (by decide) rfl rfl ?_
  have n0 := o0.mkN 12 400
  refine e_putR 13 rfl dX7_init_10 f_X7_9 (by assumption) rfl rfl (fun _ => ⟨rfl, rfl⟩) ?_
  have o1 := o0.na 12 400 0
  generalize sP (sN μ0 12 400) t 0 (some (mN μ0)) = μ1 at o1 ⊢
  clear n0
  have mk1 := o1.2.1
  clear mk0 o0
  refine e_al0 14 rfl dX7_init_13 ?_
  refine e_iconst (nI 0) 15 rfl dX7_init_14 ic_0 ?_
  refine e_putI 18 rfl dX7_init_15 f_X7_15 (by assumption) ?_
  have o2 := o1.sF 1 (nI 0)
  generalize sF μ1 t 1 (nI 0) = μ2 at o2 ⊢
  have mk2 := o2.2.1
  clear mk1 o1
  refine e_ret dX7_init_18 rfl ?_
  exact k μ2 o2
theorem i_shape {ν μ0 : Mm} {t : Nat} (o0 : Ob ν μ0 t 5 [] (fun _ => none) (fun _ => 0)) (k : ∀ μ', Ob ν μ' t 5 [(13, 8), (15, 8), (15, 8), (13, 8), (13, 7), (13, 7), (13, 7), (12, 6)] (up1 (up1 (up1 (up1 (up1 (up1 (up1 (up1 (fun _ => none) 1 (some (t + 1 + 0))) 2 (some (t + 1 + 1))) 3 (some (t + 1 + 2))) 5 (some (t + 1 + 3))) 6 (some (t + 1 + 4))) 7 (some (t + 1 + 5))) 9 (some (t + 1 + 6))) 11 (some (t + 1 + 7))) (up1 (up1 (up1 (up1 (up1 (fun _ => 0) 0 (nI 0)) 4 (nI 0)) 8 (nI 0)) 10 (nI 0)) 12 (nI 0)) → K none μ') : Cl E M_X4_init [.ref t] μ0 K := by
  have mk0 := o0.2.1
  refine Cl.of (nn := 0) pn_X4 (Nat.le_of_ble_eq_true rfl) rfl ?_
  refine e_al0 1 rfl dX4_init_0 ?_
  refine e_obj 4 rfl dX4_init_1 k_X4_3 (Nat.le_of_ble_eq_true rfl) (Nat.le_of_ble_eq_true rfl) ?_
  refine e_al0 5 rfl dX4_init_4 ?_
  refine e_iconst (nI 0) 6 rfl dX4_init_5 ic_0 ?_
  refine e_putI 9 rfl dX4_init_6 f_X4_9 (by assumption) ?_
  have o1 := o0.sF 0 (nI 0)
  generalize sF μ0 t 0 (nI 0) = μ1 at o1 ⊢
  have mk1 := o1.2.1
  clear mk0 o0
  refine e_al0 10 rfl dX4_init_9 ?_
  refine e_bipush (nI 8) 12 rfl dX4_init_10 bc_8 ?_
  refine e_newaB 7 51 14 rfl dX4_init_12 (Or.inr (Or.inl ⟨rfl, rfl⟩)) ac_int rfl (by decide) rfl rfl ?_
  have n1 := o1.mkN 13 8
  refine e_putR 17 rfl dX4_init_14 f_X4_15 (by assumption) rfl rfl (fun _ => ⟨rfl, rfl⟩) ?_
  have o2 := o1.na 13 8 1
  generalize sP (sN μ1 13 8) t 1 (some (mN μ1)) = μ2 at o2 ⊢
  clear n1
  have mk2 := o2.2.1
  clear mk1 o1
  refine e_al0 18 rfl dX4_init_17 ?_
  refine e_bipush (nI 8) 20 rfl dX4_init_18 bc_8 ?_
  refine e_newaB 6 43 22 rfl dX4_init_20 (Or.inr (Or.inr (Or.inr ⟨rfl, rfl⟩))) ac_boolean rfl (by decide) rfl rfl ?_
  have n2 := o2.mkN 15 8
  refine e_putR 25 rfl dX4_init_22 f_X4_19 (by assumption) rfl rfl (fun _ => ⟨rfl, rfl⟩) ?_
  have o3 := o2.na 15 8 2
  generalize sP (sN μ2 15 8) t 2 (some (mN μ2)) = μ3 at o3 ⊢
  clear n2
  have mk3 := o3.2.1
  clear mk2 o2
  refine e_al0 26 rfl dX4_init_25 ?_
  refine e_bipush (nI 8) 28 rfl dX4_init_26 bc_8 ?_
  refine e_newaB 5 35 30 rfl dX4_init_28 (Or.inr (Or.inr (Or.inr ⟨rfl, rfl⟩))) ac_boolean rfl (by decide) rfl rfl ?_
  have n3 := o3.mkN 15 8
  refine e_putR 33 rfl dX4_init_30 f_X4_23 (by assumption) rfl rfl (fun _ => ⟨rfl, rfl⟩) ?_
  have o4 := o3.na 15 8 3
  generalize sP (sN μ3 15 8) t 3 (some (mN μ3)) = μ4 at o4 ⊢
  clear n3
  have mk4 := o4.2.1
  clear mk3 o3
  refine e_al0 34 rfl dX4_init_33 ?_
  refine e_iconst (nI 0) 35 rfl dX4_init_34 ic_0 ?_
  refine e_putI 38 rfl dX4_init_35 f_X4_26 (by assumption) ?_
  have o5 := o4.sF 4 (nI 0)
  generalize sF μ4 t 4 (nI 0) = μ5 at o5 ⊢
  have mk5 := o5.2.1
  clear mk4 o4
  refine e_al0 39 rfl dX4_init_38 ?_
  refine e_bipush (nI 8) 41 rfl dX4_init_39 bc_8 ?_
  refine e_newaB 4 27 43 rfl dX4_init_41 (Or.inr (Or.inl ⟨rfl, rfl⟩)) ac_int rfl (by decide) rfl rfl ?_
  have n5 := o5.mkN 13 8
  refine e_putR 46 rfl dX4_init_43 f_X4_29 (by assumption) rfl rfl (fun _ => ⟨rfl, rfl⟩) ?_
  have o6 := o5.na 13 8 5
  generalize sP (sN μ5 13 8) t 5 (some (mN μ5)) = μ6 at o6 ⊢
  clear n5
  have mk6 := o6.2.1
  clear mk5 o5
  refine e_al0 47 rfl dX4_init_46 ?_
  refine e_bipush (nI 7) 49 rfl dX4_init_47 bc_7 ?_
  refine e_newaB 3 20 51 rfl dX4_init_49 (Or.inr (Or.inl ⟨rfl, rfl⟩)) ac_int rfl (by decide) rfl rfl ?_
  have n6 := o6.mkN 13 7
  refine e_putR 54 rfl dX4_init_51 f_X4_32 (by assumption) rfl rfl (fun _ => ⟨rfl, rfl⟩) ?_
  have o7 := o6.na 13 7 6
  generalize sP (sN μ6 13 7) t 6 (some (mN μ6)) = μ7 at o7 ⊢
  clear n6
  have mk7 := o7.2.1
  clear mk6 o6
  refine e_al0 55 rfl dX4_init_54 ?_
  refine e_bipush (nI 7) 57 rfl dX4_init_55 bc_7 ?_
  refine e_newaB 2 13 59 rfl dX4_init_57 (Or.inr (Or.inl ⟨rfl, rfl⟩)) ac_int rfl (by decide) rfl rfl ?_
  have n7 := o7.mkN 13 7
  refine e_putR 62 rfl dX4_init_59 f_X4_35 (by assumption) rfl rfl (fun _ => ⟨rfl, rfl⟩) ?_
  have o8 := o7.na 13 7 7
  generalize sP (sN μ7 13 7) t 7 (some (mN μ7)) = μ8 at o8 ⊢
  clear n7
  have mk8 := o8.2.1
  clear mk7 o7
  refine e_al0 63 rfl dX4_init_62 ?_
  refine e_iconst (nI 0) 64 rfl dX4_init_63 ic_0 ?_
  refine e_putI 67 rfl dX4_init_64 f_X4_38 (by assumption) ?_
  have o9 := o8.sF 8 (nI 0)
  generalize sF μ8 t 8 (nI 0) = μ9 at o9 ⊢
  have mk9 := o9.2.1
  clear mk8 o8
  refine e_al0 68 rfl dX4_init_67 ?_
  refine e_bipush (nI 7) 70 rfl dX4_init_68 bc_7 ?_
  refine e_newaB 1 6 72 rfl dX4_init_70 (Or.inr (Or.inl ⟨rfl, rfl⟩)) ac_int rfl (by decide) rfl rfl ?_
  have n9 := o9.mkN 13 7
  refine e_putR 75 rfl dX4_init_72 f_X4_41 (by assumption) rfl rfl (fun _ => ⟨rfl, rfl⟩) ?_
  have o10 := o9.na 13 7 9
  generalize sP (sN μ9 13 7) t 9 (some (mN μ9)) = μ10 at o10 ⊢
  clear n9
  have mk10 := o10.2.1
  clear mk9 o9
  refine e_al0 76 rfl dX4_init_75 ?_
  refine e_iconst (nI 0) 77 rfl dX4_init_76 ic_0 ?_
  refine e_putI 80 rfl dX4_init_77 f_X4_44 (by assumption) ?_
  have o11 := o10.sF 10 (nI 0)
  generalize sF μ10 t 10 (nI 0) = μ11 at o11 ⊢
  have mk11 := o11.2.1
  clear mk10 o10
  refine e_al0 81 rfl dX4_init_80 ?_
  refine e_bipush (nI 6) 83 rfl dX4_init_81 bc_6 ?_
  refine e_newaB 0 0 85 rfl dX4_init_83 (Or.inl ⟨rfl, rfl⟩) ac_byte rfl (by decide) rfl rfl ?_
  have n11 := o11.mkN 12 6
  refine e_putR 88 rfl dX4_init_85 f_X4_47 (by assumption) rfl rfl (fun _ => ⟨rfl, rfl⟩) ?_
  have o12 := o11.na 12 6 11
  generalize sP (sN μ11 12 6) t 11 (some (mN μ11)) = μ12 at o12 ⊢
  clear n11
  have mk12 := o12.2.1
  clear mk11 o11
  refine e_al0 89 rfl dX4_init_88 ?_
  refine e_iconst (nI 0) 90 rfl dX4_init_89 ic_0 ?_
  refine e_putI 93 rfl dX4_init_90 f_X4_51 (by assumption) ?_
  have o13 := o12.sF 12 (nI 0)
  generalize sF μ12 t 12 (nI 0) = μ13 at o13 ⊢
  have mk13 := o13.2.1
  clear mk12 o12
  refine e_ret dX4_init_93 rfl ?_
  exact k μ13 o13
theorem i_text {ν μ0 : Mm} {t : Nat} (o0 : Ob ν μ0 t 6 [] (fun _ => none) (fun _ => 0)) (k : ∀ μ', Ob ν μ' t 6 [(12, 0)] (up1 (fun _ => none) 0 (some (t + 1 + 0))) (up1 (up1 (up1 (up1 (fun _ => 0) 1 (nI 0)) 2 (nI 0)) 3 (nI 0)) 4 (-1)) → K none μ') : Cl E M_X5_init [.ref t] μ0 K := by
  have mk0 := o0.2.1
  refine Cl.of (nn := 0) pn_X5 (Nat.le_of_ble_eq_true rfl) rfl ?_
  refine e_al0 1 rfl dX5_init_0 ?_
  refine e_obj 4 rfl dX5_init_1 k_X5_3 (Nat.le_of_ble_eq_true rfl) (Nat.le_of_ble_eq_true rfl) ?_
  refine e_al0 5 rfl dX5_init_4 ?_
  refine e_iconst (nI 0) 6 rfl dX5_init_5 ic_0 ?_
  refine e_newaB 0 0 8 rfl dX5_init_6 (Or.inl ⟨rfl, rfl⟩) ac_byte rfl (by decide) rfl rfl ?_
  have n0 := o0.mkN 12 0
  refine e_putR 11 rfl dX5_init_8 f_X5_9 (by assumption) rfl rfl (fun h => by cases h) ?_
  have o1 := o0.na 12 0 0
  generalize sP (sN μ0 12 0) t 0 (some (mN μ0)) = μ1 at o1 ⊢
  clear n0
  have mk1 := o1.2.1
  clear mk0 o0
  refine e_al0 12 rfl dX5_init_11 ?_
  refine e_iconst (nI 0) 13 rfl dX5_init_12 ic_0 ?_
  refine e_putI 16 rfl dX5_init_13 f_X5_15 (by assumption) ?_
  have o2 := o1.sF 1 (nI 0)
  generalize sF μ1 t 1 (nI 0) = μ2 at o2 ⊢
  have mk2 := o2.2.1
  clear mk1 o1
  refine e_al0 17 rfl dX5_init_16 ?_
  refine e_iconst (nI 0) 18 rfl dX5_init_17 ic_0 ?_
  refine e_putI 21 rfl dX5_init_18 f_X5_19 (by assumption) ?_
  have o3 := o2.sF 2 (nI 0)
  generalize sF μ2 t 2 (nI 0) = μ3 at o3 ⊢
  have mk3 := o3.2.1
  clear mk2 o2
  refine e_al0 22 rfl dX5_init_21 ?_
  refine e_iconst (nI 0) 23 rfl dX5_init_22 ic_0 ?_
  refine e_putI 26 rfl dX5_init_23 f_X5_22 (by assumption) ?_
  have o4 := o3.sF 3 (nI 0)
  generalize sF μ3 t 3 (nI 0) = μ4 at o4 ⊢
  have mk4 := o4.2.1
  clear mk3 o3
  refine e_al0 27 rfl dX5_init_26 ?_
  refine e_iconst (-1) 28 rfl dX5_init_27 ic_m1 ?_
  refine e_putI 31 rfl dX5_init_28 f_X5_25 (by assumption) ?_
  have o5 := o4.sF 4 (-1)
  generalize sF μ4 t 4 (-1) = μ5 at o5 ⊢
  have mk5 := o5.2.1
  clear mk4 o4
  refine e_ret dX5_init_31 rfl ?_
  exact k μ5 o5
end CTOR
