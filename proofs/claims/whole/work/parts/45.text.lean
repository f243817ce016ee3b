/-! NameDesk$ShapeText -/
section TEXT
variable {E : En} {μ : Mm} {K : Option Value → Mm → Prop}
def kindOf (c : Nat) : Option Nat := if c = 84 then some 0 else if c = 71 then some 1 else if c = 80 then some 2 else if c = 81 then some 3 else if c = 70 then some 4 else if c = 77 then some 5 else if c = 73 then some 6 else none
def kAt (l : List Nat) (p : Nat) : Option Nat := (l[p]?).bind kindOf
def howOf (c : Option Nat) : Nat := if c = some 63 then 1 else if c = some 42 then 2 else if c = some 43 then 3 else 0
theorem kindOf_lt {c k : Nat} (h : kindOf c = some k) : k < 7 := by
  unfold kindOf at h
  repeat' split at h
  all_goals first | (cases h; decide) | cases h
theorem kAt_lt {l : List Nat} {p k : Nat} (h : kAt l p = some k) : k < 7 ∧ p < l.length := by
  unfold kAt at h
  cases q : l[p]? with
  | none => rw [q] at h; cases h
  | some c => rw [q] at h; exact ⟨kindOf_lt h, (List.getElem?_eq_some_iff.mp q).1⟩
theorem howOf_lt (c : Option Nat) : howOf c < 4 := by
  unfold howOf
  split
  · decide
  · split
    · decide
    · split <;> decide
/-- the sign at p, -1 behind the last -/
def seeI (o : Option Nat) : Int32 := match o with
  | some c => nI c
  | none => -1
theorem seeI_eq {o : Option Nat} (ho : ∀ c, o = some c → c < 256) {d : Nat} (hd : d < 256) : seeI o = nI d ↔ o = some d := by
  cases o with
  | none =>
    constructor
    · intro h
      have : (nI d).toInt = -1 := by rw [← h]; rfl
      rw [nI_toInt (by omega)] at this
      omega
    · intro h; cases h
  | some c =>
    have := ho c rfl
    show nI c = nI d ↔ _
    rw [nI_eq (by omega) (by omega)]
    simp
/-- the text's state: at p of the text l, whose bytes lie in t -/
def Xt (μ : Mm) (a t : Nat) (l : List Nat) (p : Nat) : Prop := (mK μ a = 6 ∧ mP μ a 0 = some t ∧ mK μ t = 12 ∧ mL μ t = 400) ∧ mF μ a 1 = nI l.length ∧ mF μ a 2 = nI p ∧ Tb (mB μ t) l ∧ l.length ≤ 400 ∧ (∀ c ∈ l, c < 256) ∧ p ≤ 402
theorem Xt.lt {a t p : Nat} {l : List Nat} (h : Xt μ a t l p) : ∀ (q : Nat) (c : Nat), l[q]? = some c → c < 256 := fun q c hc => h.2.2.2.2.2.1 c (List.mem_of_getElem? hc)
theorem c_here {a t p : Nat} {l : List Nat} (h : Xt μ a t l p) (k : K (some (.int (seeI l[p]?))) μ) : Cl E M_X5_here [.ref a] μ K := by
  have hlt := h.lt
  obtain ⟨⟨ak, a0, tk, tl⟩, a1, a2, hT, l4, lc, hp⟩ := h
  refine Cl.of0 0 pn_X5 (Nat.le_of_ble_eq_true rfl) ⟨rfl, rfl⟩ rfl ?_
  refine e_al0 1 rfl dX5_here_0 ?_
  first | refine e_getIv 4 rfl dX5_here_1 f_X5_19 (by assumption) (by first | assumption | (simp only [mN_sF, mK_sF, mL_sF, mF_sF, mB_sF, mA_sF, mJ_sF, mP_sF, mO_sF, mN_sB, mK_sB, mL_sB, mF_sB, mB_sB, mA_sB, mJ_sB, mP_sB, mO_sB, mN_sA, mK_sA, mL_sA, mF_sA, mB_sA, mA_sA, mJ_sA, mP_sA, mO_sA, mN_sJ, mK_sJ, mL_sJ, mF_sJ, mB_sJ, mA_sJ, mJ_sJ, mP_sJ, mO_sJ, mN_sP, mK_sP, mL_sP, mF_sP, mB_sP, mA_sP, mJ_sP, mP_sP, mO_sP, mN_sO, mK_sO, mL_sO, mF_sO, mB_sO, mA_sO, mJ_sO, mP_sO, mO_sO, up2, if_true, if_false, eq_self, ite_true, ite_false, reduceIte, Nat.add_left_cancel_iff, Nat.add_eq_left, Nat.left_eq_add, Nat.reduceEqDiff]; assumption) | (simp only [mN_sF, mK_sF, mL_sF, mF_sF, mB_sF, mA_sF, mJ_sF, mP_sF, mO_sF, mN_sB, mK_sB, mL_sB, mF_sB, mB_sB, mA_sB, mJ_sB, mP_sB, mO_sB, mN_sA, mK_sA, mL_sA, mF_sA, mB_sA, mA_sA, mJ_sA, mP_sA, mO_sA, mN_sJ, mK_sJ, mL_sJ, mF_sJ, mB_sJ, mA_sJ, mJ_sJ, mP_sJ, mO_sJ, mN_sP, mK_sP, mL_sP, mF_sP, mB_sP, mA_sP, mJ_sP, mP_sP, mO_sP, mN_sO, mK_sO, mL_sO, mF_sO, mB_sO, mA_sO, mJ_sO, mP_sO, mO_sO, up2, if_true, if_false, eq_self, ite_true, ite_false, reduceIte, Nat.add_left_cancel_iff, Nat.add_eq_left, Nat.left_eq_add, Nat.reduceEqDiff]; done)) ?_ | refine e_getI 4 rfl dX5_here_1 f_X5_19 (by assumption) ?_
  first | refine e_if_ltN 34 7 (by decide) rfl dX5_here_4 rfl (by omega) ?_ | refine e_if_lt 34 7 (by decide) rfl dX5_here_4 (fun h => ?_) (fun h => ?_)
  refine e_al0 8 rfl dX5_here_7 ?_
  first | refine e_getIv 11 rfl dX5_here_8 f_X5_19 (by assumption) (by first | assumption | (simp only [mN_sF, mK_sF, mL_sF, mF_sF, mB_sF, mA_sF, mJ_sF, mP_sF, mO_sF, mN_sB, mK_sB, mL_sB, mF_sB, mB_sB, mA_sB, mJ_sB, mP_sB, mO_sB, mN_sA, mK_sA, mL_sA, mF_sA, mB_sA, mA_sA, mJ_sA, mP_sA, mO_sA, mN_sJ, mK_sJ, mL_sJ, mF_sJ, mB_sJ, mA_sJ, mJ_sJ, mP_sJ, mO_sJ, mN_sP, mK_sP, mL_sP, mF_sP, mB_sP, mA_sP, mJ_sP, mP_sP, mO_sP, mN_sO, mK_sO, mL_sO, mF_sO, mB_sO, mA_sO, mJ_sO, mP_sO, mO_sO, up2, if_true, if_false, eq_self, ite_true, ite_false, reduceIte, Nat.add_left_cancel_iff, Nat.add_eq_left, Nat.left_eq_add, Nat.reduceEqDiff]; assumption) | (simp only [mN_sF, mK_sF, mL_sF, mF_sF, mB_sF, mA_sF, mJ_sF, mP_sF, mO_sF, mN_sB, mK_sB, mL_sB, mF_sB, mB_sB, mA_sB, mJ_sB, mP_sB, mO_sB, mN_sA, mK_sA, mL_sA, mF_sA, mB_sA, mA_sA, mJ_sA, mP_sA, mO_sA, mN_sJ, mK_sJ, mL_sJ, mF_sJ, mB_sJ, mA_sJ, mJ_sJ, mP_sJ, mO_sJ, mN_sP, mK_sP, mL_sP, mF_sP, mB_sP, mA_sP, mJ_sP, mP_sP, mO_sP, mN_sO, mK_sO, mL_sO, mF_sO, mB_sO, mA_sO, mJ_sO, mP_sO, mO_sO, up2, if_true, if_false, eq_self, ite_true, ite_false, reduceIte, Nat.add_left_cancel_iff, Nat.add_eq_left, Nat.left_eq_add, Nat.reduceEqDiff]; done)) ?_ | refine e_getI 11 rfl dX5_here_8 f_X5_19 (by assumption) ?_
  refine e_al0 12 rfl dX5_here_11 ?_
  first | refine e_getIv 15 rfl dX5_here_12 f_X5_15 (by assumption) (by first | assumption | (simp only [mN_sF, mK_sF, mL_sF, mF_sF, mB_sF, mA_sF, mJ_sF, mP_sF, mO_sF, mN_sB, mK_sB, mL_sB, mF_sB, mB_sB, mA_sB, mJ_sB, mP_sB, mO_sB, mN_sA, mK_sA, mL_sA, mF_sA, mB_sA, mA_sA, mJ_sA, mP_sA, mO_sA, mN_sJ, mK_sJ, mL_sJ, mF_sJ, mB_sJ, mA_sJ, mJ_sJ, mP_sJ, mO_sJ, mN_sP, mK_sP, mL_sP, mF_sP, mB_sP, mA_sP, mJ_sP, mP_sP, mO_sP, mN_sO, mK_sO, mL_sO, mF_sO, mB_sO, mA_sO, mJ_sO, mP_sO, mO_sO, up2, if_true, if_false, eq_self, ite_true, ite_false, reduceIte, Nat.add_left_cancel_iff, Nat.add_eq_left, Nat.left_eq_add, Nat.reduceEqDiff]; assumption) | (simp only [mN_sF, mK_sF, mL_sF, mF_sF, mB_sF, mA_sF, mJ_sF, mP_sF, mO_sF, mN_sB, mK_sB, mL_sB, mF_sB, mB_sB, mA_sB, mJ_sB, mP_sB, mO_sB, mN_sA, mK_sA, mL_sA, mF_sA, mB_sA, mA_sA, mJ_sA, mP_sA, mO_sA, mN_sJ, mK_sJ, mL_sJ, mF_sJ, mB_sJ, mA_sJ, mJ_sJ, mP_sJ, mO_sJ, mN_sP, mK_sP, mL_sP, mF_sP, mB_sP, mA_sP, mJ_sP, mP_sP, mO_sP, mN_sO, mK_sO, mL_sO, mF_sO, mB_sO, mA_sO, mJ_sO, mP_sO, mO_sO, up2, if_true, if_false, eq_self, ite_true, ite_false, reduceIte, Nat.add_left_cancel_iff, Nat.add_eq_left, Nat.left_eq_add, Nat.reduceEqDiff]; done)) ?_ | refine e_getI 15 rfl dX5_here_12 f_X5_15 (by assumption) ?_
  first | refine e_cmp_geN 34 18 (by decide) rfl dX5_here_15 rfl rfl (by omega) (by omega) (fun h1 => ?_) (fun h1 => ?_) | refine e_cmp_ge 34 18 (by decide) rfl dX5_here_15 (fun h1 => ?_) (fun h1 => ?_)
  · refine e_iconst (-1) 35 rfl dX5_here_34 ic_m1 ?_
    refine e_iret dX5_here_35 rfl ?_
    have e : seeI l[p]? = -1 := by rw [List.getElem?_eq_none h1]; rfl
    rw [← e]; exact k
  · have hc := hT p _ (List.getElem?_eq_getElem h1)
    refine e_al0 19 rfl dX5_here_18 ?_
    refine e_getR 22 rfl dX5_here_19 f_X5_9 (by assumption) (by assumption) ?_
    refine e_al0 23 rfl dX5_here_22 ?_
    first | refine e_getIv 26 rfl dX5_here_23 f_X5_19 (by assumption) (by first | assumption | (simp only [mN_sF, mK_sF, mL_sF, mF_sF, mB_sF, mA_sF, mJ_sF, mP_sF, mO_sF, mN_sB, mK_sB, mL_sB, mF_sB, mB_sB, mA_sB, mJ_sB, mP_sB, mO_sB, mN_sA, mK_sA, mL_sA, mF_sA, mB_sA, mA_sA, mJ_sA, mP_sA, mO_sA, mN_sJ, mK_sJ, mL_sJ, mF_sJ, mB_sJ, mA_sJ, mJ_sJ, mP_sJ, mO_sJ, mN_sP, mK_sP, mL_sP, mF_sP, mB_sP, mA_sP, mJ_sP, mP_sP, mO_sP, mN_sO, mK_sO, mL_sO, mF_sO, mB_sO, mA_sO, mJ_sO, mP_sO, mO_sO, up2, if_true, if_false, eq_self, ite_true, ite_false, reduceIte, Nat.add_left_cancel_iff, Nat.add_eq_left, Nat.left_eq_add, Nat.reduceEqDiff]; assumption) | (simp only [mN_sF, mK_sF, mL_sF, mF_sF, mB_sF, mA_sF, mJ_sF, mP_sF, mO_sF, mN_sB, mK_sB, mL_sB, mF_sB, mB_sB, mA_sB, mJ_sB, mP_sB, mO_sB, mN_sA, mK_sA, mL_sA, mF_sA, mB_sA, mA_sA, mJ_sA, mP_sA, mO_sA, mN_sJ, mK_sJ, mL_sJ, mF_sJ, mB_sJ, mA_sJ, mJ_sJ, mP_sJ, mO_sJ, mN_sP, mK_sP, mL_sP, mF_sP, mB_sP, mA_sP, mJ_sP, mP_sP, mO_sP, mN_sO, mK_sO, mL_sO, mF_sO, mB_sO, mA_sO, mJ_sO, mP_sO, mO_sO, up2, if_true, if_false, eq_self, ite_true, ite_false, reduceIte, Nat.add_left_cancel_iff, Nat.add_eq_left, Nat.left_eq_add, Nat.reduceEqDiff]; done)) ?_ | refine e_getI 26 rfl dX5_here_23 f_X5_19 (by assumption) ?_
    first | refine e_baldv 27 rfl dX5_here_26 (by assumption) (by assumption) (by first | rfl | simp only [pk_mul, nI_add]) (by omega) (by omega) (by first | assumption | (simp only [mN_sF, mK_sF, mL_sF, mF_sF, mB_sF, mA_sF, mJ_sF, mP_sF, mO_sF, mN_sB, mK_sB, mL_sB, mF_sB, mB_sB, mA_sB, mJ_sB, mP_sB, mO_sB, mN_sA, mK_sA, mL_sA, mF_sA, mB_sA, mA_sA, mJ_sA, mP_sA, mO_sA, mN_sJ, mK_sJ, mL_sJ, mF_sJ, mB_sJ, mA_sJ, mJ_sJ, mP_sJ, mO_sJ, mN_sP, mK_sP, mL_sP, mF_sP, mB_sP, mA_sP, mJ_sP, mP_sP, mO_sP, mN_sO, mK_sO, mL_sO, mF_sO, mB_sO, mA_sO, mJ_sO, mP_sO, mO_sO, up2, if_true, if_false, eq_self, ite_true, ite_false, reduceIte, Nat.add_left_cancel_iff, Nat.add_eq_left, Nat.left_eq_add, Nat.reduceEqDiff]; assumption) | (simp only [mN_sF, mK_sF, mL_sF, mF_sF, mB_sF, mA_sF, mJ_sF, mP_sF, mO_sF, mN_sB, mK_sB, mL_sB, mF_sB, mB_sB, mA_sB, mJ_sB, mP_sB, mO_sB, mN_sA, mK_sA, mL_sA, mF_sA, mB_sA, mA_sA, mJ_sA, mP_sA, mO_sA, mN_sJ, mK_sJ, mL_sJ, mF_sJ, mB_sJ, mA_sJ, mJ_sJ, mP_sJ, mO_sJ, mN_sP, mK_sP, mL_sP, mF_sP, mB_sP, mA_sP, mJ_sP, mP_sP, mO_sP, mN_sO, mK_sO, mL_sO, mF_sO, mB_sO, mA_sO, mJ_sO, mP_sO, mO_sO, up2, if_true, if_false, eq_self, ite_true, ite_false, reduceIte, Nat.add_left_cancel_iff, Nat.add_eq_left, Nat.left_eq_add, Nat.reduceEqDiff]; done)) ?_ | refine e_zaldv 27 rfl dX5_here_26 (by assumption) (by assumption) (by first | rfl | simp only [pk_mul, nI_add]) (by omega) (by omega) (by first | assumption | (simp only [mN_sF, mK_sF, mL_sF, mF_sF, mB_sF, mA_sF, mJ_sF, mP_sF, mO_sF, mN_sB, mK_sB, mL_sB, mF_sB, mB_sB, mA_sB, mJ_sB, mP_sB, mO_sB, mN_sA, mK_sA, mL_sA, mF_sA, mB_sA, mA_sA, mJ_sA, mP_sA, mO_sA, mN_sJ, mK_sJ, mL_sJ, mF_sJ, mB_sJ, mA_sJ, mJ_sJ, mP_sJ, mO_sJ, mN_sP, mK_sP, mL_sP, mF_sP, mB_sP, mA_sP, mJ_sP, mP_sP, mO_sP, mN_sO, mK_sO, mL_sO, mF_sO, mB_sO, mA_sO, mJ_sO, mP_sO, mO_sO, up2, if_true, if_false, eq_self, ite_true, ite_false, reduceIte, Nat.add_left_cancel_iff, Nat.add_eq_left, Nat.left_eq_add, Nat.reduceEqDiff]; assumption) | (simp only [mN_sF, mK_sF, mL_sF, mF_sF, mB_sF, mA_sF, mJ_sF, mP_sF, mO_sF, mN_sB, mK_sB, mL_sB, mF_sB, mB_sB, mA_sB, mJ_sB, mP_sB, mO_sB, mN_sA, mK_sA, mL_sA, mF_sA, mB_sA, mA_sA, mJ_sA, mP_sA, mO_sA, mN_sJ, mK_sJ, mL_sJ, mF_sJ, mB_sJ, mA_sJ, mJ_sJ, mP_sJ, mO_sJ, mN_sP, mK_sP, mL_sP, mF_sP, mB_sP, mA_sP, mJ_sP, mP_sP, mO_sP, mN_sO, mK_sO, mL_sO, mF_sO, mB_sO, mA_sO, mJ_sO, mP_sO, mO_sO, up2, if_true, if_false, eq_self, ite_true, ite_false, reduceIte, Nat.add_left_cancel_iff, Nat.add_eq_left, Nat.left_eq_add, Nat.reduceEqDiff]; done)) ?_ | refine e_bald 27 rfl dX5_here_26 (by assumption) (by assumption) (by first | rfl | simp only [pk_mul, nI_add]) (by omega) (by omega) ?_ | refine e_zald 27 rfl dX5_here_26 (by assumption) (by assumption) (by first | rfl | simp only [pk_mul, nI_add]) (by omega) (by omega) ?_
    refine e_sipush (nI 255) 30 rfl dX5_here_27 sc_255 ?_
    refine e_iand 31 rfl dX5_here_30 ?_
    refine e_goto 35 (by decide) dX5_here_31 ?_
    refine e_iret dX5_here_35 rfl ?_
    have e : seeI l[p]? = sb_b l[p] &&& nI 255 := by
      rw [List.getElem?_eq_getElem h1]
      exact (sb_byte l[p] (lc _ (List.getElem_mem h1))).1.symm
    rw [← e]; exact k
/-- what kindHere answers -/
def KHere (E : En) : Prop := ∀ {μ : Mm} {K : Option Value → Mm → Prop} {a t p : Nat} {l : List Nat}, Xt μ a t l p → K (some (.int (seeI (kAt l p)))) μ → Cl E M_X5_kindHere [.ref a] μ K
/-- the fault f at p -/
def Flt (μ : Mm) (a f p : Nat) : Prop := mF μ a 3 = nI f ∧ mF μ a 4 = nI p
theorem c_stopWith {a t p f : Nat} {l : List Nat} (h : Xt μ a t l p) (k : ∀ μ', Fr (fun q => q = a) μ μ' → Flt μ' a f p → Xt μ' a t l p → K (some (.int (nI 0))) μ') : Cl E M_X5_stopWith [.ref a, .int (nI f)] μ K := by
  obtain ⟨⟨ak, a0, tk, tl⟩, a1, a2, hT, l4, lc, hp⟩ := h
  refine Cl.of0 0 pn_X5 (Nat.le_of_ble_eq_true rfl) ⟨rfl, rfl⟩ rfl ?_
  refine e_al0 1 rfl dX5_stopWith_0 ?_
  refine e_il1 2 rfl dX5_stopWith_1 ?_
  refine e_putI 5 rfl dX5_stopWith_2 f_X5_22 (by assumption) ?_
  refine e_al0 6 rfl dX5_stopWith_5 ?_
  refine e_al0 7 rfl dX5_stopWith_6 ?_
  first | refine e_getIv 10 rfl dX5_stopWith_7 f_X5_19 (by assumption) (by first | assumption | (simp only [mN_sF, mK_sF, mL_sF, mF_sF, mB_sF, mA_sF, mJ_sF, mP_sF, mO_sF, mN_sB, mK_sB, mL_sB, mF_sB, mB_sB, mA_sB, mJ_sB, mP_sB, mO_sB, mN_sA, mK_sA, mL_sA, mF_sA, mB_sA, mA_sA, mJ_sA, mP_sA, mO_sA, mN_sJ, mK_sJ, mL_sJ, mF_sJ, mB_sJ, mA_sJ, mJ_sJ, mP_sJ, mO_sJ, mN_sP, mK_sP, mL_sP, mF_sP, mB_sP, mA_sP, mJ_sP, mP_sP, mO_sP, mN_sO, mK_sO, mL_sO, mF_sO, mB_sO, mA_sO, mJ_sO, mP_sO, mO_sO, up2, if_true, if_false, eq_self, ite_true, ite_false, reduceIte, Nat.add_left_cancel_iff, Nat.add_eq_left, Nat.left_eq_add, Nat.reduceEqDiff]; assumption) | (simp only [mN_sF, mK_sF, mL_sF, mF_sF, mB_sF, mA_sF, mJ_sF, mP_sF, mO_sF, mN_sB, mK_sB, mL_sB, mF_sB, mB_sB, mA_sB, mJ_sB, mP_sB, mO_sB, mN_sA, mK_sA, mL_sA, mF_sA, mB_sA, mA_sA, mJ_sA, mP_sA, mO_sA, mN_sJ, mK_sJ, mL_sJ, mF_sJ, mB_sJ, mA_sJ, mJ_sJ, mP_sJ, mO_sJ, mN_sP, mK_sP, mL_sP, mF_sP, mB_sP, mA_sP, mJ_sP, mP_sP, mO_sP, mN_sO, mK_sO, mL_sO, mF_sO, mB_sO, mA_sO, mJ_sO, mP_sO, mO_sO, up2, if_true, if_false, eq_self, ite_true, ite_false, reduceIte, Nat.add_left_cancel_iff, Nat.add_eq_left, Nat.left_eq_add, Nat.reduceEqDiff]; done)) ?_ | refine e_getI 10 rfl dX5_stopWith_7 f_X5_19 (by assumption) ?_
  refine e_putI 13 rfl dX5_stopWith_10 f_X5_25 (by assumption) ?_
  refine e_iconst (nI 0) 14 rfl dX5_stopWith_13 ic_0 ?_
  refine e_zret dX5_stopWith_14 rfl (by first | exact z0 | exact z1 | exact bI01 _ | assumption) ?_
  exact k _ (((Fr.rf (S := fun q => q = a)).sF rfl _ _).sF rfl _ _) ⟨by simp only [mN_sF, mK_sF, mL_sF, mF_sF, mB_sF, mA_sF, mJ_sF, mP_sF, mO_sF, mN_sB, mK_sB, mL_sB, mF_sB, mB_sB, mA_sB, mJ_sB, mP_sB, mO_sB, mN_sA, mK_sA, mL_sA, mF_sA, mB_sA, mA_sA, mJ_sA, mP_sA, mO_sA, mN_sJ, mK_sJ, mL_sJ, mF_sJ, mB_sJ, mA_sJ, mJ_sJ, mP_sJ, mO_sJ, mN_sP, mK_sP, mL_sP, mF_sP, mB_sP, mA_sP, mJ_sP, mP_sP, mO_sP, mN_sO, mK_sO, mL_sO, mF_sO, mB_sO, mA_sO, mJ_sO, mP_sO, mO_sO, up2, if_true, if_false, eq_self, ite_true, ite_false, reduceIte, Nat.add_left_cancel_iff, Nat.add_eq_left, Nat.left_eq_add, Nat.reduceEqDiff], by simp only [mN_sF, mK_sF, mL_sF, mF_sF, mB_sF, mA_sF, mJ_sF, mP_sF, mO_sF, mN_sB, mK_sB, mL_sB, mF_sB, mB_sB, mA_sB, mJ_sB, mP_sB, mO_sB, mN_sA, mK_sA, mL_sA, mF_sA, mB_sA, mA_sA, mJ_sA, mP_sA, mO_sA, mN_sJ, mK_sJ, mL_sJ, mF_sJ, mB_sJ, mA_sJ, mJ_sJ, mP_sJ, mO_sJ, mN_sP, mK_sP, mL_sP, mF_sP, mB_sP, mA_sP, mJ_sP, mP_sP, mO_sP, mN_sO, mK_sO, mL_sO, mF_sO, mB_sO, mA_sO, mJ_sO, mP_sO, mO_sO, up2, if_true, if_false, eq_self, ite_true, ite_false, reduceIte, Nat.add_left_cancel_iff, Nat.add_eq_left, Nat.left_eq_add, Nat.reduceEqDiff]⟩ ⟨⟨ak, a0, tk, tl⟩, by simp only [mN_sF, mK_sF, mL_sF, mF_sF, mB_sF, mA_sF, mJ_sF, mP_sF, mO_sF, mN_sB, mK_sB, mL_sB, mF_sB, mB_sB, mA_sB, mJ_sB, mP_sB, mO_sB, mN_sA, mK_sA, mL_sA, mF_sA, mB_sA, mA_sA, mJ_sA, mP_sA, mO_sA, mN_sJ, mK_sJ, mL_sJ, mF_sJ, mB_sJ, mA_sJ, mJ_sJ, mP_sJ, mO_sJ, mN_sP, mK_sP, mL_sP, mF_sP, mB_sP, mA_sP, mJ_sP, mP_sP, mO_sP, mN_sO, mK_sO, mL_sO, mF_sO, mB_sO, mA_sO, mJ_sO, mP_sO, mO_sO, up2, if_true, if_false, eq_self, ite_true, ite_false, reduceIte, Nat.add_left_cancel_iff, Nat.add_eq_left, Nat.left_eq_add, Nat.reduceEqDiff]; exact a1, by simp only [mN_sF, mK_sF, mL_sF, mF_sF, mB_sF, mA_sF, mJ_sF, mP_sF, mO_sF, mN_sB, mK_sB, mL_sB, mF_sB, mB_sB, mA_sB, mJ_sB, mP_sB, mO_sB, mN_sA, mK_sA, mL_sA, mF_sA, mB_sA, mA_sA, mJ_sA, mP_sA, mO_sA, mN_sJ, mK_sJ, mL_sJ, mF_sJ, mB_sJ, mA_sJ, mJ_sJ, mP_sJ, mO_sJ, mN_sP, mK_sP, mL_sP, mF_sP, mB_sP, mA_sP, mJ_sP, mP_sP, mO_sP, mN_sO, mK_sO, mL_sO, mF_sO, mB_sO, mA_sO, mJ_sO, mP_sO, mO_sO, up2, if_true, if_false, eq_self, ite_true, ite_false, reduceIte, Nat.add_left_cancel_iff, Nat.add_eq_left, Nat.left_eq_add, Nat.reduceEqDiff]; exact a2, hT, l4, lc, hp⟩
theorem Xt.step {a t p p' : Nat} {l : List Nat} (h : Xt μ a t l p) (hp : p' ≤ 402) : Xt (sF μ a 2 (nI p')) a t l p' := by
  obtain ⟨⟨ak, a0, tk, tl⟩, a1, a2, hT, l4, lc, hp0⟩ := h
  exact ⟨⟨ak, a0, tk, tl⟩, by simp only [mN_sF, mK_sF, mL_sF, mF_sF, mB_sF, mA_sF, mJ_sF, mP_sF, mO_sF, mN_sB, mK_sB, mL_sB, mF_sB, mB_sB, mA_sB, mJ_sB, mP_sB, mO_sB, mN_sA, mK_sA, mL_sA, mF_sA, mB_sA, mA_sA, mJ_sA, mP_sA, mO_sA, mN_sJ, mK_sJ, mL_sJ, mF_sJ, mB_sJ, mA_sJ, mJ_sJ, mP_sJ, mO_sJ, mN_sP, mK_sP, mL_sP, mF_sP, mB_sP, mA_sP, mJ_sP, mP_sP, mO_sP, mN_sO, mK_sO, mL_sO, mF_sO, mB_sO, mA_sO, mJ_sO, mP_sO, mO_sO, up2, if_true, if_false, eq_self, ite_true, ite_false, reduceIte, Nat.add_left_cancel_iff, Nat.add_eq_left, Nat.left_eq_add, Nat.reduceEqDiff]; exact a1, by simp only [mN_sF, mK_sF, mL_sF, mF_sF, mB_sF, mA_sF, mJ_sF, mP_sF, mO_sF, mN_sB, mK_sB, mL_sB, mF_sB, mB_sB, mA_sB, mJ_sB, mP_sB, mO_sB, mN_sA, mK_sA, mL_sA, mF_sA, mB_sA, mA_sA, mJ_sA, mP_sA, mO_sA, mN_sJ, mK_sJ, mL_sJ, mF_sJ, mB_sJ, mA_sJ, mJ_sJ, mP_sJ, mO_sJ, mN_sP, mK_sP, mL_sP, mF_sP, mB_sP, mA_sP, mJ_sP, mP_sP, mO_sP, mN_sO, mK_sO, mL_sO, mF_sO, mB_sO, mA_sO, mJ_sO, mP_sO, mO_sO, up2, if_true, if_false, eq_self, ite_true, ite_false, reduceIte, Nat.add_left_cancel_iff, Nat.add_eq_left, Nat.left_eq_add, Nat.reduceEqDiff], hT, l4, lc, hp⟩
theorem c_pass {a t p d : Nat} {l : List Nat} (h : Xt μ a t l p) (hd : d < 256) (hpl : p ≤ 401)
    (kt : l[p]? = some d → ∀ μ', Fr (fun q => q = a) μ μ' → mF μ' a 3 = mF μ a 3 → mF μ' a 4 = mF μ a 4 → Xt μ' a t l (p + 1) → K (some (.int (nI 1))) μ') (kf : l[p]? ≠ some d → ∀ μ', Fr (fun q => q = a) μ μ' → Flt μ' a 1 p → Xt μ' a t l p → K (some (.int (nI 0))) μ') : Cl E M_X5_pass [.ref a, .int (nI d)] μ K := by
  have hlt := h.lt
  have ak := h.1.1
  have a2 := h.2.2.1
  refine Cl.of0 0 pn_X5 (Nat.le_of_ble_eq_true rfl) ⟨rfl, rfl⟩ rfl ?_
  refine e_al0 1 rfl dX5_pass_0 ?_
  refine e_invV0 [] 4 rfl dX5_pass_1 k_X5_71 mo_X5_here rm_X5_pass_X5_here ⟨rfl, rfl⟩ rfl rfl (by assumption) (Nat.le_of_ble_eq_true rfl) ?_
  refine c_here h ?_
  refine e_il1 5 rfl dX5_pass_4 ?_
  refine e_cmp_eq 14 8 (by decide) rfl dX5_pass_5 (fun h1 => ?_) (fun h1 => ?_)
  · have e := (seeI_eq (fun c hc => hlt p c hc) hd).mp h1
    refine e_al0 15 rfl dX5_pass_14 ?_
    refine e_dup 16 rfl dX5_pass_15 rfl ?_
    first | refine e_getIv 19 rfl dX5_pass_16 f_X5_19 (by assumption) (by first | assumption | (simp only [mN_sF, mK_sF, mL_sF, mF_sF, mB_sF, mA_sF, mJ_sF, mP_sF, mO_sF, mN_sB, mK_sB, mL_sB, mF_sB, mB_sB, mA_sB, mJ_sB, mP_sB, mO_sB, mN_sA, mK_sA, mL_sA, mF_sA, mB_sA, mA_sA, mJ_sA, mP_sA, mO_sA, mN_sJ, mK_sJ, mL_sJ, mF_sJ, mB_sJ, mA_sJ, mJ_sJ, mP_sJ, mO_sJ, mN_sP, mK_sP, mL_sP, mF_sP, mB_sP, mA_sP, mJ_sP, mP_sP, mO_sP, mN_sO, mK_sO, mL_sO, mF_sO, mB_sO, mA_sO, mJ_sO, mP_sO, mO_sO, up2, if_true, if_false, eq_self, ite_true, ite_false, reduceIte, Nat.add_left_cancel_iff, Nat.add_eq_left, Nat.left_eq_add, Nat.reduceEqDiff]; assumption) | (simp only [mN_sF, mK_sF, mL_sF, mF_sF, mB_sF, mA_sF, mJ_sF, mP_sF, mO_sF, mN_sB, mK_sB, mL_sB, mF_sB, mB_sB, mA_sB, mJ_sB, mP_sB, mO_sB, mN_sA, mK_sA, mL_sA, mF_sA, mB_sA, mA_sA, mJ_sA, mP_sA, mO_sA, mN_sJ, mK_sJ, mL_sJ, mF_sJ, mB_sJ, mA_sJ, mJ_sJ, mP_sJ, mO_sJ, mN_sP, mK_sP, mL_sP, mF_sP, mB_sP, mA_sP, mJ_sP, mP_sP, mO_sP, mN_sO, mK_sO, mL_sO, mF_sO, mB_sO, mA_sO, mJ_sO, mP_sO, mO_sO, up2, if_true, if_false, eq_self, ite_true, ite_false, reduceIte, Nat.add_left_cancel_iff, Nat.add_eq_left, Nat.left_eq_add, Nat.reduceEqDiff]; done)) ?_ | refine e_getI 19 rfl dX5_pass_16 f_X5_19 (by assumption) ?_
    refine e_iconst (nI 1) 20 rfl dX5_pass_19 ic_1 ?_
    first | refine e_iaddN 21 rfl dX5_pass_20 rfl rfl ?_ | refine e_iadd 21 rfl dX5_pass_20 ?_
    refine e_putI 24 rfl dX5_pass_21 f_X5_19 (by assumption) ?_
    refine e_iconst (nI 1) 25 rfl dX5_pass_24 ic_1 ?_
    refine e_zret dX5_pass_25 rfl (by first | exact z0 | exact z1 | exact bI01 _ | assumption) ?_
    exact kt e _ ((Fr.rf (S := fun q => q = a)).sF rfl _ _) (by simp only [mN_sF, mK_sF, mL_sF, mF_sF, mB_sF, mA_sF, mJ_sF, mP_sF, mO_sF, mN_sB, mK_sB, mL_sB, mF_sB, mB_sB, mA_sB, mJ_sB, mP_sB, mO_sB, mN_sA, mK_sA, mL_sA, mF_sA, mB_sA, mA_sA, mJ_sA, mP_sA, mO_sA, mN_sJ, mK_sJ, mL_sJ, mF_sJ, mB_sJ, mA_sJ, mJ_sJ, mP_sJ, mO_sJ, mN_sP, mK_sP, mL_sP, mF_sP, mB_sP, mA_sP, mJ_sP, mP_sP, mO_sP, mN_sO, mK_sO, mL_sO, mF_sO, mB_sO, mA_sO, mJ_sO, mP_sO, mO_sO, up2, if_true, if_false, eq_self, ite_true, ite_false, reduceIte, Nat.add_left_cancel_iff, Nat.add_eq_left, Nat.left_eq_add, Nat.reduceEqDiff]) (by simp only [mN_sF, mK_sF, mL_sF, mF_sF, mB_sF, mA_sF, mJ_sF, mP_sF, mO_sF, mN_sB, mK_sB, mL_sB, mF_sB, mB_sB, mA_sB, mJ_sB, mP_sB, mO_sB, mN_sA, mK_sA, mL_sA, mF_sA, mB_sA, mA_sA, mJ_sA, mP_sA, mO_sA, mN_sJ, mK_sJ, mL_sJ, mF_sJ, mB_sJ, mA_sJ, mJ_sJ, mP_sJ, mO_sJ, mN_sP, mK_sP, mL_sP, mF_sP, mB_sP, mA_sP, mJ_sP, mP_sP, mO_sP, mN_sO, mK_sO, mL_sO, mF_sO, mB_sO, mA_sO, mJ_sO, mP_sO, mO_sO, up2, if_true, if_false, eq_self, ite_true, ite_false, reduceIte, Nat.add_left_cancel_iff, Nat.add_eq_left, Nat.left_eq_add, Nat.reduceEqDiff]) (h.step (by omega))
  · have e : l[p]? ≠ some d := fun q => h1 ((seeI_eq (fun c hc => hlt p c hc) hd).mpr q)
    refine e_al0 9 rfl dX5_pass_8 ?_
    refine e_iconst (nI 1) 10 rfl dX5_pass_9 ic_1 ?_
    refine e_invV0 [_] 13 rfl dX5_pass_10 k_X5_64 mo_X5_stopWith rm_X5_pass_X5_stopWith ⟨rfl, rfl⟩ rfl rfl (by assumption) (Nat.le_of_ble_eq_true rfl) ?_
    refine c_stopWith h (fun μ' hF hf hX => ?_)
    refine e_zret dX5_pass_13 rfl (by first | exact z0 | exact z1 | exact bI01 _ | assumption) ?_
    exact kf e μ' hF hf hX
theorem Xt.fr {S : Nat → Prop} {μ' : Mm} {a t p : Nat} {l : List Nat} (h : Xt μ a t l p) (f : Fr S μ μ') (h0 : ¬ S a) (h1 : ¬ S t) : Xt μ' a t l p := by
  unfold Xt
  rw [f.2.1, f.2.2.1, f.2.2.2.1, (f.2.2.2.2.2 a h0).1, (f.2.2.2.2.2 t h1).2.1]
  exact h
/-- the slots of a text -/
def pSl (l : List Nat) : Nat → Nat → List Slot0 → (Nat × Nat) ⊕ (Nat × List Slot0)
  | f, p, acc => match kAt l p with
    | none => if acc ≠ [] ∧ l[p]? = some 59 then .inr (p + 1, acc) else .inl (1, p)
    | some k => match f with
      | 0 => .inl (2, p)
      | f + 1 => pSl l f (p + 1 + (if howOf l[p + 1]? = 0 then 0 else 1)) (acc ++ [(k, howOf l[p + 1]?)])
theorem pSl_eq (l : List Nat) (f p : Nat) (acc : List Slot0) : pSl l f p acc = match kAt l p with
    | none => if acc ≠ [] ∧ l[p]? = some 59 then .inr (p + 1, acc) else .inl (1, p)
    | some k => match f with
      | 0 => .inl (2, p)
      | f + 1 => pSl l f (p + 1 + (if howOf l[p + 1]? = 0 then 0 else 1)) (acc ++ [(k, howOf l[p + 1]?)]) := by
  cases f <;> rw [pSl]
def rS (a s : Nat) : Nat → Prop := fun q => q = a ∨ q = s ∨ q = s + 1 ∨ q = s + 2 ∨ q = s + 3
theorem seeI_m1 {o : Option Nat} (ho : ∀ c, o = some c → c < 256) : seeI o = -1 ↔ o = none := by
  cases o with
  | none => exact ⟨fun _ => rfl, fun _ => rfl⟩
  | some c =>
    have := ho c rfl
    constructor
    · intro h
      have e : (nI c).toInt = -1 := by rw [show nI c = -1 from h]; rfl
      rw [nI_toInt (by omega)] at e
      omega
    · intro h; cases h
theorem Ss.push {s : Nat} {sl : List Slot0} {x : Slot0} (h : Ss μ s sl) (hn : sl.length < 8) (h1 : x.1 < 7) (h2 : x.2 < 4) {μ' : Mm} (e0 : mF μ' s 0 = nI (sl.length + 1)) (e1 : mA μ' (s + 1) = upd (mA μ (s + 1)) sl.length (nI x.1)) (e2 : mB μ' (s + 2) = upd (mB μ (s + 2)) sl.length (bI (skp x.2))) (e3 : mB μ' (s + 3) = upd (mB μ (s + 3)) sl.length (bI (rpt x.2))) : Ss μ' s (sl ++ [x]) := by
  refine ⟨by rw [e0]; simp, by simp; omega, fun i y hy => ?_⟩
  rcases Nat.lt_trichotomy i sl.length with q | q | q
  · rw [List.getElem?_append_left q] at hy
    rw [e1, e2, e3, pk_un (by omega), pk_un (by omega), pk_un (by omega)]
    exact h.2.2 i y hy
  · subst q
    simp at hy
    subst hy
    rw [e1, e2, e3, pk_us, pk_us, pk_us]
    exact ⟨rfl, rfl, rfl, h1, h2⟩
  · rw [List.getElem?_append_right (by omega)] at hy
    have : i - sl.length < 1 := (List.getElem?_eq_some_iff.mp hy).1
    omega
end TEXT
