/-! NameDesk$Book -/
section BOOK
variable {E : En} {μ : Mm} {K : Option Value → Mm → Prop}
/-- nothing has changed but in rows of S -/
def Fx (S : Nat → Prop) (μ μ' : Mm) : Prop := mN μ' = mN μ ∧ mK μ' = mK μ ∧ mL μ' = mL μ ∧ ∀ b, ¬ S b → mF μ' b = mF μ b ∧ mB μ' b = mB μ b ∧ mA μ' b = mA μ b ∧ mJ μ' b = mJ μ b ∧ mP μ' b = mP μ b ∧ mO μ' b = mO μ b
theorem Fr.fx {S : Nat → Prop} {μ μ' : Mm} (h : Fr S μ μ') : Fx S μ μ' := ⟨h.1, h.2.1, h.2.2.1, fun b hb => ⟨(h.2.2.2.2.2 b hb).1, (h.2.2.2.2.2 b hb).2.1, (h.2.2.2.2.2 b hb).2.2.1, (h.2.2.2.2.2 b hb).2.2.2, by rw [h.2.2.2.1], by rw [h.2.2.2.2.1]⟩⟩
theorem Fx.rf {S : Nat → Prop} {μ : Mm} : Fx S μ μ := Fr.rf.fx
theorem Fx.trans {S : Nat → Prop} {μ μ' μ'' : Mm} (h : Fx S μ μ') (h' : Fx S μ' μ'') : Fx S μ μ'' :=
  ⟨h'.1.trans h.1, h'.2.1.trans h.2.1, h'.2.2.1.trans h.2.2.1, fun b hb => ⟨(h'.2.2.2 b hb).1.trans (h.2.2.2 b hb).1, (h'.2.2.2 b hb).2.1.trans (h.2.2.2 b hb).2.1, (h'.2.2.2 b hb).2.2.1.trans (h.2.2.2 b hb).2.2.1, (h'.2.2.2 b hb).2.2.2.1.trans (h.2.2.2 b hb).2.2.2.1, (h'.2.2.2 b hb).2.2.2.2.1.trans (h.2.2.2 b hb).2.2.2.2.1, (h'.2.2.2 b hb).2.2.2.2.2.trans (h.2.2.2 b hb).2.2.2.2.2⟩⟩
theorem Fx.mono {S S' : Nat → Prop} {μ μ' : Mm} (hS : ∀ b, S b → S' b) (h : Fx S μ μ') : Fx S' μ μ' := ⟨h.1, h.2.1, h.2.2.1, fun b hb => h.2.2.2 b (fun q => hb (hS b q))⟩
theorem Fx.sO {S : Nat → Prop} {μ μ' : Mm} (h : Fx S μ μ') {a : Nat} (ha : S a) (k : Nat) (v : Option Nat) : Fx S μ (sO μ' a k v) := h.trans ⟨rfl, rfl, rfl, fun _ hb => ⟨rfl, rfl, rfl, rfl, rfl, up2_a (ne_of_S ha hb)⟩⟩
theorem Fx.sP {S : Nat → Prop} {μ μ' : Mm} (h : Fx S μ μ') {a : Nat} (ha : S a) (k : Nat) (v : Option Nat) : Fx S μ (sP μ' a k v) := h.trans ⟨rfl, rfl, rfl, fun _ hb => ⟨rfl, rfl, rfl, rfl, up2_a (ne_of_S ha hb), rfl⟩⟩
theorem Fx.sA {S : Nat → Prop} {μ μ' : Mm} (h : Fx S μ μ') {a : Nat} (ha : S a) (k : Nat) (v : Int32) : Fx S μ (sA μ' a k v) := h.trans (Fr.rf.sA ha k v).fx
theorem Fx.sF {S : Nat → Prop} {μ μ' : Mm} (h : Fx S μ μ') {a : Nat} (ha : S a) (k : Nat) (v : Int32) : Fx S μ (sF μ' a k v) := h.trans (Fr.rf.sF ha k v).fx
theorem Wd.fx {S : Nat → Prop} {μ' : Mm} {a : Nat} (h : Wd μ a) (f : Fx S μ μ') (h1 : ¬ S a) : Wd μ' a := by
  unfold Wd
  rw [f.2.1, f.2.2.1, (f.2.2.2 a h1).2.2.2.2.1]
  exact h
theorem Wl.fx {S : Nat → Prop} {μ' : Mm} {a : Nat} {l : List Nat} (h : Wl μ a l) (f : Fx S μ μ') (h1 : ¬ S a) (h2 : ¬ S (a + 2)) : Wl μ' a l := by
  unfold Wl
  rw [(f.2.2.2 a h1).1, (f.2.2.2 (a + 2) h2).2.1]
  exact h
/-- the book at b -/
def Bk (μ : Mm) (b : Nat) : Prop := (mK μ b = 1 ∧ mP μ b 0 = some (b + 1) ∧ mP μ b 1 = some (b + 2) ∧ mP μ b 2 = some (b + 3) ∧ mK μ (b + 1) = 18 ∧ mL μ (b + 1) = 80 ∧ mK μ (b + 2) = 13 ∧ mL μ (b + 2) = 80 ∧ mK μ (b + 3) = 13 ∧ mL μ (b + 3) = 80) ∧ ∀ j, j < 80 → Wd μ (b + 4 + 3 * j)
abbrev Ent : Type := Nat × Nat × List Nat
def Bc (μ : Mm) (b : Nat) (es : List Ent) : Prop := mF μ b 3 = nI es.length ∧ es.length ≤ 80 ∧ ∃ π : Nat → Nat, (∀ i, i < 80 → π i < 80 ∧ mO μ (b + 1) i = some (b + 4 + 3 * π i)) ∧ (∀ i j, i < 80 → j < 80 → π i = π j → i = j) ∧ ∀ i e, es[i]? = some e → mA μ (b + 2) i = nI e.1 ∧ mA μ (b + 3) i = nI e.2.1 ∧ Wl μ (b + 4 + 3 * π i) e.2.2 ∧ e.1 < 6 ∧ e.2.1 < 5
theorem Bk.fr {S : Nat → Prop} {μ' : Mm} {b : Nat} (h : Bk μ b) (f : Fr S μ μ') : Bk μ' b := by
  refine ⟨?_, fun j hj => (h.2 j hj).fr f⟩
  rw [f.2.1, f.2.2.1, f.2.2.2.1]
  exact h.1
theorem Bk.fx {S : Nat → Prop} {μ' : Mm} {b : Nat} (h : Bk μ b) (f : Fx S μ μ') (hS : ∀ q, b ≤ q → q < b + 244 → ¬ S q) : Bk μ' b := by
  refine ⟨?_, fun j hj => (h.2 j hj).fx f (hS _ (by omega) (by omega))⟩
  rw [f.2.1, f.2.2.1, (f.2.2.2 b (hS b (by omega) (by omega))).2.2.2.2.1]
  exact h.1
theorem Bc.fx {S : Nat → Prop} {μ' : Mm} {b : Nat} {es : List Ent} (h : Bc μ b es) (f : Fx S μ μ') (hS : ∀ q, b ≤ q → q < b + 244 → ¬ S q) : Bc μ' b es := by
  obtain ⟨h1, h2, π, h3, h4, h5⟩ := h
  refine ⟨by rw [(f.2.2.2 b (hS b (by omega) (by omega))).1]; exact h1, h2, π, fun i hi => ⟨(h3 i hi).1, by rw [(f.2.2.2 (b + 1) (hS _ (by omega) (by omega))).2.2.2.2.2]; exact (h3 i hi).2⟩, h4, fun i e he => ?_⟩
  obtain ⟨q1, q2, q3, q4⟩ := h5 i e he
  have hi : i < 80 := by have := (List.getElem?_eq_some_iff.mp he).1; omega
  have hπ := (h3 i hi).1
  exact ⟨by rw [(f.2.2.2 (b + 2) (hS _ (by omega) (by omega))).2.2.1]; exact q1, by rw [(f.2.2.2 (b + 3) (hS _ (by omega) (by omega))).2.2.1]; exact q2, q3.fx f (hS _ (by omega) (by omega)) (hS _ (by omega) (by omega)), q4⟩
/-- find(land, kind, word) -/
def fndL (es : List Ent) (e : Ent) : Option Nat := es.findIdx? (fun x => decide (x = e))
theorem c_find {b o ld kd : Nat} {es : List Ent} {lw : List Nat} (hb : Bk μ b) (hc : Bc μ b es) (ho : Wd μ o) (hol : Wl μ o lw) (hld : ld < 6) (hkd : kd < 5)
    (kn : (ld, kd, lw) ∉ es → K (some (.int (-1))) μ) (ks : ∀ i, es[i]? = some (ld, kd, lw) → (∀ j, j < i → es[j]? ≠ some (ld, kd, lw)) → K (some (.int (nI i))) μ) : Cl E M_X0_find [.ref b, .int (nI ld), .int (nI kd), .ref o] μ K := by
  obtain ⟨⟨bk, b0, b1, b2, bk1, bl1, bk2, bl2, bk3, bl3⟩, hW⟩ := hb
  obtain ⟨h1, h2, π, h3, h4, h5⟩ := hc
  have hko := ho.1
  refine Cl.of0 1 pn_X0 (Nat.le_of_ble_eq_true rfl) ⟨rfl, rfl⟩ rfl ?_
  refine e_iconst (nI 0) 1 rfl dX0_find_0 ic_0 ?_
  refine e_is4 3 rfl dX0_find_1 (by decide) rfl ?_
  have loop : ∀ (fu i : Nat), i + fu = es.length → (∀ j, j < i → es[j]? ≠ some (ld, kd, lw)) → Ev E M_X0_find 0 0 3 [some (.ref b), some (.int (nI ld)), some (.int (nI kd)), some (.ref o), some (.int (nI i))] [] μ K := by
    intro fu
    induction fu with
    | zero =>
      intro i hi hno
      refine e_il4 5 rfl dX0_find_3 ?_
      refine e_al0 6 rfl dX0_find_5 ?_
      first | refine e_getIv 9 rfl dX0_find_6 f_X0_24 (by assumption) (by first | assumption | (simp only [mN_sF, mK_sF, mL_sF, mF_sF, mB_sF, mA_sF, mJ_sF, mP_sF, mO_sF, mN_sB, mK_sB, mL_sB, mF_sB, mB_sB, mA_sB, mJ_sB, mP_sB, mO_sB, mN_sA, mK_sA, mL_sA, mF_sA, mB_sA, mA_sA, mJ_sA, mP_sA, mO_sA, mN_sJ, mK_sJ, mL_sJ, mF_sJ, mB_sJ, mA_sJ, mJ_sJ, mP_sJ, mO_sJ, mN_sP, mK_sP, mL_sP, mF_sP, mB_sP, mA_sP, mJ_sP, mP_sP, mO_sP, mN_sO, mK_sO, mL_sO, mF_sO, mB_sO, mA_sO, mJ_sO, mP_sO, mO_sO, up2, if_true, if_false, eq_self, ite_true, ite_false, reduceIte, Nat.add_left_cancel_iff, Nat.add_eq_left, Nat.left_eq_add, Nat.reduceEqDiff]; assumption) | (simp only [mN_sF, mK_sF, mL_sF, mF_sF, mB_sF, mA_sF, mJ_sF, mP_sF, mO_sF, mN_sB, mK_sB, mL_sB, mF_sB, mB_sB, mA_sB, mJ_sB, mP_sB, mO_sB, mN_sA, mK_sA, mL_sA, mF_sA, mB_sA, mA_sA, mJ_sA, mP_sA, mO_sA, mN_sJ, mK_sJ, mL_sJ, mF_sJ, mB_sJ, mA_sJ, mJ_sJ, mP_sJ, mO_sJ, mN_sP, mK_sP, mL_sP, mF_sP, mB_sP, mA_sP, mJ_sP, mP_sP, mO_sP, mN_sO, mK_sO, mL_sO, mF_sO, mB_sO, mA_sO, mJ_sO, mP_sO, mO_sO, up2, if_true, if_false, eq_self, ite_true, ite_false, reduceIte, Nat.add_left_cancel_iff, Nat.add_eq_left, Nat.left_eq_add, Nat.reduceEqDiff]; done)) ?_ | refine e_getI 9 rfl dX0_find_6 f_X0_24 (by assumption) ?_
      first | refine e_cmp_geN 57 12 (by decide) rfl dX0_find_9 rfl rfl (by omega) (by omega) (fun g1 => ?_) (fun g1 => ?_) | refine e_cmp_ge 57 12 (by decide) rfl dX0_find_9 (fun g1 => ?_) (fun g1 => ?_)
      · refine e_iconst (-1) 58 rfl dX0_find_57 ic_m1 ?_
        refine e_iret dX0_find_58 rfl ?_
        refine kn (fun q => ?_)
        obtain ⟨j, hj⟩ := List.getElem?_of_mem q
        exact hno j (by have := (List.getElem?_eq_some_iff.mp hj).1; omega) hj
      · omega
    | succ fu ih =>
      intro i hi hno
      have hil : i < es.length := by omega
      obtain ⟨q1, q2, q3, q4, q5⟩ := h5 i es[i] (List.getElem?_eq_getElem hil)
      obtain ⟨p1, p2⟩ := h3 i (by omega)
      have hkw := (hW (π i) p1).1
      have next : es[i]? ≠ some (ld, kd, lw) → Ev E M_X0_find 0 0 51 [some (.ref b), some (.int (nI ld)), some (.int (nI kd)), some (.ref o), some (.int (nI i))] [] μ K := by
        intro hne
        refine e_ii4 (nI (_ + 1)) 54 rfl dX0_find_51 (ii1 _) rfl ?_
        refine e_goto 3 (by decide) dX0_find_54 ?_
        refine ih (i + 1) (by omega) (fun j hj => ?_)
        by_cases e : j = i
        · subst e; exact hne
        · exact hno j (by omega)
      have eqe : es[i]? = some (ld, kd, lw) ↔ es[i].1 = ld ∧ es[i].2.1 = kd ∧ es[i].2.2 = lw := by
        rw [List.getElem?_eq_getElem hil]
        constructor
        · intro q; have := Option.some.inj q; rw [this]; exact ⟨rfl, rfl, rfl⟩
        · rintro ⟨e1, e2, e3⟩; rw [← e1, ← e2, ← e3]
      refine e_il4 5 rfl dX0_find_3 ?_
      refine e_al0 6 rfl dX0_find_5 ?_
      first | refine e_getIv 9 rfl dX0_find_6 f_X0_24 (by assumption) (by first | assumption | (simp only [mN_sF, mK_sF, mL_sF, mF_sF, mB_sF, mA_sF, mJ_sF, mP_sF, mO_sF, mN_sB, mK_sB, mL_sB, mF_sB, mB_sB, mA_sB, mJ_sB, mP_sB, mO_sB, mN_sA, mK_sA, mL_sA, mF_sA, mB_sA, mA_sA, mJ_sA, mP_sA, mO_sA, mN_sJ, mK_sJ, mL_sJ, mF_sJ, mB_sJ, mA_sJ, mJ_sJ, mP_sJ, mO_sJ, mN_sP, mK_sP, mL_sP, mF_sP, mB_sP, mA_sP, mJ_sP, mP_sP, mO_sP, mN_sO, mK_sO, mL_sO, mF_sO, mB_sO, mA_sO, mJ_sO, mP_sO, mO_sO, up2, if_true, if_false, eq_self, ite_true, ite_false, reduceIte, Nat.add_left_cancel_iff, Nat.add_eq_left, Nat.left_eq_add, Nat.reduceEqDiff]; assumption) | (simp only [mN_sF, mK_sF, mL_sF, mF_sF, mB_sF, mA_sF, mJ_sF, mP_sF, mO_sF, mN_sB, mK_sB, mL_sB, mF_sB, mB_sB, mA_sB, mJ_sB, mP_sB, mO_sB, mN_sA, mK_sA, mL_sA, mF_sA, mB_sA, mA_sA, mJ_sA, mP_sA, mO_sA, mN_sJ, mK_sJ, mL_sJ, mF_sJ, mB_sJ, mA_sJ, mJ_sJ, mP_sJ, mO_sJ, mN_sP, mK_sP, mL_sP, mF_sP, mB_sP, mA_sP, mJ_sP, mP_sP, mO_sP, mN_sO, mK_sO, mL_sO, mF_sO, mB_sO, mA_sO, mJ_sO, mP_sO, mO_sO, up2, if_true, if_false, eq_self, ite_true, ite_false, reduceIte, Nat.add_left_cancel_iff, Nat.add_eq_left, Nat.left_eq_add, Nat.reduceEqDiff]; done)) ?_ | refine e_getI 9 rfl dX0_find_6 f_X0_24 (by assumption) ?_
      first | refine e_cmp_geN 57 12 (by decide) rfl dX0_find_9 rfl rfl (by omega) (by omega) (fun g1 => ?_) (fun g1 => ?_) | refine e_cmp_ge 57 12 (by decide) rfl dX0_find_9 (fun g1 => ?_) (fun g1 => ?_)
      · omega
      refine e_al0 13 rfl dX0_find_12 ?_
      refine e_getR 16 rfl dX0_find_13 f_X0_17 (by assumption) (by assumption) ?_
      refine e_il4 18 rfl dX0_find_16 ?_
      first | refine e_ialdv 19 rfl dX0_find_18 (by assumption) (by assumption) (by first | rfl | simp only [pk_mul, nI_add]) (by omega) (by omega) (by first | assumption | (simp only [mN_sF, mK_sF, mL_sF, mF_sF, mB_sF, mA_sF, mJ_sF, mP_sF, mO_sF, mN_sB, mK_sB, mL_sB, mF_sB, mB_sB, mA_sB, mJ_sB, mP_sB, mO_sB, mN_sA, mK_sA, mL_sA, mF_sA, mB_sA, mA_sA, mJ_sA, mP_sA, mO_sA, mN_sJ, mK_sJ, mL_sJ, mF_sJ, mB_sJ, mA_sJ, mJ_sJ, mP_sJ, mO_sJ, mN_sP, mK_sP, mL_sP, mF_sP, mB_sP, mA_sP, mJ_sP, mP_sP, mO_sP, mN_sO, mK_sO, mL_sO, mF_sO, mB_sO, mA_sO, mJ_sO, mP_sO, mO_sO, up2, if_true, if_false, eq_self, ite_true, ite_false, reduceIte, Nat.add_left_cancel_iff, Nat.add_eq_left, Nat.left_eq_add, Nat.reduceEqDiff]; assumption) | (simp only [mN_sF, mK_sF, mL_sF, mF_sF, mB_sF, mA_sF, mJ_sF, mP_sF, mO_sF, mN_sB, mK_sB, mL_sB, mF_sB, mB_sB, mA_sB, mJ_sB, mP_sB, mO_sB, mN_sA, mK_sA, mL_sA, mF_sA, mB_sA, mA_sA, mJ_sA, mP_sA, mO_sA, mN_sJ, mK_sJ, mL_sJ, mF_sJ, mB_sJ, mA_sJ, mJ_sJ, mP_sJ, mO_sJ, mN_sP, mK_sP, mL_sP, mF_sP, mB_sP, mA_sP, mJ_sP, mP_sP, mO_sP, mN_sO, mK_sO, mL_sO, mF_sO, mB_sO, mA_sO, mJ_sO, mP_sO, mO_sO, up2, if_true, if_false, eq_self, ite_true, ite_false, reduceIte, Nat.add_left_cancel_iff, Nat.add_eq_left, Nat.left_eq_add, Nat.reduceEqDiff]; done)) ?_ | refine e_iald 19 rfl dX0_find_18 (by assumption) (by assumption) (by first | rfl | simp only [pk_mul, nI_add]) (by omega) (by omega) ?_
      refine e_il1 20 rfl dX0_find_19 ?_
      first | refine e_cmp_neN 51 23 (by decide) rfl dX0_find_20 rfl rfl (by omega) (by omega) (fun g2 => ?_) (fun g2 => ?_) | refine e_cmp_ne 51 23 (by decide) rfl dX0_find_20 (fun g2 => ?_) (fun g2 => ?_)
      · exact next (fun q => g2 (eqe.mp q).1)
      refine e_al0 24 rfl dX0_find_23 ?_
      refine e_getR 27 rfl dX0_find_24 f_X0_21 (by assumption) (by assumption) ?_
      refine e_il4 29 rfl dX0_find_27 ?_
      first | refine e_ialdv 30 rfl dX0_find_29 (by assumption) (by assumption) (by first | rfl | simp only [pk_mul, nI_add]) (by omega) (by omega) (by first | assumption | (simp only [mN_sF, mK_sF, mL_sF, mF_sF, mB_sF, mA_sF, mJ_sF, mP_sF, mO_sF, mN_sB, mK_sB, mL_sB, mF_sB, mB_sB, mA_sB, mJ_sB, mP_sB, mO_sB, mN_sA, mK_sA, mL_sA, mF_sA, mB_sA, mA_sA, mJ_sA, mP_sA, mO_sA, mN_sJ, mK_sJ, mL_sJ, mF_sJ, mB_sJ, mA_sJ, mJ_sJ, mP_sJ, mO_sJ, mN_sP, mK_sP, mL_sP, mF_sP, mB_sP, mA_sP, mJ_sP, mP_sP, mO_sP, mN_sO, mK_sO, mL_sO, mF_sO, mB_sO, mA_sO, mJ_sO, mP_sO, mO_sO, up2, if_true, if_false, eq_self, ite_true, ite_false, reduceIte, Nat.add_left_cancel_iff, Nat.add_eq_left, Nat.left_eq_add, Nat.reduceEqDiff]; assumption) | (simp only [mN_sF, mK_sF, mL_sF, mF_sF, mB_sF, mA_sF, mJ_sF, mP_sF, mO_sF, mN_sB, mK_sB, mL_sB, mF_sB, mB_sB, mA_sB, mJ_sB, mP_sB, mO_sB, mN_sA, mK_sA, mL_sA, mF_sA, mB_sA, mA_sA, mJ_sA, mP_sA, mO_sA, mN_sJ, mK_sJ, mL_sJ, mF_sJ, mB_sJ, mA_sJ, mJ_sJ, mP_sJ, mO_sJ, mN_sP, mK_sP, mL_sP, mF_sP, mB_sP, mA_sP, mJ_sP, mP_sP, mO_sP, mN_sO, mK_sO, mL_sO, mF_sO, mB_sO, mA_sO, mJ_sO, mP_sO, mO_sO, up2, if_true, if_false, eq_self, ite_true, ite_false, reduceIte, Nat.add_left_cancel_iff, Nat.add_eq_left, Nat.left_eq_add, Nat.reduceEqDiff]; done)) ?_ | refine e_iald 30 rfl dX0_find_29 (by assumption) (by assumption) (by first | rfl | simp only [pk_mul, nI_add]) (by omega) (by omega) ?_
      refine e_il2 31 rfl dX0_find_30 ?_
      first | refine e_cmp_neN 51 34 (by decide) rfl dX0_find_31 rfl rfl (by omega) (by omega) (fun g3 => ?_) (fun g3 => ?_) | refine e_cmp_ne 51 34 (by decide) rfl dX0_find_31 (fun g3 => ?_) (fun g3 => ?_)
      · exact next (fun q => g3 (eqe.mp q).2.1)
      refine e_al0 35 rfl dX0_find_34 ?_
      refine e_getR 38 rfl dX0_find_35 f_X0_11 (by assumption) (by assumption) ?_
      refine e_il4 40 rfl dX0_find_38 ?_
      refine e_aald 41 rfl dX0_find_40 (by assumption) (by decide) (by assumption) (by first | rfl | simp only [pk_mul, nI_add]) (by omega) (by omega) (by assumption) ?_
      refine e_al3 42 rfl dX0_find_41 ?_
      refine e_invV0 [_] 45 rfl dX0_find_42 k_X0_29 mo_X8_alike rm_X0_find_X8_alike ⟨rfl, rfl⟩ rfl rfl (by assumption) (Nat.le_of_ble_eq_true rfl) ?_
      refine c_alike (hW (π i) p1) ho q3 hol ?_
      first | refine e_if_eqB 51 48 (by decide) rfl dX0_find_45 rfl (fun g4 => ?_) (fun g4 => ?_) | refine e_if_eqN 51 48 (by decide) rfl dX0_find_45 rfl (by omega) (fun g4 => ?_) (fun g4 => ?_) | refine e_if_eq 51 48 (by decide) rfl dX0_find_45 (fun g4 => ?_) (fun g4 => ?_)
      · exact next (fun q => by simp [(eqe.mp q).2.2] at g4)
      · refine e_il4 50 rfl dX0_find_48 ?_
        refine e_iret dX0_find_50 rfl ?_
        exact ks i (eqe.mpr ⟨g2, g3, of_decide_eq_true g4⟩) hno
  exact loop es.length 0 (by omega) (fun j hj => by omega)
/-- kindsOf(land, word, many): which kinds the land has the word's first letters as -/
theorem or_bit (v k : Nat) (hk : k < 5) (hv : v < 32) : nI v ||| nI 1 <<< (nI k &&& 31) = nI (v ||| 2 ^ k) := by
  have key : ∀ k, k < 5 → ∀ v, v < 32 → nI v ||| nI 1 <<< (nI k &&& 31) = nI (v ||| 2 ^ k) := by decide +kernel
  exact key k hk v hv
theorem c_kindsOf {b o ld m : Nat} {es : List Ent} {lw : List Nat} (hb : Bk μ b) (hc : Bc μ b es) (ho : Wd μ o) (hol : Wl μ o lw) (hld : ld < 6) (hm : m ≤ lw.length)
    (k : ∀ v, v < 32 → (∀ q, v.testBit q = true ↔ q < 5 ∧ (ld, q, lw.take m) ∈ es) → K (some (.int (nI v))) μ) : Cl E M_X0_kindsOf [.ref b, .int (nI ld), .ref o, .int (nI m)] μ K := by
  obtain ⟨⟨bk, b0, b1, b2, bk1, bl1, bk2, bl2, bk3, bl3⟩, hW⟩ := hb
  obtain ⟨h1, h2, π, h3, h4, h5⟩ := hc
  have hko := ho.1
  have hl20 := hol.2.2.1
  refine Cl.of0 2 pn_X0 (Nat.le_of_ble_eq_true rfl) ⟨rfl, rfl⟩ rfl ?_
  refine e_iconst (nI 0) 1 rfl dX0_kindsOf_0 ic_0 ?_
  refine e_is4 3 rfl dX0_kindsOf_1 (by decide) rfl ?_
  refine e_iconst (nI 0) 4 rfl dX0_kindsOf_3 ic_0 ?_
  refine e_is5 6 rfl dX0_kindsOf_4 (by decide) rfl ?_
  have loop : ∀ (fu i v : Nat), i + fu = es.length → v < 32 → (∀ q, v.testBit q = true ↔ q < 5 ∧ (ld, q, lw.take m) ∈ es.take i) → Ev E M_X0_kindsOf 0 0 6 [some (.ref b), some (.int (nI ld)), some (.ref o), some (.int (nI m)), some (.int (nI v)), some (.int (nI i))] [] μ K := by
    intro fu
    induction fu with
    | zero =>
      intro i v hi hv hq
      refine e_il5 8 rfl dX0_kindsOf_6 ?_
      refine e_al0 9 rfl dX0_kindsOf_8 ?_
      first | refine e_getIv 12 rfl dX0_kindsOf_9 f_X0_24 (by assumption) (by first | assumption | (simp only [mN_sF, mK_sF, mL_sF, mF_sF, mB_sF, mA_sF, mJ_sF, mP_sF, mO_sF, mN_sB, mK_sB, mL_sB, mF_sB, mB_sB, mA_sB, mJ_sB, mP_sB, mO_sB, mN_sA, mK_sA, mL_sA, mF_sA, mB_sA, mA_sA, mJ_sA, mP_sA, mO_sA, mN_sJ, mK_sJ, mL_sJ, mF_sJ, mB_sJ, mA_sJ, mJ_sJ, mP_sJ, mO_sJ, mN_sP, mK_sP, mL_sP, mF_sP, mB_sP, mA_sP, mJ_sP, mP_sP, mO_sP, mN_sO, mK_sO, mL_sO, mF_sO, mB_sO, mA_sO, mJ_sO, mP_sO, mO_sO, up2, if_true, if_false, eq_self, ite_true, ite_false, reduceIte, Nat.add_left_cancel_iff, Nat.add_eq_left, Nat.left_eq_add, Nat.reduceEqDiff]; assumption) | (simp only [mN_sF, mK_sF, mL_sF, mF_sF, mB_sF, mA_sF, mJ_sF, mP_sF, mO_sF, mN_sB, mK_sB, mL_sB, mF_sB, mB_sB, mA_sB, mJ_sB, mP_sB, mO_sB, mN_sA, mK_sA, mL_sA, mF_sA, mB_sA, mA_sA, mJ_sA, mP_sA, mO_sA, mN_sJ, mK_sJ, mL_sJ, mF_sJ, mB_sJ, mA_sJ, mJ_sJ, mP_sJ, mO_sJ, mN_sP, mK_sP, mL_sP, mF_sP, mB_sP, mA_sP, mJ_sP, mP_sP, mO_sP, mN_sO, mK_sO, mL_sO, mF_sO, mB_sO, mA_sO, mJ_sO, mP_sO, mO_sO, up2, if_true, if_false, eq_self, ite_true, ite_false, reduceIte, Nat.add_left_cancel_iff, Nat.add_eq_left, Nat.left_eq_add, Nat.reduceEqDiff]; done)) ?_ | refine e_getI 12 rfl dX0_kindsOf_9 f_X0_24 (by assumption) ?_
      first | refine e_cmp_geN 61 15 (by decide) rfl dX0_kindsOf_12 rfl rfl (by omega) (by omega) (fun g1 => ?_) (fun g1 => ?_) | refine e_cmp_ge 61 15 (by decide) rfl dX0_kindsOf_12 (fun g1 => ?_) (fun g1 => ?_)
      · refine e_il4 63 rfl dX0_kindsOf_61 ?_
        refine e_iret dX0_kindsOf_63 rfl ?_
        refine k v hv ?_
        rw [List.take_of_length_le (by omega)] at hq
        exact hq
      · omega
    | succ fu ih =>
      intro i v hi hv hq
      have hil : i < es.length := by omega
      obtain ⟨q1, q2, q3, q4, q5⟩ := h5 i es[i] (List.getElem?_eq_getElem hil)
      obtain ⟨p1, p2⟩ := h3 i (by omega)
      have hkw := (hW (π i) p1).1
      have next : ¬ (es[i].1 = ld ∧ es[i].2.2 = lw.take m) → Ev E M_X0_kindsOf 0 0 55 [some (.ref b), some (.int (nI ld)), some (.ref o), some (.int (nI m)), some (.int (nI v)), some (.int (nI i))] [] μ K := by
        intro hne
        refine e_ii5 (nI (_ + 1)) 58 rfl dX0_kindsOf_55 (ii1 _) rfl ?_
        refine e_goto 6 (by decide) dX0_kindsOf_58 ?_
        refine ih (i + 1) v (by omega) hv (fun q => ?_)
        rw [hq q, List.take_succ_eq_append_getElem hil]
        simp only [List.mem_append, List.mem_singleton]
        constructor
        · rintro ⟨r1, r2⟩; exact ⟨r1, Or.inl r2⟩
        · rintro ⟨r1, r2 | r2⟩
          · exact ⟨r1, r2⟩
          · exact absurd ⟨by rw [← r2], by rw [← r2]⟩ hne
      refine e_il5 8 rfl dX0_kindsOf_6 ?_
      refine e_al0 9 rfl dX0_kindsOf_8 ?_
      first | refine e_getIv 12 rfl dX0_kindsOf_9 f_X0_24 (by assumption) (by first | assumption | (simp only [mN_sF, mK_sF, mL_sF, mF_sF, mB_sF, mA_sF, mJ_sF, mP_sF, mO_sF, mN_sB, mK_sB, mL_sB, mF_sB, mB_sB, mA_sB, mJ_sB, mP_sB, mO_sB, mN_sA, mK_sA, mL_sA, mF_sA, mB_sA, mA_sA, mJ_sA, mP_sA, mO_sA, mN_sJ, mK_sJ, mL_sJ, mF_sJ, mB_sJ, mA_sJ, mJ_sJ, mP_sJ, mO_sJ, mN_sP, mK_sP, mL_sP, mF_sP, mB_sP, mA_sP, mJ_sP, mP_sP, mO_sP, mN_sO, mK_sO, mL_sO, mF_sO, mB_sO, mA_sO, mJ_sO, mP_sO, mO_sO, up2, if_true, if_false, eq_self, ite_true, ite_false, reduceIte, Nat.add_left_cancel_iff, Nat.add_eq_left, Nat.left_eq_add, Nat.reduceEqDiff]; assumption) | (simp only [mN_sF, mK_sF, mL_sF, mF_sF, mB_sF, mA_sF, mJ_sF, mP_sF, mO_sF, mN_sB, mK_sB, mL_sB, mF_sB, mB_sB, mA_sB, mJ_sB, mP_sB, mO_sB, mN_sA, mK_sA, mL_sA, mF_sA, mB_sA, mA_sA, mJ_sA, mP_sA, mO_sA, mN_sJ, mK_sJ, mL_sJ, mF_sJ, mB_sJ, mA_sJ, mJ_sJ, mP_sJ, mO_sJ, mN_sP, mK_sP, mL_sP, mF_sP, mB_sP, mA_sP, mJ_sP, mP_sP, mO_sP, mN_sO, mK_sO, mL_sO, mF_sO, mB_sO, mA_sO, mJ_sO, mP_sO, mO_sO, up2, if_true, if_false, eq_self, ite_true, ite_false, reduceIte, Nat.add_left_cancel_iff, Nat.add_eq_left, Nat.left_eq_add, Nat.reduceEqDiff]; done)) ?_ | refine e_getI 12 rfl dX0_kindsOf_9 f_X0_24 (by assumption) ?_
      first | refine e_cmp_geN 61 15 (by decide) rfl dX0_kindsOf_12 rfl rfl (by omega) (by omega) (fun g1 => ?_) (fun g1 => ?_) | refine e_cmp_ge 61 15 (by decide) rfl dX0_kindsOf_12 (fun g1 => ?_) (fun g1 => ?_)
      · omega
      refine e_al0 16 rfl dX0_kindsOf_15 ?_
      refine e_getR 19 rfl dX0_kindsOf_16 f_X0_17 (by assumption) (by assumption) ?_
      refine e_il5 21 rfl dX0_kindsOf_19 ?_
      first | refine e_ialdv 22 rfl dX0_kindsOf_21 (by assumption) (by assumption) (by first | rfl | simp only [pk_mul, nI_add]) (by omega) (by omega) (by first | assumption | (simp only [mN_sF, mK_sF, mL_sF, mF_sF, mB_sF, mA_sF, mJ_sF, mP_sF, mO_sF, mN_sB, mK_sB, mL_sB, mF_sB, mB_sB, mA_sB, mJ_sB, mP_sB, mO_sB, mN_sA, mK_sA, mL_sA, mF_sA, mB_sA, mA_sA, mJ_sA, mP_sA, mO_sA, mN_sJ, mK_sJ, mL_sJ, mF_sJ, mB_sJ, mA_sJ, mJ_sJ, mP_sJ, mO_sJ, mN_sP, mK_sP, mL_sP, mF_sP, mB_sP, mA_sP, mJ_sP, mP_sP, mO_sP, mN_sO, mK_sO, mL_sO, mF_sO, mB_sO, mA_sO, mJ_sO, mP_sO, mO_sO, up2, if_true, if_false, eq_self, ite_true, ite_false, reduceIte, Nat.add_left_cancel_iff, Nat.add_eq_left, Nat.left_eq_add, Nat.reduceEqDiff]; assumption) | (simp only [mN_sF, mK_sF, mL_sF, mF_sF, mB_sF, mA_sF, mJ_sF, mP_sF, mO_sF, mN_sB, mK_sB, mL_sB, mF_sB, mB_sB, mA_sB, mJ_sB, mP_sB, mO_sB, mN_sA, mK_sA, mL_sA, mF_sA, mB_sA, mA_sA, mJ_sA, mP_sA, mO_sA, mN_sJ, mK_sJ, mL_sJ, mF_sJ, mB_sJ, mA_sJ, mJ_sJ, mP_sJ, mO_sJ, mN_sP, mK_sP, mL_sP, mF_sP, mB_sP, mA_sP, mJ_sP, mP_sP, mO_sP, mN_sO, mK_sO, mL_sO, mF_sO, mB_sO, mA_sO, mJ_sO, mP_sO, mO_sO, up2, if_true, if_false, eq_self, ite_true, ite_false, reduceIte, Nat.add_left_cancel_iff, Nat.add_eq_left, Nat.left_eq_add, Nat.reduceEqDiff]; done)) ?_ | refine e_iald 22 rfl dX0_kindsOf_21 (by assumption) (by assumption) (by first | rfl | simp only [pk_mul, nI_add]) (by omega) (by omega) ?_
      refine e_il1 23 rfl dX0_kindsOf_22 ?_
      first | refine e_cmp_neN 55 26 (by decide) rfl dX0_kindsOf_23 rfl rfl (by omega) (by omega) (fun g2 => ?_) (fun g2 => ?_) | refine e_cmp_ne 55 26 (by decide) rfl dX0_kindsOf_23 (fun g2 => ?_) (fun g2 => ?_)
      · exact next (fun q => g2 q.1)
      refine e_al0 27 rfl dX0_kindsOf_26 ?_
      refine e_getR 30 rfl dX0_kindsOf_27 f_X0_11 (by assumption) (by assumption) ?_
      refine e_il5 32 rfl dX0_kindsOf_30 ?_
      refine e_aald 33 rfl dX0_kindsOf_32 (by assumption) (by decide) (by assumption) (by first | rfl | simp only [pk_mul, nI_add]) (by omega) (by omega) (by assumption) ?_
      refine e_al2 34 rfl dX0_kindsOf_33 ?_
      refine e_il3 35 rfl dX0_kindsOf_34 ?_
      refine e_invV0 [_, _] 38 rfl dX0_kindsOf_35 k_X0_37 mo_X8_isBeginning rm_X0_kindsOf_X8_isBeginning ⟨rfl, rfl⟩ rfl rfl (by assumption) (Nat.le_of_ble_eq_true rfl) ?_
      refine c_isBeginning (hW (π i) p1) ho q3 hol (by omega) (decide (es[i].2.2 = lw.take m)) ?_ ?_
      · rw [decide_eq_true_iff]
        constructor
        · intro e; exact ⟨by rw [e, List.length_take]; omega, e⟩
        · exact fun e => e.2
      first | refine e_if_eqB 55 41 (by decide) rfl dX0_kindsOf_38 rfl (fun g4 => ?_) (fun g4 => ?_) | refine e_if_eqN 55 41 (by decide) rfl dX0_kindsOf_38 rfl (by omega) (fun g4 => ?_) (fun g4 => ?_) | refine e_if_eq 55 41 (by decide) rfl dX0_kindsOf_38 (fun g4 => ?_) (fun g4 => ?_)
      · exact next (fun q => by simp [q.2] at g4)
      · refine e_il4 43 rfl dX0_kindsOf_41 ?_
        refine e_iconst (nI 1) 44 rfl dX0_kindsOf_43 ic_1 ?_
        refine e_al0 45 rfl dX0_kindsOf_44 ?_
        refine e_getR 48 rfl dX0_kindsOf_45 f_X0_21 (by assumption) (by assumption) ?_
        refine e_il5 50 rfl dX0_kindsOf_48 ?_
        first | refine e_ialdv 51 rfl dX0_kindsOf_50 (by assumption) (by assumption) (by first | rfl | simp only [pk_mul, nI_add]) (by omega) (by omega) (by first | assumption | (simp only [mN_sF, mK_sF, mL_sF, mF_sF, mB_sF, mA_sF, mJ_sF, mP_sF, mO_sF, mN_sB, mK_sB, mL_sB, mF_sB, mB_sB, mA_sB, mJ_sB, mP_sB, mO_sB, mN_sA, mK_sA, mL_sA, mF_sA, mB_sA, mA_sA, mJ_sA, mP_sA, mO_sA, mN_sJ, mK_sJ, mL_sJ, mF_sJ, mB_sJ, mA_sJ, mJ_sJ, mP_sJ, mO_sJ, mN_sP, mK_sP, mL_sP, mF_sP, mB_sP, mA_sP, mJ_sP, mP_sP, mO_sP, mN_sO, mK_sO, mL_sO, mF_sO, mB_sO, mA_sO, mJ_sO, mP_sO, mO_sO, up2, if_true, if_false, eq_self, ite_true, ite_false, reduceIte, Nat.add_left_cancel_iff, Nat.add_eq_left, Nat.left_eq_add, Nat.reduceEqDiff]; assumption) | (simp only [mN_sF, mK_sF, mL_sF, mF_sF, mB_sF, mA_sF, mJ_sF, mP_sF, mO_sF, mN_sB, mK_sB, mL_sB, mF_sB, mB_sB, mA_sB, mJ_sB, mP_sB, mO_sB, mN_sA, mK_sA, mL_sA, mF_sA, mB_sA, mA_sA, mJ_sA, mP_sA, mO_sA, mN_sJ, mK_sJ, mL_sJ, mF_sJ, mB_sJ, mA_sJ, mJ_sJ, mP_sJ, mO_sJ, mN_sP, mK_sP, mL_sP, mF_sP, mB_sP, mA_sP, mJ_sP, mP_sP, mO_sP, mN_sO, mK_sO, mL_sO, mF_sO, mB_sO, mA_sO, mJ_sO, mP_sO, mO_sO, up2, if_true, if_false, eq_self, ite_true, ite_false, reduceIte, Nat.add_left_cancel_iff, Nat.add_eq_left, Nat.left_eq_add, Nat.reduceEqDiff]; done)) ?_ | refine e_iald 51 rfl dX0_kindsOf_50 (by assumption) (by assumption) (by first | rfl | simp only [pk_mul, nI_add]) (by omega) (by omega) ?_
        refine e_ishl 52 rfl dX0_kindsOf_51 ?_
        refine e_ior 53 rfl dX0_kindsOf_52 ?_
        refine e_is4 55 rfl dX0_kindsOf_53 (by decide) rfl ?_
        rw [or_bit v es[i].2.1 q5 hv]
        have e4 : es[i].2.2 = lw.take m := of_decide_eq_true g4
        refine e_ii5 (nI (_ + 1)) 58 rfl dX0_kindsOf_55 (ii1 _) rfl ?_
        refine e_goto 6 (by decide) dX0_kindsOf_58 ?_
        refine ih (i + 1) _ (by omega) ?_ (fun q => ?_)
        · exact Nat.or_lt_two_pow (n := 5) hv (Nat.pow_lt_pow_right (by decide) q5)
        · rw [Nat.testBit_or, Bool.or_eq_true, hq q, List.take_succ_eq_append_getElem hil, Nat.testBit_two_pow]
          simp only [List.mem_append, List.mem_singleton, decide_eq_true_eq]
          constructor
          · rintro (⟨r1, r2⟩ | r)
            · exact ⟨r1, Or.inl r2⟩
            · subst r; exact ⟨q5, Or.inr (by rw [← g2, ← e4])⟩
          · rintro ⟨r1, r2 | r2⟩
            · exact Or.inl ⟨r1, r2⟩
            · exact Or.inr (by rw [← r2])
  exact loop es.length 0 0 (by omega) (by decide) (fun q => by simp)
end BOOK
