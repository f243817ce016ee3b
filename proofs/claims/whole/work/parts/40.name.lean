/-! NameDesk$Name -/
section NAME
variable {E : En} {μ : Mm} {K : Option Value → Mm → Prop}
/-- the name at a -/
def Ng (μ : Mm) (a : Nat) : Prop := (mK μ a = 3 ∧ mP μ a 2 = some (a + 1) ∧ mP μ a 5 = some (a + 2) ∧ mP μ a 6 = some (a + 3) ∧ mP μ a 9 = some (a + 4) ∧ mK μ (a + 1) = 18 ∧ mL μ (a + 1) = 8 ∧ mK μ (a + 2) = 13 ∧ mL μ (a + 2) = 8 ∧ mK μ (a + 3) = 13 ∧ mL μ (a + 3) = 8) ∧ Ln μ (a + 4) ∧ ∀ w, w < 8 → mO μ (a + 1) w = some (a + 6 + 3 * w) ∧ Wd μ (a + 6 + 3 * w)
def nS (a : Nat) : Nat → Prop := fun q => a ≤ q ∧ q < a + 30
theorem Ng.fr {S : Nat → Prop} {μ' : Mm} {a : Nat} (h : Ng μ a) (f : Fr S μ μ') : Ng μ' a := by
  refine ⟨?_, h.2.1.fr f, fun w hw => ⟨by rw [f.2.2.2.2.1]; exact (h.2.2 w hw).1, (h.2.2 w hw).2.fr f⟩⟩
  rw [f.2.1, f.2.2.1, f.2.2.2.1]
  exact h.1
theorem Ng.fx {S : Nat → Prop} {μ' : Mm} {a : Nat} (h : Ng μ a) (f : Fx S μ μ') (hS : ∀ q, nS a q → ¬ S q) : Ng μ' a := by
  refine ⟨?_, ?_, fun w hw => ⟨by rw [(f.2.2.2 (a + 1) (hS _ ⟨by omega, by omega⟩)).2.2.2.2.2]; exact (h.2.2 w hw).1, (h.2.2 w hw).2.fx f (hS _ ⟨by omega, by omega⟩)⟩⟩
  · rw [f.2.1, f.2.2.1, (f.2.2.2 a (hS _ ⟨by omega, by omega⟩)).2.2.2.2.1]
    exact h.1
  · unfold Ln
    rw [f.2.1, f.2.2.1, (f.2.2.2 (a + 4) (hS _ ⟨by omega, by omega⟩)).2.2.2.2.1]
    exact h.2.1
/-- the parts between blanks -/
def splitB : List Nat → List (List Nat)
  | [] => [[]]
  | c :: r => if c = 32 then [] :: splitB r else match splitB r with
    | s :: ss => (c :: s) :: ss
    | [] => [[c]]
theorem splitB_one {p : List Nat} (h : 32 ∉ p) : splitB p = [p] := by
  induction p with
  | nil => rfl
  | cons c p ih =>
    have h1 : c ≠ 32 := fun e => h (e ▸ List.mem_cons_self)
    rw [splitB, if_neg h1, ih (fun q => h (List.mem_cons_of_mem _ q))]
theorem splitB_cut {p r : List Nat} (h : 32 ∉ p) : splitB (p ++ 32 :: r) = p :: splitB r := by
  induction p with
  | nil => simp [splitB]
  | cons c p ih =>
    have h1 : c ≠ 32 := fun e => h (e ▸ List.mem_cons_self)
    rw [List.cons_append, splitB, if_neg h1, ih (fun q => h (List.mem_cons_of_mem _ q))]
def nameOK (l : List Nat) : Bool := decide ((splitB l).length ≤ 8) && (splitB l).all isWordL
/-- the words ws have been taken -/
def NI (μ : Mm) (a : Nat) (ws : List (List Nat)) : Prop := mF μ a 1 = nI ws.length ∧ ∀ i w, ws[i]? = some w → WI μ (a + 6 + 3 * i) w
theorem WI.fr {S : Nat → Prop} {μ' : Mm} {a : Nat} {l : List Nat} (h : WI μ a l) (f : Fr S μ μ') (h0 : ¬ S a) (h1 : ¬ S (a + 1)) (h2 : ¬ S (a + 2)) : WI μ' a l := by
  unfold WI
  rw [(f.2.2.2.2.2 a h0).1, (f.2.2.2.2.2 (a + 1) h1).2.1, (f.2.2.2.2.2 (a + 2) h2).2.1]
  exact h
theorem seg_mem {f : Nat → Nat} {s e c : Nat} (h : c ∈ seg f s e) : ∃ i, s ≤ i ∧ i < e ∧ f i = c := by
  obtain ⟨i, hi⟩ := List.getElem?_of_mem h
  have hl := (List.getElem?_eq_some_iff.mp hi).1
  rw [seg_len] at hl
  rw [seg_get f hl] at hi
  exact ⟨s + i, by omega, by omega, Option.some.inj hi⟩
theorem c_ntake {a t n m : Nat} {tx : Nat → Nat} (hg : Ng μ a) (hkt : mK μ t = 12) (hlt : mL μ t = n) (hn : n < 2 ^ 30) (htx : ∀ i, i < n → mB μ t i = sb_b (tx i) ∧ tx i < 256) (hne : ¬ nS a t) (hm : m ≤ n)
    (kt : nameOK (seg tx 0 m) = true → ∀ μ', Fr (nS a) μ μ' → NI μ' a (splitB (seg tx 0 m)) → K (some (.int (nI 1))) μ') (kf : nameOK (seg tx 0 m) = false → ∀ μ', Fr (nS a) μ μ' → K (some (.int (nI 0))) μ') : Cl E M_X2_take [.ref a, .ref t, .int (nI m)] μ K := by
  have Sa : nS a a := ⟨by omega, by omega⟩
  have hk := hg.1.1
  have loop : ∀ (fu i : Nat), i + fu = m + 1 → ∀ (s : Nat) (ws : List (List Nat)) μ', s ≤ i → (∀ j, s ≤ j → j < i → tx j ≠ 32) → splitB (seg tx 0 m) = ws ++ (if s ≤ m then splitB (seg tx s m) else []) → (s ≤ m ∨ i = m + 1) → ws.length ≤ 8 → ws.all isWordL = true → (s ≤ m ∨ ws ≠ []) → Fr (nS a) μ μ' → NI μ' a ws → (i = m + 1 → s = m + 1) →
      Ev E M_X2_take 0 0 10 [some (.ref a), some (.ref t), some (.int (nI m)), some (.int (nI s)), some (.int (nI i))] [] μ' K := by
    intro fu
    induction fu with
    | zero =>
      intro i hi s ws μ' hsi hnb hsp hor hw8 hall hne2 hF hNI hend
      have hk' := (hg.fr hF).1.1
      have ei : i = m + 1 := by omega
      have es := hend ei
      have hsz := hNI.1
      refine e_il4 12 rfl dX2_take_10 ?_
      refine e_il2 13 rfl dX2_take_12 ?_
      first | refine e_cmp_gtN 91 16 (by decide) rfl dX2_take_13 rfl rfl (by omega) (by omega) (fun g1 => ?_) (fun g1 => ?_) | refine e_cmp_gt 91 16 (by decide) rfl dX2_take_13 (fun g1 => ?_) (fun g1 => ?_)
      rotate_left
      · omega
      refine e_al0 92 rfl dX2_take_91 ?_
      first | refine e_getIv 95 rfl dX2_take_92 f_X2_15 (by assumption) (by first | assumption | (simp only [mN_sF, mK_sF, mL_sF, mF_sF, mB_sF, mA_sF, mJ_sF, mP_sF, mO_sF, mN_sB, mK_sB, mL_sB, mF_sB, mB_sB, mA_sB, mJ_sB, mP_sB, mO_sB, mN_sA, mK_sA, mL_sA, mF_sA, mB_sA, mA_sA, mJ_sA, mP_sA, mO_sA, mN_sJ, mK_sJ, mL_sJ, mF_sJ, mB_sJ, mA_sJ, mJ_sJ, mP_sJ, mO_sJ, mN_sP, mK_sP, mL_sP, mF_sP, mB_sP, mA_sP, mJ_sP, mP_sP, mO_sP, mN_sO, mK_sO, mL_sO, mF_sO, mB_sO, mA_sO, mJ_sO, mP_sO, mO_sO, up2, if_true, if_false, eq_self, ite_true, ite_false, reduceIte, Nat.add_left_cancel_iff, Nat.add_eq_left, Nat.left_eq_add, Nat.reduceEqDiff]; assumption) | (simp only [mN_sF, mK_sF, mL_sF, mF_sF, mB_sF, mA_sF, mJ_sF, mP_sF, mO_sF, mN_sB, mK_sB, mL_sB, mF_sB, mB_sB, mA_sB, mJ_sB, mP_sB, mO_sB, mN_sA, mK_sA, mL_sA, mF_sA, mB_sA, mA_sA, mJ_sA, mP_sA, mO_sA, mN_sJ, mK_sJ, mL_sJ, mF_sJ, mB_sJ, mA_sJ, mJ_sJ, mP_sJ, mO_sJ, mN_sP, mK_sP, mL_sP, mF_sP, mB_sP, mA_sP, mJ_sP, mP_sP, mO_sP, mN_sO, mK_sO, mL_sO, mF_sO, mB_sO, mA_sO, mJ_sO, mP_sO, mO_sO, up2, if_true, if_false, eq_self, ite_true, ite_false, reduceIte, Nat.add_left_cancel_iff, Nat.add_eq_left, Nat.left_eq_add, Nat.reduceEqDiff]; done)) ?_ | refine e_getI 95 rfl dX2_take_92 f_X2_15 (by assumption) ?_
      first | refine e_if_leN 102 98 (by decide) rfl dX2_take_95 rfl (by omega) (fun g2 => ?_) (fun g2 => ?_) | refine e_if_le 102 98 (by decide) rfl dX2_take_95 (fun g2 => ?_) (fun g2 => ?_)
      · exfalso
        rcases hne2 with q | q
        · omega
        · exact q (List.eq_nil_of_length_eq_zero g2)
      refine e_iconst (nI 1) 99 rfl dX2_take_98 ic_1 ?_
      refine e_goto 103 (by decide) dX2_take_99 ?_
      refine e_zret dX2_take_103 rfl (by first | exact z0 | exact z1 | exact bI01 _ | assumption) ?_
      rw [if_neg (by omega), List.append_nil] at hsp
      refine kt ?_ μ' hF (by rw [hsp]; exact hNI)
      unfold nameOK
      rw [hsp, hall]
      simp [hw8]
    | succ fu ih =>
      intro i hi s ws μ' hsi hnb hsp hor hw8 hall hne2 hF hNI hend
      have hG' := hg.fr hF
      obtain ⟨⟨hk', p2, p5, p6, p9, kk1, ll1, kk2, ll2, kk3, ll3⟩, hLn, hWs⟩ := id hG'
      have hkt' : mK μ' t = 12 := by rw [hF.2.1]; exact hkt
      have hlt' : mL μ' t = n := by rw [hF.2.2.1]; exact hlt
      have hBt : ∀ i, i < n → mB μ' t i = sb_b (tx i) ∧ tx i < 256 := fun i hi => ⟨by rw [(hF.2.2.2.2.2 t hne).2.1]; exact (htx i hi).1, (htx i hi).2⟩
      have hsz := hNI.1
      have hsm : s ≤ m := by rcases hor with q | q <;> omega
      rw [if_pos hsm] at hsp
      -- a part ends at i
      have cut : (i = m ∨ (i < m ∧ tx i = 32)) → Ev E M_X2_take 0 0 40 [some (.ref a), some (.ref t), some (.int (nI m)), some (.int (nI s)), some (.int (nI i))] [] μ' K := by
        intro hcut
        have hp : 32 ∉ seg tx s i := fun q => by obtain ⟨j, q1, q2, q3⟩ := seg_mem q; exact hnb j q1 q2 q3
        have hsp2 : splitB (seg tx s m) = seg tx s i :: (if i + 1 ≤ m then splitB (seg tx (i + 1) m) else []) := by
          rcases hcut with q | ⟨q, q2⟩
          · subst q
            rw [if_neg (by omega), splitB_one hp]
          · rw [if_pos (by omega), seg_split tx hsi q, q2, splitB_cut hp]
        have hsp3 : splitB (seg tx 0 m) = (ws ++ [seg tx s i]) ++ (if i + 1 ≤ m then splitB (seg tx (i + 1) m) else []) := by rw [hsp, hsp2]; simp
        refine e_al0 41 rfl dX2_take_40 ?_
        first | refine e_getIv 44 rfl dX2_take_41 f_X2_15 (by assumption) (by first | assumption | (simp only [mN_sF, mK_sF, mL_sF, mF_sF, mB_sF, mA_sF, mJ_sF, mP_sF, mO_sF, mN_sB, mK_sB, mL_sB, mF_sB, mB_sB, mA_sB, mJ_sB, mP_sB, mO_sB, mN_sA, mK_sA, mL_sA, mF_sA, mB_sA, mA_sA, mJ_sA, mP_sA, mO_sA, mN_sJ, mK_sJ, mL_sJ, mF_sJ, mB_sJ, mA_sJ, mJ_sJ, mP_sJ, mO_sJ, mN_sP, mK_sP, mL_sP, mF_sP, mB_sP, mA_sP, mJ_sP, mP_sP, mO_sP, mN_sO, mK_sO, mL_sO, mF_sO, mB_sO, mA_sO, mJ_sO, mP_sO, mO_sO, up2, if_true, if_false, eq_self, ite_true, ite_false, reduceIte, Nat.add_left_cancel_iff, Nat.add_eq_left, Nat.left_eq_add, Nat.reduceEqDiff]; assumption) | (simp only [mN_sF, mK_sF, mL_sF, mF_sF, mB_sF, mA_sF, mJ_sF, mP_sF, mO_sF, mN_sB, mK_sB, mL_sB, mF_sB, mB_sB, mA_sB, mJ_sB, mP_sB, mO_sB, mN_sA, mK_sA, mL_sA, mF_sA, mB_sA, mA_sA, mJ_sA, mP_sA, mO_sA, mN_sJ, mK_sJ, mL_sJ, mF_sJ, mB_sJ, mA_sJ, mJ_sJ, mP_sJ, mO_sJ, mN_sP, mK_sP, mL_sP, mF_sP, mB_sP, mA_sP, mJ_sP, mP_sP, mO_sP, mN_sO, mK_sO, mL_sO, mF_sO, mB_sO, mA_sO, mJ_sO, mP_sO, mO_sO, up2, if_true, if_false, eq_self, ite_true, ite_false, reduceIte, Nat.add_left_cancel_iff, Nat.add_eq_left, Nat.left_eq_add, Nat.reduceEqDiff]; done)) ?_ | refine e_getI 44 rfl dX2_take_41 f_X2_15 (by assumption) ?_
        refine e_bipush (nI 8) 46 rfl dX2_take_44 bc_8 ?_
        first | refine e_cmp_geN 68 49 (by decide) rfl dX2_take_46 rfl rfl (by omega) (by omega) (fun g3 => ?_) (fun g3 => ?_) | refine e_cmp_ge 68 49 (by decide) rfl dX2_take_46 (fun g3 => ?_) (fun g3 => ?_)
        · -- too many
          refine e_iconst (nI 0) 69 rfl dX2_take_68 ic_0 ?_
          refine e_zret dX2_take_69 rfl (by first | exact z0 | exact z1 | exact bI01 _ | assumption) ?_
          refine kf ?_ μ' hF
          unfold nameOK
          have : ¬ ((splitB (seg tx 0 m)).length ≤ 8) := by rw [hsp3]; simp; omega
          simp [this]
        have hO := (hWs ws.length g3).1
        have hWd := (hWs ws.length g3).2
        have hkw := hWd.1
        refine e_al0 50 rfl dX2_take_49 ?_
        refine e_getR 53 rfl dX2_take_50 f_X2_20 (by assumption) (by assumption) ?_
        refine e_al0 54 rfl dX2_take_53 ?_
        first | refine e_getIv 57 rfl dX2_take_54 f_X2_15 (by assumption) (by first | assumption | (simp only [mN_sF, mK_sF, mL_sF, mF_sF, mB_sF, mA_sF, mJ_sF, mP_sF, mO_sF, mN_sB, mK_sB, mL_sB, mF_sB, mB_sB, mA_sB, mJ_sB, mP_sB, mO_sB, mN_sA, mK_sA, mL_sA, mF_sA, mB_sA, mA_sA, mJ_sA, mP_sA, mO_sA, mN_sJ, mK_sJ, mL_sJ, mF_sJ, mB_sJ, mA_sJ, mJ_sJ, mP_sJ, mO_sJ, mN_sP, mK_sP, mL_sP, mF_sP, mB_sP, mA_sP, mJ_sP, mP_sP, mO_sP, mN_sO, mK_sO, mL_sO, mF_sO, mB_sO, mA_sO, mJ_sO, mP_sO, mO_sO, up2, if_true, if_false, eq_self, ite_true, ite_false, reduceIte, Nat.add_left_cancel_iff, Nat.add_eq_left, Nat.left_eq_add, Nat.reduceEqDiff]; assumption) | (simp only [mN_sF, mK_sF, mL_sF, mF_sF, mB_sF, mA_sF, mJ_sF, mP_sF, mO_sF, mN_sB, mK_sB, mL_sB, mF_sB, mB_sB, mA_sB, mJ_sB, mP_sB, mO_sB, mN_sA, mK_sA, mL_sA, mF_sA, mB_sA, mA_sA, mJ_sA, mP_sA, mO_sA, mN_sJ, mK_sJ, mL_sJ, mF_sJ, mB_sJ, mA_sJ, mJ_sJ, mP_sJ, mO_sJ, mN_sP, mK_sP, mL_sP, mF_sP, mB_sP, mA_sP, mJ_sP, mP_sP, mO_sP, mN_sO, mK_sO, mL_sO, mF_sO, mB_sO, mA_sO, mJ_sO, mP_sO, mO_sO, up2, if_true, if_false, eq_self, ite_true, ite_false, reduceIte, Nat.add_left_cancel_iff, Nat.add_eq_left, Nat.left_eq_add, Nat.reduceEqDiff]; done)) ?_ | refine e_getI 57 rfl dX2_take_54 f_X2_15 (by assumption) ?_
        refine e_aald 58 rfl dX2_take_57 (by assumption) (by decide) (by assumption) (by first | rfl | simp only [pk_mul, nI_add]) (by omega) (by omega) (by assumption) ?_
        refine e_al1 59 rfl dX2_take_58 ?_
        refine e_il3 60 rfl dX2_take_59 ?_
        refine e_il4 62 rfl dX2_take_60 ?_
        refine e_invV0 [_, _, _] 65 rfl dX2_take_62 k_X2_52 mo_X8_take rm_X2_take_X8_take ⟨rfl, rfl⟩ rfl rfl (by assumption) (Nat.le_of_ble_eq_true rfl) ?_
        refine c_take hWd hkt' hlt' (by omega) hBt (fun q => hne ⟨by have := q.1; omega, by have := q.2; omega⟩) (by omega) (by omega) (fun hwd μ2 hF2 hW2 => ?_) (fun hwd μ2 hF2 => ?_)
        · have hF2n : Fr (nS a) μ' μ2 := hF2.mono (fun q hq => ⟨by have := hq.1; omega, by have := hq.2; omega⟩)
          have hk2 : mK μ2 a = 3 := by rw [hF2.2.1]; exact hk'
          have hsz2 : mF μ2 a 1 = nI ws.length := by rw [(hF2.2.2.2.2.2 a (fun q => by have := q.1; omega)).1]; exact hsz
          first | refine e_if_neB 70 68 (by decide) rfl dX2_take_65 rfl (fun g4 => ?_) (fun g4 => ?_) | refine e_if_neN 70 68 (by decide) rfl dX2_take_65 rfl (by omega) (fun g4 => ?_) (fun g4 => ?_) | refine e_if_ne 70 68 (by decide) rfl dX2_take_65 (fun g4 => ?_) (fun g4 => ?_)
          rotate_left
          · omega
          refine e_al0 71 rfl dX2_take_70 ?_
          refine e_dup 72 rfl dX2_take_71 rfl ?_
          first | refine e_getIv 75 rfl dX2_take_72 f_X2_15 (by assumption) (by first | assumption | (simp only [mN_sF, mK_sF, mL_sF, mF_sF, mB_sF, mA_sF, mJ_sF, mP_sF, mO_sF, mN_sB, mK_sB, mL_sB, mF_sB, mB_sB, mA_sB, mJ_sB, mP_sB, mO_sB, mN_sA, mK_sA, mL_sA, mF_sA, mB_sA, mA_sA, mJ_sA, mP_sA, mO_sA, mN_sJ, mK_sJ, mL_sJ, mF_sJ, mB_sJ, mA_sJ, mJ_sJ, mP_sJ, mO_sJ, mN_sP, mK_sP, mL_sP, mF_sP, mB_sP, mA_sP, mJ_sP, mP_sP, mO_sP, mN_sO, mK_sO, mL_sO, mF_sO, mB_sO, mA_sO, mJ_sO, mP_sO, mO_sO, up2, if_true, if_false, eq_self, ite_true, ite_false, reduceIte, Nat.add_left_cancel_iff, Nat.add_eq_left, Nat.left_eq_add, Nat.reduceEqDiff]; assumption) | (simp only [mN_sF, mK_sF, mL_sF, mF_sF, mB_sF, mA_sF, mJ_sF, mP_sF, mO_sF, mN_sB, mK_sB, mL_sB, mF_sB, mB_sB, mA_sB, mJ_sB, mP_sB, mO_sB, mN_sA, mK_sA, mL_sA, mF_sA, mB_sA, mA_sA, mJ_sA, mP_sA, mO_sA, mN_sJ, mK_sJ, mL_sJ, mF_sJ, mB_sJ, mA_sJ, mJ_sJ, mP_sJ, mO_sJ, mN_sP, mK_sP, mL_sP, mF_sP, mB_sP, mA_sP, mJ_sP, mP_sP, mO_sP, mN_sO, mK_sO, mL_sO, mF_sO, mB_sO, mA_sO, mJ_sO, mP_sO, mO_sO, up2, if_true, if_false, eq_self, ite_true, ite_false, reduceIte, Nat.add_left_cancel_iff, Nat.add_eq_left, Nat.left_eq_add, Nat.reduceEqDiff]; done)) ?_ | refine e_getI 75 rfl dX2_take_72 f_X2_15 (by assumption) ?_
          refine e_iconst (nI 1) 76 rfl dX2_take_75 ic_1 ?_
          first | refine e_iaddN 77 rfl dX2_take_76 rfl rfl ?_ | refine e_iadd 77 rfl dX2_take_76 ?_
          refine e_putI 80 rfl dX2_take_77 f_X2_15 (by assumption) ?_
          refine e_il4 82 rfl dX2_take_80 ?_
          refine e_iconst (nI 1) 83 rfl dX2_take_82 ic_1 ?_
          first | refine e_iaddN 84 rfl dX2_take_83 rfl rfl ?_ | refine e_iadd 84 rfl dX2_take_83 ?_
          refine e_is3 85 rfl dX2_take_84 (by decide) rfl ?_
          refine e_ii4 (nI (_ + 1)) 88 rfl dX2_take_85 (ii1 _) rfl ?_
          refine e_goto 10 (by decide) dX2_take_88 ?_
          refine ih (i + 1) (by omega) (i + 1) (ws ++ [seg tx s i]) _ (Nat.le_refl _) (fun j q1 q2 => by omega) hsp3 (by omega) (by simp; omega) (by rw [List.all_append, hall]; simp [hwd]) (Or.inr (by simp)) ((hF.trans hF2n).sF Sa _ _) ⟨by simp only [mN_sF, mK_sF, mL_sF, mF_sF, mB_sF, mA_sF, mJ_sF, mP_sF, mO_sF, mN_sB, mK_sB, mL_sB, mF_sB, mB_sB, mA_sB, mJ_sB, mP_sB, mO_sB, mN_sA, mK_sA, mL_sA, mF_sA, mB_sA, mA_sA, mJ_sA, mP_sA, mO_sA, mN_sJ, mK_sJ, mL_sJ, mF_sJ, mB_sJ, mA_sJ, mJ_sJ, mP_sJ, mO_sJ, mN_sP, mK_sP, mL_sP, mF_sP, mB_sP, mA_sP, mJ_sP, mP_sP, mO_sP, mN_sO, mK_sO, mL_sO, mF_sO, mB_sO, mA_sO, mJ_sO, mP_sO, mO_sO, up2, if_true, if_false, eq_self, ite_true, ite_false, reduceIte, Nat.add_left_cancel_iff, Nat.add_eq_left, Nat.left_eq_add, Nat.reduceEqDiff]; simp, fun j w hj => ?_⟩ (fun q => q)
          have hWfin : ∀ x l, a < x → WI μ2 x l → WI (sF μ2 a 1 (nI (ws.length + 1))) x l := fun x l hx hl => hl.fr ((Fr.rf (S := fun q => q = a)).sF rfl _ _) (by omega) (by omega) (by omega)
          rcases Nat.lt_trichotomy j ws.length with q | q | q
          · rw [List.getElem?_append_left q] at hj
            exact hWfin _ _ (by omega) ((hNI.2 j w hj).fr hF2 (fun z => by have := z.1; omega) (fun z => by have := z.1; omega) (fun z => by have := z.1; omega))
          · subst q
            simp at hj
            subst hj
            exact hWfin _ _ (by omega) hW2
          · rw [List.getElem?_append_right (by omega)] at hj
            have : j - ws.length < 1 := (List.getElem?_eq_some_iff.mp hj).1
            omega
        · have hF2n : Fr (nS a) μ' μ2 := hF2.mono (fun q hq => ⟨by have := hq.1; omega, by have := hq.2; omega⟩)
          first | refine e_if_neB 70 68 (by decide) rfl dX2_take_65 rfl (fun g4 => ?_) (fun g4 => ?_) | refine e_if_neN 70 68 (by decide) rfl dX2_take_65 rfl (by omega) (fun g4 => ?_) (fun g4 => ?_) | refine e_if_ne 70 68 (by decide) rfl dX2_take_65 (fun g4 => ?_) (fun g4 => ?_)
          · omega
          refine e_iconst (nI 0) 69 rfl dX2_take_68 ic_0 ?_
          refine e_zret dX2_take_69 rfl (by first | exact z0 | exact z1 | exact bI01 _ | assumption) ?_
          refine kf ?_ μ2 (hF.trans hF2n)
          unfold nameOK
          rw [hsp3]
          simp [hwd]
      refine e_il4 12 rfl dX2_take_10 ?_
      refine e_il2 13 rfl dX2_take_12 ?_
      first | refine e_cmp_gtN 91 16 (by decide) rfl dX2_take_13 rfl rfl (by omega) (by omega) (fun g1 => ?_) (fun g1 => ?_) | refine e_cmp_gt 91 16 (by decide) rfl dX2_take_13 (fun g1 => ?_) (fun g1 => ?_)
      · omega
      refine e_il2 17 rfl dX2_take_16 ?_
      refine e_al1 18 rfl dX2_take_17 ?_
      refine e_alen 19 rfl dX2_take_18 (by first | exact Or.inl (by assumption) | exact Or.inr (Or.inl (by assumption)) | exact Or.inr (Or.inr (by assumption))) (by assumption) ?_
      first | refine e_cmp_gtN 91 22 (by decide) rfl dX2_take_19 rfl rfl (by omega) (by omega) (fun g2 => ?_) (fun g2 => ?_) | refine e_cmp_gt 91 22 (by decide) rfl dX2_take_19 (fun g2 => ?_) (fun g2 => ?_)
      · omega
      refine e_il4 24 rfl dX2_take_22 ?_
      refine e_il2 25 rfl dX2_take_24 ?_
      first | refine e_cmp_geN 40 28 (by decide) rfl dX2_take_25 rfl rfl (by omega) (by omega) (fun g5 => ?_) (fun g5 => ?_) | refine e_cmp_ge 40 28 (by decide) rfl dX2_take_25 (fun g5 => ?_) (fun g5 => ?_)
      · exact cut (Or.inl (by omega))
      have hB1 := (hBt i (by omega)).1
      refine e_al1 29 rfl dX2_take_28 ?_
      refine e_il4 31 rfl dX2_take_29 ?_
      first | refine e_baldv 32 rfl dX2_take_31 (by assumption) (by assumption) (by first | rfl | simp only [pk_mul, nI_add]) (by omega) (by omega) (by first | assumption | (simp only [mN_sF, mK_sF, mL_sF, mF_sF, mB_sF, mA_sF, mJ_sF, mP_sF, mO_sF, mN_sB, mK_sB, mL_sB, mF_sB, mB_sB, mA_sB, mJ_sB, mP_sB, mO_sB, mN_sA, mK_sA, mL_sA, mF_sA, mB_sA, mA_sA, mJ_sA, mP_sA, mO_sA, mN_sJ, mK_sJ, mL_sJ, mF_sJ, mB_sJ, mA_sJ, mJ_sJ, mP_sJ, mO_sJ, mN_sP, mK_sP, mL_sP, mF_sP, mB_sP, mA_sP, mJ_sP, mP_sP, mO_sP, mN_sO, mK_sO, mL_sO, mF_sO, mB_sO, mA_sO, mJ_sO, mP_sO, mO_sO, up2, if_true, if_false, eq_self, ite_true, ite_false, reduceIte, Nat.add_left_cancel_iff, Nat.add_eq_left, Nat.left_eq_add, Nat.reduceEqDiff]; assumption) | (simp only [mN_sF, mK_sF, mL_sF, mF_sF, mB_sF, mA_sF, mJ_sF, mP_sF, mO_sF, mN_sB, mK_sB, mL_sB, mF_sB, mB_sB, mA_sB, mJ_sB, mP_sB, mO_sB, mN_sA, mK_sA, mL_sA, mF_sA, mB_sA, mA_sA, mJ_sA, mP_sA, mO_sA, mN_sJ, mK_sJ, mL_sJ, mF_sJ, mB_sJ, mA_sJ, mJ_sJ, mP_sJ, mO_sJ, mN_sP, mK_sP, mL_sP, mF_sP, mB_sP, mA_sP, mJ_sP, mP_sP, mO_sP, mN_sO, mK_sO, mL_sO, mF_sO, mB_sO, mA_sO, mJ_sO, mP_sO, mO_sO, up2, if_true, if_false, eq_self, ite_true, ite_false, reduceIte, Nat.add_left_cancel_iff, Nat.add_eq_left, Nat.left_eq_add, Nat.reduceEqDiff]; done)) ?_ | refine e_zaldv 32 rfl dX2_take_31 (by assumption) (by assumption) (by first | rfl | simp only [pk_mul, nI_add]) (by omega) (by omega) (by first | assumption | (simp only [mN_sF, mK_sF, mL_sF, mF_sF, mB_sF, mA_sF, mJ_sF, mP_sF, mO_sF, mN_sB, mK_sB, mL_sB, mF_sB, mB_sB, mA_sB, mJ_sB, mP_sB, mO_sB, mN_sA, mK_sA, mL_sA, mF_sA, mB_sA, mA_sA, mJ_sA, mP_sA, mO_sA, mN_sJ, mK_sJ, mL_sJ, mF_sJ, mB_sJ, mA_sJ, mJ_sJ, mP_sJ, mO_sJ, mN_sP, mK_sP, mL_sP, mF_sP, mB_sP, mA_sP, mJ_sP, mP_sP, mO_sP, mN_sO, mK_sO, mL_sO, mF_sO, mB_sO, mA_sO, mJ_sO, mP_sO, mO_sO, up2, if_true, if_false, eq_self, ite_true, ite_false, reduceIte, Nat.add_left_cancel_iff, Nat.add_eq_left, Nat.left_eq_add, Nat.reduceEqDiff]; assumption) | (simp only [mN_sF, mK_sF, mL_sF, mF_sF, mB_sF, mA_sF, mJ_sF, mP_sF, mO_sF, mN_sB, mK_sB, mL_sB, mF_sB, mB_sB, mA_sB, mJ_sB, mP_sB, mO_sB, mN_sA, mK_sA, mL_sA, mF_sA, mB_sA, mA_sA, mJ_sA, mP_sA, mO_sA, mN_sJ, mK_sJ, mL_sJ, mF_sJ, mB_sJ, mA_sJ, mJ_sJ, mP_sJ, mO_sJ, mN_sP, mK_sP, mL_sP, mF_sP, mB_sP, mA_sP, mJ_sP, mP_sP, mO_sP, mN_sO, mK_sO, mL_sO, mF_sO, mB_sO, mA_sO, mJ_sO, mP_sO, mO_sO, up2, if_true, if_false, eq_self, ite_true, ite_false, reduceIte, Nat.add_left_cancel_iff, Nat.add_eq_left, Nat.left_eq_add, Nat.reduceEqDiff]; done)) ?_ | refine e_bald 32 rfl dX2_take_31 (by assumption) (by assumption) (by first | rfl | simp only [pk_mul, nI_add]) (by omega) (by omega) ?_ | refine e_zald 32 rfl dX2_take_31 (by assumption) (by assumption) (by first | rfl | simp only [pk_mul, nI_add]) (by omega) (by omega) ?_
      refine e_bipush (nI 32) 34 rfl dX2_take_32 bc_32 ?_
      first | refine e_cmp_eqN 40 37 (by decide) rfl dX2_take_34 rfl rfl (by omega) (by omega) (fun g6 => ?_) (fun g6 => ?_) | refine e_cmp_eq 40 37 (by decide) rfl dX2_take_34 (fun g6 => ?_) (fun g6 => ?_)
      · exact cut (Or.inr ⟨g5, (sb_eq _ (hBt i (by omega)).2 32 (by decide)).mp g6⟩)
      · refine e_goto 85 (by decide) dX2_take_37 ?_
        refine e_ii4 (nI (_ + 1)) 88 rfl dX2_take_85 (ii1 _) rfl ?_
        refine e_goto 10 (by decide) dX2_take_88 ?_
        refine ih (i + 1) (by omega) s ws μ' (by omega) (fun j q1 q2 => ?_) (by rw [if_pos hsm]; exact hsp) (Or.inl hsm) hw8 hall hne2 hF hNI (fun q => by omega)
        by_cases e : j = i
        · subst e; exact fun q => g6 ((sb_eq _ (hBt j (by omega)).2 32 (by decide)).mpr q)
        · exact hnb j q1 (by omega)
  refine Cl.of0 2 pn_X2 (Nat.le_of_ble_eq_true rfl) ⟨rfl, rfl⟩ rfl ?_
  refine e_al0 1 rfl dX2_take_0 ?_
  refine e_iconst (nI 0) 2 rfl dX2_take_1 ic_0 ?_
  refine e_putI 5 rfl dX2_take_2 f_X2_15 (by assumption) ?_
  refine e_iconst (nI 0) 6 rfl dX2_take_5 ic_0 ?_
  refine e_is3 7 rfl dX2_take_6 (by decide) rfl ?_
  refine e_iconst (nI 0) 8 rfl dX2_take_7 ic_0 ?_
  refine e_is4 10 rfl dX2_take_8 (by decide) rfl ?_
  exact loop (m + 1) 0 (by omega) 0 [] _ (Nat.le_refl 0) (fun j _ h => by omega) (by simp) (Or.inl (by omega)) (by simp) rfl (Or.inl (by omega)) (Fr.rf.sF Sa _ _) ⟨by simp only [mN_sF, mK_sF, mL_sF, mF_sF, mB_sF, mA_sF, mJ_sF, mP_sF, mO_sF, mN_sB, mK_sB, mL_sB, mF_sB, mB_sB, mA_sB, mJ_sB, mP_sB, mO_sB, mN_sA, mK_sA, mL_sA, mF_sA, mB_sA, mA_sA, mJ_sA, mP_sA, mO_sA, mN_sJ, mK_sJ, mL_sJ, mF_sJ, mB_sJ, mA_sJ, mJ_sJ, mP_sJ, mO_sJ, mN_sP, mK_sP, mL_sP, mF_sP, mB_sP, mA_sP, mJ_sP, mP_sP, mO_sP, mN_sO, mK_sO, mL_sO, mF_sO, mB_sO, mA_sO, mJ_sO, mP_sO, mO_sO, up2, if_true, if_false, eq_self, ite_true, ite_false, reduceIte, Nat.add_left_cancel_iff, Nat.add_eq_left, Nat.left_eq_add, Nat.reduceEqDiff]; rfl, fun j w hj => by simp at hj⟩ (fun q => by omega)
end NAME
