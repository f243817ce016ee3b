/-! NameDeskModel: signs, over, sign, look -/
section MSIGN
variable {E : En} {μ : Mm} {K : Option Value → Mm → Prop}
/-- the words from place w on, with the blanks ahead -/
def sfL : List (List Nat) → Nat → List Nat
  | [], _ => []
  | x :: r, w => bl w ++ x ++ sfL r (w + 1)
theorem jn_sf (ws : List (List Nat)) : ∀ n, n ≤ ws.length → jn ws n ++ sfL (ws.drop n) n = sfL ws 0 := by
  intro n
  induction n with
  | zero => intro _; rfl
  | succ n ih =>
    intro h
    rw [← ih (by omega), jn, List.drop_eq_getElem_cons (show n < ws.length by omega), sfL, List.getD_eq_getElem?_getD, List.getElem?_eq_getElem (show n < ws.length by omega)]
    simp
theorem jn_all (ws : List (List Nat)) : jn ws ws.length = sfL ws 0 := by
  have := jn_sf ws ws.length (Nat.le_refl _)
  rw [List.drop_length, sfL, List.append_nil] at this
  exact this
theorem jn_sum (ws : List (List Nat)) : ∀ n, (jn ws n).length = (n - 1) + sumF (fun w => (ws.getD w []).length) n := by
  intro n
  induction n with
  | zero => rfl
  | succ n ih =>
    rw [jn, List.length_append, List.length_append, ih, sumF]
    unfold bl
    by_cases c : n = 0
    · rw [if_pos c, c]; simp
    · rw [if_neg c]; simp; omega
theorem app_get {x y : List Nat} {k : Nat} : (x ++ y)[k]? = if k < x.length then x[k]? else y[k - x.length]? := by
  by_cases h : k < x.length
  · rw [if_pos h, List.getElem?_append_left h]
  · rw [if_neg h, List.getElem?_append_right (by omega)]
theorem sgn_nI {l : List Nat} {k : Nat} (h : k < 2 ^ 31) : sgn l (nI k) = seeI l[k]? := by
  unfold sgn
  rw [if_neg (nI_pos h)]
  have e : (nI k).toNatClampNeg = k := by
    rw [Int32.toNatClampNeg, nI_toInt h]; rfl
  rw [e]
  rfl
theorem c_over {m i k0 : Nat} {S : Ast} {nm : Nm} (hW : WF S) (hM : MI m S μ) (hi : (aN S)[i]? = some nm) (hk : k0 < 2 ^ 31) (k : K (some (.int (seeI (pln (aL S) nm)[k0]?))) μ) : Cl E M_X10_over [.ref m, .int (nI i), .int (nI k0)] μ K := by
  have n30 := hW.2.2.2.1.1
  have mk := hM.1.1
  have hil := (List.getElem?_eq_some_iff.mp hi).1
  have hwf := hW.2.2.2.1.2 nm (List.mem_of_getElem? hi)
  have hn8 := hwf.2.2.1
  obtain ⟨n1, n2, n3⟩ := hM.2.2.2.2.2.1.2 i nm hi
  have hTb := hM.2.2.2.2.2.2
  obtain ⟨pw, kw, lw⟩ := hM.1.nWords
  obtain ⟨pz, kz, lz⟩ := hM.1.foldSize
  obtain ⟨pf, kf, lf⟩ := hM.1.fold
  obtain ⟨pbz, kbz, lbz⟩ := hM.1.becomesSize
  obtain ⟨pb, kb, lb⟩ := hM.1.becomes
  obtain ⟨ws, hws⟩ : ∃ ws, ws = (fsN nm).map (putL (aL S)) := ⟨_, rfl⟩
  have hwl : ws.length = nm.2.length := by rw [hws, List.length_map, fsN_len]
  have hp : pln (aL S) nm = sfL ws 0 := by unfold pln; rw [← hws, ← hwl]; exact jn_all ws
  rw [hp] at k
  have loop : ∀ (fu w : Nat), w + fu = nm.2.length → ∀ lf, lf < 2 ^ 31 → (sfL ws 0)[k0]? = (sfL (ws.drop w) w)[lf]? → ∀ q5 q6, nl q5 = true → Ev E M_X10_over 0 0 8 [some (.ref m), some (.int (nI i)), some (.int (nI k0)), some (.int (nI lf)), some (.int (nI (8 * i + w))), q5, q6] [] μ K := by
    intro fu
    induction fu with
    | zero =>
      intro w hw lf hlf he q5 q6 hq5
      refine e_il4 10 rfl dX10_over_8 ?_
      refine e_bipush (nI 8) 12 rfl dX10_over_10 bc_8 ?_
      refine e_il1 13 rfl dX10_over_12 ?_
      first | refine e_imulN 14 rfl dX10_over_13 rfl rfl ?_ | refine e_imul 14 rfl dX10_over_13 ?_
      refine e_al0 15 rfl dX10_over_14 ?_
      refine e_getR 18 rfl dX10_over_15 f_X10_63 (by assumption) (by assumption) ?_
      refine e_il1 19 rfl dX10_over_18 ?_
      first | refine e_ialdv 20 rfl dX10_over_19 (by assumption) (by assumption) (by first | rfl | simp only [pk_mul, nI_add]) (by omega) (by omega) (by first | assumption | (simp only [mN_sF, mK_sF, mL_sF, mF_sF, mB_sF, mA_sF, mJ_sF, mP_sF, mO_sF, mN_sB, mK_sB, mL_sB, mF_sB, mB_sB, mA_sB, mJ_sB, mP_sB, mO_sB, mN_sA, mK_sA, mL_sA, mF_sA, mB_sA, mA_sA, mJ_sA, mP_sA, mO_sA, mN_sJ, mK_sJ, mL_sJ, mF_sJ, mB_sJ, mA_sJ, mJ_sJ, mP_sJ, mO_sJ, mN_sP, mK_sP, mL_sP, mF_sP, mB_sP, mA_sP, mJ_sP, mP_sP, mO_sP, mN_sO, mK_sO, mL_sO, mF_sO, mB_sO, mA_sO, mJ_sO, mP_sO, mO_sO, up2, if_true, if_false, eq_self, ite_true, ite_false, reduceIte, Nat.add_left_cancel_iff, Nat.add_eq_left, Nat.left_eq_add, Nat.reduceEqDiff]; assumption) | (simp only [mN_sF, mK_sF, mL_sF, mF_sF, mB_sF, mA_sF, mJ_sF, mP_sF, mO_sF, mN_sB, mK_sB, mL_sB, mF_sB, mB_sB, mA_sB, mJ_sB, mP_sB, mO_sB, mN_sA, mK_sA, mL_sA, mF_sA, mB_sA, mA_sA, mJ_sA, mP_sA, mO_sA, mN_sJ, mK_sJ, mL_sJ, mF_sJ, mB_sJ, mA_sJ, mJ_sJ, mP_sJ, mO_sJ, mN_sP, mK_sP, mL_sP, mF_sP, mB_sP, mA_sP, mJ_sP, mP_sP, mO_sP, mN_sO, mK_sO, mL_sO, mF_sO, mB_sO, mA_sO, mJ_sO, mP_sO, mO_sO, up2, if_true, if_false, eq_self, ite_true, ite_false, reduceIte, Nat.add_left_cancel_iff, Nat.add_eq_left, Nat.left_eq_add, Nat.reduceEqDiff]; done)) ?_ | refine e_iald 20 rfl dX10_over_19 (by assumption) (by assumption) (by first | rfl | simp only [pk_mul, nI_add]) (by omega) (by omega) ?_
      first | refine e_iaddN 21 rfl dX10_over_20 rfl rfl ?_ | refine e_iadd 21 rfl dX10_over_20 ?_
      first | refine e_cmp_geN 121 24 (by decide) rfl dX10_over_21 rfl rfl (by omega) (by omega) (fun y1 => ?_) (fun y1 => ?_) | refine e_cmp_ge 121 24 (by decide) rfl dX10_over_21 (fun y1 => ?_) (fun y1 => ?_)
      rotate_left
      · omega
      rw [he, List.drop_eq_nil_of_le (by omega), sfL] at k
      refine e_iconst (-1) 122 rfl dX10_over_121 ic_m1 ?_
      refine e_iret dX10_over_122 rfl ?_
      exact k
    | succ fu ih =>
      intro w hw lf hlf he q5 q6 hq5
      have hwn : w < nm.2.length := by omega
      have hv : nm.2[w]? = some nm.2[w] := List.getElem?_eq_getElem hwn
      have d := n3 w _ hv
      have vz := d.2.1
      have x1 := wordL (hwf.2.2.2 _ (List.getElem_mem hwn))
      have x20 := x1.2.2.2.1
      obtain ⟨f, hf⟩ : ∃ f, f = foldL nm.2[w] := ⟨_, rfl⟩
      have hfr : ∀ c ∈ f, 97 ≤ c ∧ c ≤ 122 := by rw [hf]; exact foldL_r
      have dH := d.2.2
      rw [← hf] at vz x20 dH
      have ew : ws[w]'(by omega) = putL (aL S) f := by
        simp only [hws, List.getElem_map, fsN]
        rw [hf]
      rw [List.drop_eq_getElem_cons (show w < ws.length by omega), sfL, ew] at he
      -- the letters of the word
      have inner : ∀ (gu t : Nat), t + gu = f.length → ∀ lf, lf < 2 ^ 31 → (sfL ws 0)[k0]? = (putL (aL S) (f.drop t) ++ sfL (ws.drop (w + 1)) (w + 1))[lf]? → ∀ q6, Ev E M_X10_over 0 0 46 [some (.ref m), some (.int (nI i)), some (.int (nI k0)), some (.int (nI lf)), some (.int (nI (8 * i + w))), some (.int (nI t)), q6] [] μ K := by
        intro gu
        induction gu with
        | zero =>
          intro t ht lf hlf he q6
          refine e_il5 48 rfl dX10_over_46 ?_
          refine e_al0 49 rfl dX10_over_48 ?_
          refine e_getR 52 rfl dX10_over_49 f_X10_75 (by assumption) (by assumption) ?_
          refine e_il4 54 rfl dX10_over_52 ?_
          first | refine e_ialdv 55 rfl dX10_over_54 (by assumption) (by assumption) (by first | rfl | simp only [pk_mul, nI_add]) (by omega) (by omega) (by first | assumption | (simp only [mN_sF, mK_sF, mL_sF, mF_sF, mB_sF, mA_sF, mJ_sF, mP_sF, mO_sF, mN_sB, mK_sB, mL_sB, mF_sB, mB_sB, mA_sB, mJ_sB, mP_sB, mO_sB, mN_sA, mK_sA, mL_sA, mF_sA, mB_sA, mA_sA, mJ_sA, mP_sA, mO_sA, mN_sJ, mK_sJ, mL_sJ, mF_sJ, mB_sJ, mA_sJ, mJ_sJ, mP_sJ, mO_sJ, mN_sP, mK_sP, mL_sP, mF_sP, mB_sP, mA_sP, mJ_sP, mP_sP, mO_sP, mN_sO, mK_sO, mL_sO, mF_sO, mB_sO, mA_sO, mJ_sO, mP_sO, mO_sO, up2, if_true, if_false, eq_self, ite_true, ite_false, reduceIte, Nat.add_left_cancel_iff, Nat.add_eq_left, Nat.left_eq_add, Nat.reduceEqDiff]; assumption) | (simp only [mN_sF, mK_sF, mL_sF, mF_sF, mB_sF, mA_sF, mJ_sF, mP_sF, mO_sF, mN_sB, mK_sB, mL_sB, mF_sB, mB_sB, mA_sB, mJ_sB, mP_sB, mO_sB, mN_sA, mK_sA, mL_sA, mF_sA, mB_sA, mA_sA, mJ_sA, mP_sA, mO_sA, mN_sJ, mK_sJ, mL_sJ, mF_sJ, mB_sJ, mA_sJ, mJ_sJ, mP_sJ, mO_sJ, mN_sP, mK_sP, mL_sP, mF_sP, mB_sP, mA_sP, mJ_sP, mP_sP, mO_sP, mN_sO, mK_sO, mL_sO, mF_sO, mB_sO, mA_sO, mJ_sO, mP_sO, mO_sO, up2, if_true, if_false, eq_self, ite_true, ite_false, reduceIte, Nat.add_left_cancel_iff, Nat.add_eq_left, Nat.left_eq_add, Nat.reduceEqDiff]; done)) ?_ | refine e_iald 55 rfl dX10_over_54 (by assumption) (by assumption) (by first | rfl | simp only [pk_mul, nI_add]) (by omega) (by omega) ?_
          first | refine e_cmp_geN 115 58 (by decide) rfl dX10_over_55 rfl rfl (by omega) (by omega) (fun y4 => ?_) (fun y4 => ?_) | refine e_cmp_ge 115 58 (by decide) rfl dX10_over_55 (fun y4 => ?_) (fun y4 => ?_)
          rotate_left
          · omega
          refine e_ii4 (nI (_ + 1)) 118 rfl dX10_over_115 (ii1 _) rfl ?_
          refine e_goto 8 (by decide) dX10_over_118 ?_
          refine ih (w + 1) (by omega) lf hlf ?_ _ _ rfl
          rw [he, List.drop_eq_nil_of_le (by omega)]
          rfl
        | succ gu iht =>
          intro t ht lf hlf he q6
          have htl : t < f.length := by omega
          have v := dH.at htl
          have c1 := hfr _ (List.getElem_mem htl)
          obtain ⟨c, hc⟩ : ∃ c, c = f[t] - 97 := ⟨_, rfl⟩
          have hc26 : c < 26 := by omega
          obtain ⟨vb, vH⟩ := hTb c hc26
          have hc3 := (hW.2.2.2.2 c hc26).1
          have v' : mA μ (m + 20) (21 * (8 * i + w) + t) = nI f[t] := v
          rw [List.drop_eq_getElem_cons htl] at he
          have ep : putL (aL S) (f[t] :: f.drop (t + 1)) = aL S c ++ putL (aL S) (f.drop (t + 1)) := by unfold putL; rw [List.flatMap_cons, ← hc]
          rw [ep, List.append_assoc, app_get] at he
          refine e_il5 48 rfl dX10_over_46 ?_
          refine e_al0 49 rfl dX10_over_48 ?_
          refine e_getR 52 rfl dX10_over_49 f_X10_75 (by assumption) (by assumption) ?_
          refine e_il4 54 rfl dX10_over_52 ?_
          first | refine e_ialdv 55 rfl dX10_over_54 (by assumption) (by assumption) (by first | rfl | simp only [pk_mul, nI_add]) (by omega) (by omega) (by first | assumption | (simp only [mN_sF, mK_sF, mL_sF, mF_sF, mB_sF, mA_sF, mJ_sF, mP_sF, mO_sF, mN_sB, mK_sB, mL_sB, mF_sB, mB_sB, mA_sB, mJ_sB, mP_sB, mO_sB, mN_sA, mK_sA, mL_sA, mF_sA, mB_sA, mA_sA, mJ_sA, mP_sA, mO_sA, mN_sJ, mK_sJ, mL_sJ, mF_sJ, mB_sJ, mA_sJ, mJ_sJ, mP_sJ, mO_sJ, mN_sP, mK_sP, mL_sP, mF_sP, mB_sP, mA_sP, mJ_sP, mP_sP, mO_sP, mN_sO, mK_sO, mL_sO, mF_sO, mB_sO, mA_sO, mJ_sO, mP_sO, mO_sO, up2, if_true, if_false, eq_self, ite_true, ite_false, reduceIte, Nat.add_left_cancel_iff, Nat.add_eq_left, Nat.left_eq_add, Nat.reduceEqDiff]; assumption) | (simp only [mN_sF, mK_sF, mL_sF, mF_sF, mB_sF, mA_sF, mJ_sF, mP_sF, mO_sF, mN_sB, mK_sB, mL_sB, mF_sB, mB_sB, mA_sB, mJ_sB, mP_sB, mO_sB, mN_sA, mK_sA, mL_sA, mF_sA, mB_sA, mA_sA, mJ_sA, mP_sA, mO_sA, mN_sJ, mK_sJ, mL_sJ, mF_sJ, mB_sJ, mA_sJ, mJ_sJ, mP_sJ, mO_sJ, mN_sP, mK_sP, mL_sP, mF_sP, mB_sP, mA_sP, mJ_sP, mP_sP, mO_sP, mN_sO, mK_sO, mL_sO, mF_sO, mB_sO, mA_sO, mJ_sO, mP_sO, mO_sO, up2, if_true, if_false, eq_self, ite_true, ite_false, reduceIte, Nat.add_left_cancel_iff, Nat.add_eq_left, Nat.left_eq_add, Nat.reduceEqDiff]; done)) ?_ | refine e_iald 55 rfl dX10_over_54 (by assumption) (by assumption) (by first | rfl | simp only [pk_mul, nI_add]) (by omega) (by omega) ?_
          first | refine e_cmp_geN 115 58 (by decide) rfl dX10_over_55 rfl rfl (by omega) (by omega) (fun y4 => ?_) (fun y4 => ?_) | refine e_cmp_ge 115 58 (by decide) rfl dX10_over_55 (fun y4 => ?_) (fun y4 => ?_)
          · omega
          refine e_al0 59 rfl dX10_over_58 ?_
          refine e_getR 62 rfl dX10_over_59 f_X10_72 (by assumption) (by assumption) ?_
          refine e_bipush (nI 21) 64 rfl dX10_over_62 bc_21 ?_
          refine e_il4 66 rfl dX10_over_64 ?_
          first | refine e_imulN 67 rfl dX10_over_66 rfl rfl ?_ | refine e_imul 67 rfl dX10_over_66 ?_
          refine e_il5 69 rfl dX10_over_67 ?_
          first | refine e_iaddN 70 rfl dX10_over_69 rfl rfl ?_ | refine e_iadd 70 rfl dX10_over_69 ?_
          first | refine e_ialdv 71 rfl dX10_over_70 (by assumption) (by assumption) (by first | rfl | simp only [pk_mul, nI_add]) (by omega) (by omega) (by first | assumption | (simp only [mN_sF, mK_sF, mL_sF, mF_sF, mB_sF, mA_sF, mJ_sF, mP_sF, mO_sF, mN_sB, mK_sB, mL_sB, mF_sB, mB_sB, mA_sB, mJ_sB, mP_sB, mO_sB, mN_sA, mK_sA, mL_sA, mF_sA, mB_sA, mA_sA, mJ_sA, mP_sA, mO_sA, mN_sJ, mK_sJ, mL_sJ, mF_sJ, mB_sJ, mA_sJ, mJ_sJ, mP_sJ, mO_sJ, mN_sP, mK_sP, mL_sP, mF_sP, mB_sP, mA_sP, mJ_sP, mP_sP, mO_sP, mN_sO, mK_sO, mL_sO, mF_sO, mB_sO, mA_sO, mJ_sO, mP_sO, mO_sO, up2, if_true, if_false, eq_self, ite_true, ite_false, reduceIte, Nat.add_left_cancel_iff, Nat.add_eq_left, Nat.left_eq_add, Nat.reduceEqDiff]; assumption) | (simp only [mN_sF, mK_sF, mL_sF, mF_sF, mB_sF, mA_sF, mJ_sF, mP_sF, mO_sF, mN_sB, mK_sB, mL_sB, mF_sB, mB_sB, mA_sB, mJ_sB, mP_sB, mO_sB, mN_sA, mK_sA, mL_sA, mF_sA, mB_sA, mA_sA, mJ_sA, mP_sA, mO_sA, mN_sJ, mK_sJ, mL_sJ, mF_sJ, mB_sJ, mA_sJ, mJ_sJ, mP_sJ, mO_sJ, mN_sP, mK_sP, mL_sP, mF_sP, mB_sP, mA_sP, mJ_sP, mP_sP, mO_sP, mN_sO, mK_sO, mL_sO, mF_sO, mB_sO, mA_sO, mJ_sO, mP_sO, mO_sO, up2, if_true, if_false, eq_self, ite_true, ite_false, reduceIte, Nat.add_left_cancel_iff, Nat.add_eq_left, Nat.left_eq_add, Nat.reduceEqDiff]; done)) ?_ | refine e_iald 71 rfl dX10_over_70 (by assumption) (by assumption) (by first | rfl | simp only [pk_mul, nI_add]) (by omega) (by omega) ?_
          refine e_bipush (nI 97) 73 rfl dX10_over_71 bc_97 ?_
          first | refine e_isubN 74 rfl dX10_over_73 rfl rfl (by omega) ?_ | refine e_isub 74 rfl dX10_over_73 ?_
          rw [← hc]
          refine e_is6 76 rfl dX10_over_74 (by decide) rfl ?_
          refine e_il3 77 rfl dX10_over_76 ?_
          refine e_al0 78 rfl dX10_over_77 ?_
          refine e_getR 81 rfl dX10_over_78 f_X10_81 (by assumption) (by assumption) ?_
          refine e_il6 83 rfl dX10_over_81 ?_
          first | refine e_ialdv 84 rfl dX10_over_83 (by assumption) (by assumption) (by first | rfl | simp only [pk_mul, nI_add]) (by omega) (by omega) (by first | assumption | (simp only [mN_sF, mK_sF, mL_sF, mF_sF, mB_sF, mA_sF, mJ_sF, mP_sF, mO_sF, mN_sB, mK_sB, mL_sB, mF_sB, mB_sB, mA_sB, mJ_sB, mP_sB, mO_sB, mN_sA, mK_sA, mL_sA, mF_sA, mB_sA, mA_sA, mJ_sA, mP_sA, mO_sA, mN_sJ, mK_sJ, mL_sJ, mF_sJ, mB_sJ, mA_sJ, mJ_sJ, mP_sJ, mO_sJ, mN_sP, mK_sP, mL_sP, mF_sP, mB_sP, mA_sP, mJ_sP, mP_sP, mO_sP, mN_sO, mK_sO, mL_sO, mF_sO, mB_sO, mA_sO, mJ_sO, mP_sO, mO_sO, up2, if_true, if_false, eq_self, ite_true, ite_false, reduceIte, Nat.add_left_cancel_iff, Nat.add_eq_left, Nat.left_eq_add, Nat.reduceEqDiff]; assumption) | (simp only [mN_sF, mK_sF, mL_sF, mF_sF, mB_sF, mA_sF, mJ_sF, mP_sF, mO_sF, mN_sB, mK_sB, mL_sB, mF_sB, mB_sB, mA_sB, mJ_sB, mP_sB, mO_sB, mN_sA, mK_sA, mL_sA, mF_sA, mB_sA, mA_sA, mJ_sA, mP_sA, mO_sA, mN_sJ, mK_sJ, mL_sJ, mF_sJ, mB_sJ, mA_sJ, mJ_sJ, mP_sJ, mO_sJ, mN_sP, mK_sP, mL_sP, mF_sP, mB_sP, mA_sP, mJ_sP, mP_sP, mO_sP, mN_sO, mK_sO, mL_sO, mF_sO, mB_sO, mA_sO, mJ_sO, mP_sO, mO_sO, up2, if_true, if_false, eq_self, ite_true, ite_false, reduceIte, Nat.add_left_cancel_iff, Nat.add_eq_left, Nat.left_eq_add, Nat.reduceEqDiff]; done)) ?_ | refine e_iald 84 rfl dX10_over_83 (by assumption) (by assumption) (by first | rfl | simp only [pk_mul, nI_add]) (by omega) (by omega) ?_
          first | refine e_cmp_geN 99 87 (by decide) rfl dX10_over_84 rfl rfl (by omega) (by omega) (fun y5 => ?_) (fun y5 => ?_) | refine e_cmp_ge 99 87 (by decide) rfl dX10_over_84 (fun y5 => ?_) (fun y5 => ?_)
          · rw [if_neg (by omega)] at he
            refine e_il3 100 rfl dX10_over_99 ?_
            refine e_al0 101 rfl dX10_over_100 ?_
            refine e_getR 104 rfl dX10_over_101 f_X10_81 (by assumption) (by assumption) ?_
            refine e_il6 106 rfl dX10_over_104 ?_
            first | refine e_ialdv 107 rfl dX10_over_106 (by assumption) (by assumption) (by first | rfl | simp only [pk_mul, nI_add]) (by omega) (by omega) (by first | assumption | (simp only [mN_sF, mK_sF, mL_sF, mF_sF, mB_sF, mA_sF, mJ_sF, mP_sF, mO_sF, mN_sB, mK_sB, mL_sB, mF_sB, mB_sB, mA_sB, mJ_sB, mP_sB, mO_sB, mN_sA, mK_sA, mL_sA, mF_sA, mB_sA, mA_sA, mJ_sA, mP_sA, mO_sA, mN_sJ, mK_sJ, mL_sJ, mF_sJ, mB_sJ, mA_sJ, mJ_sJ, mP_sJ, mO_sJ, mN_sP, mK_sP, mL_sP, mF_sP, mB_sP, mA_sP, mJ_sP, mP_sP, mO_sP, mN_sO, mK_sO, mL_sO, mF_sO, mB_sO, mA_sO, mJ_sO, mP_sO, mO_sO, up2, if_true, if_false, eq_self, ite_true, ite_false, reduceIte, Nat.add_left_cancel_iff, Nat.add_eq_left, Nat.left_eq_add, Nat.reduceEqDiff]; assumption) | (simp only [mN_sF, mK_sF, mL_sF, mF_sF, mB_sF, mA_sF, mJ_sF, mP_sF, mO_sF, mN_sB, mK_sB, mL_sB, mF_sB, mB_sB, mA_sB, mJ_sB, mP_sB, mO_sB, mN_sA, mK_sA, mL_sA, mF_sA, mB_sA, mA_sA, mJ_sA, mP_sA, mO_sA, mN_sJ, mK_sJ, mL_sJ, mF_sJ, mB_sJ, mA_sJ, mJ_sJ, mP_sJ, mO_sJ, mN_sP, mK_sP, mL_sP, mF_sP, mB_sP, mA_sP, mJ_sP, mP_sP, mO_sP, mN_sO, mK_sO, mL_sO, mF_sO, mB_sO, mA_sO, mJ_sO, mP_sO, mO_sO, up2, if_true, if_false, eq_self, ite_true, ite_false, reduceIte, Nat.add_left_cancel_iff, Nat.add_eq_left, Nat.left_eq_add, Nat.reduceEqDiff]; done)) ?_ | refine e_iald 107 rfl dX10_over_106 (by assumption) (by assumption) (by first | rfl | simp only [pk_mul, nI_add]) (by omega) (by omega) ?_
            first | refine e_isubN 108 rfl dX10_over_107 rfl rfl (by omega) ?_ | refine e_isub 108 rfl dX10_over_107 ?_
            refine e_is3 109 rfl dX10_over_108 (by decide) rfl ?_
            refine e_ii5 (nI (_ + 1)) 112 rfl dX10_over_109 (ii1 _) rfl ?_
            refine e_goto 46 (by decide) dX10_over_112 ?_
            exact iht (t + 1) (by omega) _ (by omega) he _
          · have hlt : lf < (aL S c).length := by omega
            rw [if_pos hlt, List.getElem?_eq_getElem hlt] at he
            have vv : mA μ (m + 22) (3 * c + lf) = nI (aL S c)[lf] := vH.at hlt
            refine e_al0 88 rfl dX10_over_87 ?_
            refine e_getR 91 rfl dX10_over_88 f_X10_78 (by assumption) (by assumption) ?_
            refine e_iconst (nI 3) 92 rfl dX10_over_91 ic_3 ?_
            refine e_il6 94 rfl dX10_over_92 ?_
            first | refine e_imulN 95 rfl dX10_over_94 rfl rfl ?_ | refine e_imul 95 rfl dX10_over_94 ?_
            refine e_il3 96 rfl dX10_over_95 ?_
            first | refine e_iaddN 97 rfl dX10_over_96 rfl rfl ?_ | refine e_iadd 97 rfl dX10_over_96 ?_
            first | refine e_ialdv 98 rfl dX10_over_97 (by assumption) (by assumption) (by first | rfl | simp only [pk_mul, nI_add]) (by omega) (by omega) (by first | assumption | (simp only [mN_sF, mK_sF, mL_sF, mF_sF, mB_sF, mA_sF, mJ_sF, mP_sF, mO_sF, mN_sB, mK_sB, mL_sB, mF_sB, mB_sB, mA_sB, mJ_sB, mP_sB, mO_sB, mN_sA, mK_sA, mL_sA, mF_sA, mB_sA, mA_sA, mJ_sA, mP_sA, mO_sA, mN_sJ, mK_sJ, mL_sJ, mF_sJ, mB_sJ, mA_sJ, mJ_sJ, mP_sJ, mO_sJ, mN_sP, mK_sP, mL_sP, mF_sP, mB_sP, mA_sP, mJ_sP, mP_sP, mO_sP, mN_sO, mK_sO, mL_sO, mF_sO, mB_sO, mA_sO, mJ_sO, mP_sO, mO_sO, up2, if_true, if_false, eq_self, ite_true, ite_false, reduceIte, Nat.add_left_cancel_iff, Nat.add_eq_left, Nat.left_eq_add, Nat.reduceEqDiff]; assumption) | (simp only [mN_sF, mK_sF, mL_sF, mF_sF, mB_sF, mA_sF, mJ_sF, mP_sF, mO_sF, mN_sB, mK_sB, mL_sB, mF_sB, mB_sB, mA_sB, mJ_sB, mP_sB, mO_sB, mN_sA, mK_sA, mL_sA, mF_sA, mB_sA, mA_sA, mJ_sA, mP_sA, mO_sA, mN_sJ, mK_sJ, mL_sJ, mF_sJ, mB_sJ, mA_sJ, mJ_sJ, mP_sJ, mO_sJ, mN_sP, mK_sP, mL_sP, mF_sP, mB_sP, mA_sP, mJ_sP, mP_sP, mO_sP, mN_sO, mK_sO, mL_sO, mF_sO, mB_sO, mA_sO, mJ_sO, mP_sO, mO_sO, up2, if_true, if_false, eq_self, ite_true, ite_false, reduceIte, Nat.add_left_cancel_iff, Nat.add_eq_left, Nat.left_eq_add, Nat.reduceEqDiff]; done)) ?_ | refine e_iald 98 rfl dX10_over_97 (by assumption) (by assumption) (by first | rfl | simp only [pk_mul, nI_add]) (by omega) (by omega) ?_
            refine e_iret dX10_over_98 rfl ?_
            rw [he] at k
            exact k
      by_cases w0 : w = 0
      · subst w0
        have hb0 : bl 0 = [] := rfl
        rw [hb0, List.nil_append] at he
        refine e_il4 10 rfl dX10_over_8 ?_
        refine e_bipush (nI 8) 12 rfl dX10_over_10 bc_8 ?_
        refine e_il1 13 rfl dX10_over_12 ?_
        first | refine e_imulN 14 rfl dX10_over_13 rfl rfl ?_ | refine e_imul 14 rfl dX10_over_13 ?_
        refine e_al0 15 rfl dX10_over_14 ?_
        refine e_getR 18 rfl dX10_over_15 f_X10_63 (by assumption) (by assumption) ?_
        refine e_il1 19 rfl dX10_over_18 ?_
        first | refine e_ialdv 20 rfl dX10_over_19 (by assumption) (by assumption) (by first | rfl | simp only [pk_mul, nI_add]) (by omega) (by omega) (by first | assumption | (simp only [mN_sF, mK_sF, mL_sF, mF_sF, mB_sF, mA_sF, mJ_sF, mP_sF, mO_sF, mN_sB, mK_sB, mL_sB, mF_sB, mB_sB, mA_sB, mJ_sB, mP_sB, mO_sB, mN_sA, mK_sA, mL_sA, mF_sA, mB_sA, mA_sA, mJ_sA, mP_sA, mO_sA, mN_sJ, mK_sJ, mL_sJ, mF_sJ, mB_sJ, mA_sJ, mJ_sJ, mP_sJ, mO_sJ, mN_sP, mK_sP, mL_sP, mF_sP, mB_sP, mA_sP, mJ_sP, mP_sP, mO_sP, mN_sO, mK_sO, mL_sO, mF_sO, mB_sO, mA_sO, mJ_sO, mP_sO, mO_sO, up2, if_true, if_false, eq_self, ite_true, ite_false, reduceIte, Nat.add_left_cancel_iff, Nat.add_eq_left, Nat.left_eq_add, Nat.reduceEqDiff]; assumption) | (simp only [mN_sF, mK_sF, mL_sF, mF_sF, mB_sF, mA_sF, mJ_sF, mP_sF, mO_sF, mN_sB, mK_sB, mL_sB, mF_sB, mB_sB, mA_sB, mJ_sB, mP_sB, mO_sB, mN_sA, mK_sA, mL_sA, mF_sA, mB_sA, mA_sA, mJ_sA, mP_sA, mO_sA, mN_sJ, mK_sJ, mL_sJ, mF_sJ, mB_sJ, mA_sJ, mJ_sJ, mP_sJ, mO_sJ, mN_sP, mK_sP, mL_sP, mF_sP, mB_sP, mA_sP, mJ_sP, mP_sP, mO_sP, mN_sO, mK_sO, mL_sO, mF_sO, mB_sO, mA_sO, mJ_sO, mP_sO, mO_sO, up2, if_true, if_false, eq_self, ite_true, ite_false, reduceIte, Nat.add_left_cancel_iff, Nat.add_eq_left, Nat.left_eq_add, Nat.reduceEqDiff]; done)) ?_ | refine e_iald 20 rfl dX10_over_19 (by assumption) (by assumption) (by first | rfl | simp only [pk_mul, nI_add]) (by omega) (by omega) ?_
        first | refine e_iaddN 21 rfl dX10_over_20 rfl rfl ?_ | refine e_iadd 21 rfl dX10_over_20 ?_
        first | refine e_cmp_geN 121 24 (by decide) rfl dX10_over_21 rfl rfl (by omega) (by omega) (fun y1 => ?_) (fun y1 => ?_) | refine e_cmp_ge 121 24 (by decide) rfl dX10_over_21 (fun y1 => ?_) (fun y1 => ?_)
        · omega
        refine e_il4 26 rfl dX10_over_24 ?_
        refine e_bipush (nI 8) 28 rfl dX10_over_26 bc_8 ?_
        refine e_il1 29 rfl dX10_over_28 ?_
        first | refine e_imulN 30 rfl dX10_over_29 rfl rfl ?_ | refine e_imul 30 rfl dX10_over_29 ?_
        first | refine e_cmp_leN 43 33 (by decide) rfl dX10_over_30 rfl rfl (by omega) (by omega) (fun y2 => ?_) (fun y2 => ?_) | refine e_cmp_le 43 33 (by decide) rfl dX10_over_30 (fun y2 => ?_) (fun y2 => ?_)
        rotate_left
        · omega
        refine e_iconst (nI 0) 44 rfl dX10_over_43 ic_0 ?_
        refine e_is5 46 rfl dX10_over_44 (by decide) rfl ?_
        exact inner f.length 0 (by omega) lf hlf he _
      · have hb0 : bl w = [32] := by unfold bl; rw [if_neg w0]
        rw [hb0] at he
        refine e_il4 10 rfl dX10_over_8 ?_
        refine e_bipush (nI 8) 12 rfl dX10_over_10 bc_8 ?_
        refine e_il1 13 rfl dX10_over_12 ?_
        first | refine e_imulN 14 rfl dX10_over_13 rfl rfl ?_ | refine e_imul 14 rfl dX10_over_13 ?_
        refine e_al0 15 rfl dX10_over_14 ?_
        refine e_getR 18 rfl dX10_over_15 f_X10_63 (by assumption) (by assumption) ?_
        refine e_il1 19 rfl dX10_over_18 ?_
        first | refine e_ialdv 20 rfl dX10_over_19 (by assumption) (by assumption) (by first | rfl | simp only [pk_mul, nI_add]) (by omega) (by omega) (by first | assumption | (simp only [mN_sF, mK_sF, mL_sF, mF_sF, mB_sF, mA_sF, mJ_sF, mP_sF, mO_sF, mN_sB, mK_sB, mL_sB, mF_sB, mB_sB, mA_sB, mJ_sB, mP_sB, mO_sB, mN_sA, mK_sA, mL_sA, mF_sA, mB_sA, mA_sA, mJ_sA, mP_sA, mO_sA, mN_sJ, mK_sJ, mL_sJ, mF_sJ, mB_sJ, mA_sJ, mJ_sJ, mP_sJ, mO_sJ, mN_sP, mK_sP, mL_sP, mF_sP, mB_sP, mA_sP, mJ_sP, mP_sP, mO_sP, mN_sO, mK_sO, mL_sO, mF_sO, mB_sO, mA_sO, mJ_sO, mP_sO, mO_sO, up2, if_true, if_false, eq_self, ite_true, ite_false, reduceIte, Nat.add_left_cancel_iff, Nat.add_eq_left, Nat.left_eq_add, Nat.reduceEqDiff]; assumption) | (simp only [mN_sF, mK_sF, mL_sF, mF_sF, mB_sF, mA_sF, mJ_sF, mP_sF, mO_sF, mN_sB, mK_sB, mL_sB, mF_sB, mB_sB, mA_sB, mJ_sB, mP_sB, mO_sB, mN_sA, mK_sA, mL_sA, mF_sA, mB_sA, mA_sA, mJ_sA, mP_sA, mO_sA, mN_sJ, mK_sJ, mL_sJ, mF_sJ, mB_sJ, mA_sJ, mJ_sJ, mP_sJ, mO_sJ, mN_sP, mK_sP, mL_sP, mF_sP, mB_sP, mA_sP, mJ_sP, mP_sP, mO_sP, mN_sO, mK_sO, mL_sO, mF_sO, mB_sO, mA_sO, mJ_sO, mP_sO, mO_sO, up2, if_true, if_false, eq_self, ite_true, ite_false, reduceIte, Nat.add_left_cancel_iff, Nat.add_eq_left, Nat.left_eq_add, Nat.reduceEqDiff]; done)) ?_ | refine e_iald 20 rfl dX10_over_19 (by assumption) (by assumption) (by first | rfl | simp only [pk_mul, nI_add]) (by omega) (by omega) ?_
        first | refine e_iaddN 21 rfl dX10_over_20 rfl rfl ?_ | refine e_iadd 21 rfl dX10_over_20 ?_
        first | refine e_cmp_geN 121 24 (by decide) rfl dX10_over_21 rfl rfl (by omega) (by omega) (fun y1 => ?_) (fun y1 => ?_) | refine e_cmp_ge 121 24 (by decide) rfl dX10_over_21 (fun y1 => ?_) (fun y1 => ?_)
        · omega
        refine e_il4 26 rfl dX10_over_24 ?_
        refine e_bipush (nI 8) 28 rfl dX10_over_26 bc_8 ?_
        refine e_il1 29 rfl dX10_over_28 ?_
        first | refine e_imulN 30 rfl dX10_over_29 rfl rfl ?_ | refine e_imul 30 rfl dX10_over_29 ?_
        first | refine e_cmp_leN 43 33 (by decide) rfl dX10_over_30 rfl rfl (by omega) (by omega) (fun y2 => ?_) (fun y2 => ?_) | refine e_cmp_le 43 33 (by decide) rfl dX10_over_30 (fun y2 => ?_) (fun y2 => ?_)
        · omega
        cases lf with
        | zero =>
          refine e_il3 34 rfl dX10_over_33 ?_
          first | refine e_if_neB 40 37 (by decide) rfl dX10_over_34 rfl (fun y3 => ?_) (fun y3 => ?_) | refine e_if_neN 40 37 (by decide) rfl dX10_over_34 rfl (by omega) (fun y3 => ?_) (fun y3 => ?_) | refine e_if_ne 40 37 (by decide) rfl dX10_over_34 (fun y3 => ?_) (fun y3 => ?_)
          · exact absurd rfl y3
          refine e_bipush (nI 32) 39 rfl dX10_over_37 bc_32 ?_
          refine e_iret dX10_over_39 rfl ?_
          rw [he] at k
          exact k
        | succ lf =>
          refine e_il3 34 rfl dX10_over_33 ?_
          first | refine e_if_neB 40 37 (by decide) rfl dX10_over_34 rfl (fun y3 => ?_) (fun y3 => ?_) | refine e_if_neN 40 37 (by decide) rfl dX10_over_34 rfl (by omega) (fun y3 => ?_) (fun y3 => ?_) | refine e_if_ne 40 37 (by decide) rfl dX10_over_34 (fun y3 => ?_) (fun y3 => ?_)
          rotate_left
          · omega
          refine e_ii3 (nI _) 43 rfl dX10_over_40 (iim1 _) rfl ?_
          refine e_iconst (nI 0) 44 rfl dX10_over_43 ic_0 ?_
          refine e_is5 46 rfl dX10_over_44 (by decide) rfl ?_
          exact inner f.length 0 (by omega) lf (by omega) (by rw [he]; rfl) _
  refine Cl.of0 4 pn_X10 (Nat.le_of_ble_eq_true rfl) ⟨rfl, rfl⟩ rfl ?_
  refine e_il2 1 rfl dX10_over_0 ?_
  refine e_is3 2 rfl dX10_over_1 (by decide) rfl ?_
  refine e_bipush (nI 8) 4 rfl dX10_over_2 bc_8 ?_
  refine e_il1 5 rfl dX10_over_4 ?_
  first | refine e_imulN 6 rfl dX10_over_5 rfl rfl ?_ | refine e_imul 6 rfl dX10_over_5 ?_
  refine e_is4 8 rfl dX10_over_6 (by decide) rfl ?_
  exact loop nm.2.length 0 (by omega) k0 hk rfl _ _ rfl
theorem sumF_s {g : Nat → Nat} {n : Nat} : sumF g (n + 1) = sumF g n + g n := rfl
theorem c_signs1 {m i : Nat} {S : Ast} {nm : Nm} (hW : WF S) (hM : MI m S μ) (hi : (aN S)[i]? = some nm) (k : K (some (.int (nI (pln (aL S) nm).length))) μ) : Cl E M_X10_signs [.ref m, .int (nI i), .int (nI 1)] μ K := by
  have n30 := hW.2.2.2.1.1
  have mk := hM.1.1
  have hil := (List.getElem?_eq_some_iff.mp hi).1
  have hwf := hW.2.2.2.1.2 nm (List.mem_of_getElem? hi)
  have hn8 := hwf.2.2.1
  have hn1 := hwf.2.1
  obtain ⟨n1, n2, n3⟩ := hM.2.2.2.2.2.1.2 i nm hi
  have hTb := hM.2.2.2.2.2.2
  obtain ⟨pw, kw, lw⟩ := hM.1.nWords
  obtain ⟨pz, kz, lz⟩ := hM.1.foldSize
  obtain ⟨pf, kf, lf⟩ := hM.1.fold
  obtain ⟨pbz, kbz, lbz⟩ := hM.1.becomesSize
  obtain ⟨ws, hws⟩ : ∃ ws, ws = (fsN nm).map (putL (aL S)) := ⟨_, rfl⟩
  have hwl : ws.length = nm.2.length := by rw [hws, List.length_map, fsN_len]
  have hp : (pln (aL S) nm).length = (nm.2.length - 1) + sumF (fun w => (ws.getD w []).length) nm.2.length := by unfold pln; rw [← hws]; exact jn_sum ws _
  rw [hp] at k
  have loop : ∀ (fu w : Nat), w + fu = nm.2.length → ∀ q5, nl q5 = true → Ev E M_X10_signs 0 0 20 [some (.ref m), some (.int (nI i)), some (.int (nI 1)), some (.int (nI ((nm.2.length - 1) + sumF (fun w => (ws.getD w []).length) w))), some (.int (nI (8 * i + w))), q5] [] μ K := by
    intro fu
    induction fu with
    | zero =>
      intro w hw q5 hq5
      refine e_il4 22 rfl dX10_signs_20 ?_
      refine e_bipush (nI 8) 24 rfl dX10_signs_22 bc_8 ?_
      refine e_il1 25 rfl dX10_signs_24 ?_
      first | refine e_imulN 26 rfl dX10_signs_25 rfl rfl ?_ | refine e_imul 26 rfl dX10_signs_25 ?_
      refine e_al0 27 rfl dX10_signs_26 ?_
      refine e_getR 30 rfl dX10_signs_27 f_X10_63 (by assumption) (by assumption) ?_
      refine e_il1 31 rfl dX10_signs_30 ?_
      first | refine e_ialdv 32 rfl dX10_signs_31 (by assumption) (by assumption) (by first | rfl | simp only [pk_mul, nI_add]) (by omega) (by omega) (by first | assumption | (simp only [mN_sF, mK_sF, mL_sF, mF_sF, mB_sF, mA_sF, mJ_sF, mP_sF, mO_sF, mN_sB, mK_sB, mL_sB, mF_sB, mB_sB, mA_sB, mJ_sB, mP_sB, mO_sB, mN_sA, mK_sA, mL_sA, mF_sA, mB_sA, mA_sA, mJ_sA, mP_sA, mO_sA, mN_sJ, mK_sJ, mL_sJ, mF_sJ, mB_sJ, mA_sJ, mJ_sJ, mP_sJ, mO_sJ, mN_sP, mK_sP, mL_sP, mF_sP, mB_sP, mA_sP, mJ_sP, mP_sP, mO_sP, mN_sO, mK_sO, mL_sO, mF_sO, mB_sO, mA_sO, mJ_sO, mP_sO, mO_sO, up2, if_true, if_false, eq_self, ite_true, ite_false, reduceIte, Nat.add_left_cancel_iff, Nat.add_eq_left, Nat.left_eq_add, Nat.reduceEqDiff]; assumption) | (simp only [mN_sF, mK_sF, mL_sF, mF_sF, mB_sF, mA_sF, mJ_sF, mP_sF, mO_sF, mN_sB, mK_sB, mL_sB, mF_sB, mB_sB, mA_sB, mJ_sB, mP_sB, mO_sB, mN_sA, mK_sA, mL_sA, mF_sA, mB_sA, mA_sA, mJ_sA, mP_sA, mO_sA, mN_sJ, mK_sJ, mL_sJ, mF_sJ, mB_sJ, mA_sJ, mJ_sJ, mP_sJ, mO_sJ, mN_sP, mK_sP, mL_sP, mF_sP, mB_sP, mA_sP, mJ_sP, mP_sP, mO_sP, mN_sO, mK_sO, mL_sO, mF_sO, mB_sO, mA_sO, mJ_sO, mP_sO, mO_sO, up2, if_true, if_false, eq_self, ite_true, ite_false, reduceIte, Nat.add_left_cancel_iff, Nat.add_eq_left, Nat.left_eq_add, Nat.reduceEqDiff]; done)) ?_ | refine e_iald 32 rfl dX10_signs_31 (by assumption) (by assumption) (by first | rfl | simp only [pk_mul, nI_add]) (by omega) (by omega) ?_
      first | refine e_iaddN 33 rfl dX10_signs_32 rfl rfl ?_ | refine e_iadd 33 rfl dX10_signs_32 ?_
      first | refine e_cmp_geN 87 36 (by decide) rfl dX10_signs_33 rfl rfl (by omega) (by omega) (fun y1 => ?_) (fun y1 => ?_) | refine e_cmp_ge 87 36 (by decide) rfl dX10_signs_33 (fun y1 => ?_) (fun y1 => ?_)
      rotate_left
      · omega
      refine e_il3 88 rfl dX10_signs_87 ?_
      refine e_iret dX10_signs_88 rfl ?_
      rw [show w = nm.2.length by omega]
      exact k
    | succ fu ih =>
      intro w hw q5 hq5
      have hwn : w < nm.2.length := by omega
      have hv : nm.2[w]? = some nm.2[w] := List.getElem?_eq_getElem hwn
      have d := n3 w _ hv
      have vz := d.2.1
      have x1 := wordL (hwf.2.2.2 _ (List.getElem_mem hwn))
      have x20 := x1.2.2.2.1
      obtain ⟨f, hf⟩ : ∃ f, f = foldL nm.2[w] := ⟨_, rfl⟩
      have hfr : ∀ c ∈ f, 97 ≤ c ∧ c ≤ 122 := by rw [hf]; exact foldL_r
      have dH := d.2.2
      rw [← hf] at vz x20 dH
      have ew : ws.getD w [] = putL (aL S) f := by
        rw [List.getD_eq_getElem?_getD, List.getElem?_eq_getElem (by omega)]
        simp only [hws, List.getElem_map, fsN]
        rw [hf]; rfl
      have inner : ∀ (gu t : Nat), t + gu = f.length → Ev E M_X10_signs 0 0 39 [some (.ref m), some (.int (nI i)), some (.int (nI 1)), some (.int (nI ((nm.2.length - 1) + sumF (fun w => (ws.getD w []).length) w + (putL (aL S) (f.take t)).length))), some (.int (nI (8 * i + w))), some (.int (nI t))] [] μ K := by
        intro gu
        induction gu with
        | zero =>
          intro t ht
          refine e_il5 41 rfl dX10_signs_39 ?_
          refine e_al0 42 rfl dX10_signs_41 ?_
          refine e_getR 45 rfl dX10_signs_42 f_X10_75 (by assumption) (by assumption) ?_
          refine e_il4 47 rfl dX10_signs_45 ?_
          first | refine e_ialdv 48 rfl dX10_signs_47 (by assumption) (by assumption) (by first | rfl | simp only [pk_mul, nI_add]) (by omega) (by omega) (by first | assumption | (simp only [mN_sF, mK_sF, mL_sF, mF_sF, mB_sF, mA_sF, mJ_sF, mP_sF, mO_sF, mN_sB, mK_sB, mL_sB, mF_sB, mB_sB, mA_sB, mJ_sB, mP_sB, mO_sB, mN_sA, mK_sA, mL_sA, mF_sA, mB_sA, mA_sA, mJ_sA, mP_sA, mO_sA, mN_sJ, mK_sJ, mL_sJ, mF_sJ, mB_sJ, mA_sJ, mJ_sJ, mP_sJ, mO_sJ, mN_sP, mK_sP, mL_sP, mF_sP, mB_sP, mA_sP, mJ_sP, mP_sP, mO_sP, mN_sO, mK_sO, mL_sO, mF_sO, mB_sO, mA_sO, mJ_sO, mP_sO, mO_sO, up2, if_true, if_false, eq_self, ite_true, ite_false, reduceIte, Nat.add_left_cancel_iff, Nat.add_eq_left, Nat.left_eq_add, Nat.reduceEqDiff]; assumption) | (simp only [mN_sF, mK_sF, mL_sF, mF_sF, mB_sF, mA_sF, mJ_sF, mP_sF, mO_sF, mN_sB, mK_sB, mL_sB, mF_sB, mB_sB, mA_sB, mJ_sB, mP_sB, mO_sB, mN_sA, mK_sA, mL_sA, mF_sA, mB_sA, mA_sA, mJ_sA, mP_sA, mO_sA, mN_sJ, mK_sJ, mL_sJ, mF_sJ, mB_sJ, mA_sJ, mJ_sJ, mP_sJ, mO_sJ, mN_sP, mK_sP, mL_sP, mF_sP, mB_sP, mA_sP, mJ_sP, mP_sP, mO_sP, mN_sO, mK_sO, mL_sO, mF_sO, mB_sO, mA_sO, mJ_sO, mP_sO, mO_sO, up2, if_true, if_false, eq_self, ite_true, ite_false, reduceIte, Nat.add_left_cancel_iff, Nat.add_eq_left, Nat.left_eq_add, Nat.reduceEqDiff]; done)) ?_ | refine e_iald 48 rfl dX10_signs_47 (by assumption) (by assumption) (by first | rfl | simp only [pk_mul, nI_add]) (by omega) (by omega) ?_
          first | refine e_cmp_geN 81 51 (by decide) rfl dX10_signs_48 rfl rfl (by omega) (by omega) (fun y4 => ?_) (fun y4 => ?_) | refine e_cmp_ge 81 51 (by decide) rfl dX10_signs_48 (fun y4 => ?_) (fun y4 => ?_)
          rotate_left
          · omega
          refine e_ii4 (nI (_ + 1)) 84 rfl dX10_signs_81 (ii1 _) rfl ?_
          refine e_goto 20 (by decide) dX10_signs_84 ?_
          have := ih (w + 1) (by omega) (some (.int (nI t))) rfl
          rw [sumF_s, ew, ← Nat.add_assoc] at this
          rw [List.take_of_length_le (by omega)]
          exact this
        | succ gu iht =>
          intro t ht
          have htl : t < f.length := by omega
          have v : mA μ (m + 20) (21 * (8 * i + w) + t) = nI f[t] := dH.at htl
          have c1 := hfr _ (List.getElem_mem htl)
          obtain ⟨vb, vH⟩ := hTb (f[t] - 97) (by omega)
          have hn := iht (t + 1) (by omega)
          have ep : (putL (aL S) (f.take (t + 1))).length = (putL (aL S) (f.take t)).length + (aL S (f[t] - 97)).length := by
            rw [List.take_succ_eq_append_getElem htl]
            unfold putL
            rw [List.flatMap_append, List.length_append]
            simp
          rw [ep, ← Nat.add_assoc] at hn
          refine e_il5 41 rfl dX10_signs_39 ?_
          refine e_al0 42 rfl dX10_signs_41 ?_
          refine e_getR 45 rfl dX10_signs_42 f_X10_75 (by assumption) (by assumption) ?_
          refine e_il4 47 rfl dX10_signs_45 ?_
          first | refine e_ialdv 48 rfl dX10_signs_47 (by assumption) (by assumption) (by first | rfl | simp only [pk_mul, nI_add]) (by omega) (by omega) (by first | assumption | (simp only [mN_sF, mK_sF, mL_sF, mF_sF, mB_sF, mA_sF, mJ_sF, mP_sF, mO_sF, mN_sB, mK_sB, mL_sB, mF_sB, mB_sB, mA_sB, mJ_sB, mP_sB, mO_sB, mN_sA, mK_sA, mL_sA, mF_sA, mB_sA, mA_sA, mJ_sA, mP_sA, mO_sA, mN_sJ, mK_sJ, mL_sJ, mF_sJ, mB_sJ, mA_sJ, mJ_sJ, mP_sJ, mO_sJ, mN_sP, mK_sP, mL_sP, mF_sP, mB_sP, mA_sP, mJ_sP, mP_sP, mO_sP, mN_sO, mK_sO, mL_sO, mF_sO, mB_sO, mA_sO, mJ_sO, mP_sO, mO_sO, up2, if_true, if_false, eq_self, ite_true, ite_false, reduceIte, Nat.add_left_cancel_iff, Nat.add_eq_left, Nat.left_eq_add, Nat.reduceEqDiff]; assumption) | (simp only [mN_sF, mK_sF, mL_sF, mF_sF, mB_sF, mA_sF, mJ_sF, mP_sF, mO_sF, mN_sB, mK_sB, mL_sB, mF_sB, mB_sB, mA_sB, mJ_sB, mP_sB, mO_sB, mN_sA, mK_sA, mL_sA, mF_sA, mB_sA, mA_sA, mJ_sA, mP_sA, mO_sA, mN_sJ, mK_sJ, mL_sJ, mF_sJ, mB_sJ, mA_sJ, mJ_sJ, mP_sJ, mO_sJ, mN_sP, mK_sP, mL_sP, mF_sP, mB_sP, mA_sP, mJ_sP, mP_sP, mO_sP, mN_sO, mK_sO, mL_sO, mF_sO, mB_sO, mA_sO, mJ_sO, mP_sO, mO_sO, up2, if_true, if_false, eq_self, ite_true, ite_false, reduceIte, Nat.add_left_cancel_iff, Nat.add_eq_left, Nat.left_eq_add, Nat.reduceEqDiff]; done)) ?_ | refine e_iald 48 rfl dX10_signs_47 (by assumption) (by assumption) (by first | rfl | simp only [pk_mul, nI_add]) (by omega) (by omega) ?_
          first | refine e_cmp_geN 81 51 (by decide) rfl dX10_signs_48 rfl rfl (by omega) (by omega) (fun y4 => ?_) (fun y4 => ?_) | refine e_cmp_ge 81 51 (by decide) rfl dX10_signs_48 (fun y4 => ?_) (fun y4 => ?_)
          · omega
          refine e_il3 52 rfl dX10_signs_51 ?_
          refine e_al0 53 rfl dX10_signs_52 ?_
          refine e_getR 56 rfl dX10_signs_53 f_X10_81 (by assumption) (by assumption) ?_
          refine e_al0 57 rfl dX10_signs_56 ?_
          refine e_getR 60 rfl dX10_signs_57 f_X10_72 (by assumption) (by assumption) ?_
          refine e_bipush (nI 21) 62 rfl dX10_signs_60 bc_21 ?_
          refine e_il4 64 rfl dX10_signs_62 ?_
          first | refine e_imulN 65 rfl dX10_signs_64 rfl rfl ?_ | refine e_imul 65 rfl dX10_signs_64 ?_
          refine e_il5 67 rfl dX10_signs_65 ?_
          first | refine e_iaddN 68 rfl dX10_signs_67 rfl rfl ?_ | refine e_iadd 68 rfl dX10_signs_67 ?_
          first | refine e_ialdv 69 rfl dX10_signs_68 (by assumption) (by assumption) (by first | rfl | simp only [pk_mul, nI_add]) (by omega) (by omega) (by first | assumption | (simp only [mN_sF, mK_sF, mL_sF, mF_sF, mB_sF, mA_sF, mJ_sF, mP_sF, mO_sF, mN_sB, mK_sB, mL_sB, mF_sB, mB_sB, mA_sB, mJ_sB, mP_sB, mO_sB, mN_sA, mK_sA, mL_sA, mF_sA, mB_sA, mA_sA, mJ_sA, mP_sA, mO_sA, mN_sJ, mK_sJ, mL_sJ, mF_sJ, mB_sJ, mA_sJ, mJ_sJ, mP_sJ, mO_sJ, mN_sP, mK_sP, mL_sP, mF_sP, mB_sP, mA_sP, mJ_sP, mP_sP, mO_sP, mN_sO, mK_sO, mL_sO, mF_sO, mB_sO, mA_sO, mJ_sO, mP_sO, mO_sO, up2, if_true, if_false, eq_self, ite_true, ite_false, reduceIte, Nat.add_left_cancel_iff, Nat.add_eq_left, Nat.left_eq_add, Nat.reduceEqDiff]; assumption) | (simp only [mN_sF, mK_sF, mL_sF, mF_sF, mB_sF, mA_sF, mJ_sF, mP_sF, mO_sF, mN_sB, mK_sB, mL_sB, mF_sB, mB_sB, mA_sB, mJ_sB, mP_sB, mO_sB, mN_sA, mK_sA, mL_sA, mF_sA, mB_sA, mA_sA, mJ_sA, mP_sA, mO_sA, mN_sJ, mK_sJ, mL_sJ, mF_sJ, mB_sJ, mA_sJ, mJ_sJ, mP_sJ, mO_sJ, mN_sP, mK_sP, mL_sP, mF_sP, mB_sP, mA_sP, mJ_sP, mP_sP, mO_sP, mN_sO, mK_sO, mL_sO, mF_sO, mB_sO, mA_sO, mJ_sO, mP_sO, mO_sO, up2, if_true, if_false, eq_self, ite_true, ite_false, reduceIte, Nat.add_left_cancel_iff, Nat.add_eq_left, Nat.left_eq_add, Nat.reduceEqDiff]; done)) ?_ | refine e_iald 69 rfl dX10_signs_68 (by assumption) (by assumption) (by first | rfl | simp only [pk_mul, nI_add]) (by omega) (by omega) ?_
          refine e_bipush (nI 97) 71 rfl dX10_signs_69 bc_97 ?_
          first | refine e_isubN 72 rfl dX10_signs_71 rfl rfl (by omega) ?_ | refine e_isub 72 rfl dX10_signs_71 ?_
          first | refine e_ialdv 73 rfl dX10_signs_72 (by assumption) (by assumption) (by first | rfl | simp only [pk_mul, nI_add]) (by omega) (by omega) (by first | assumption | (simp only [mN_sF, mK_sF, mL_sF, mF_sF, mB_sF, mA_sF, mJ_sF, mP_sF, mO_sF, mN_sB, mK_sB, mL_sB, mF_sB, mB_sB, mA_sB, mJ_sB, mP_sB, mO_sB, mN_sA, mK_sA, mL_sA, mF_sA, mB_sA, mA_sA, mJ_sA, mP_sA, mO_sA, mN_sJ, mK_sJ, mL_sJ, mF_sJ, mB_sJ, mA_sJ, mJ_sJ, mP_sJ, mO_sJ, mN_sP, mK_sP, mL_sP, mF_sP, mB_sP, mA_sP, mJ_sP, mP_sP, mO_sP, mN_sO, mK_sO, mL_sO, mF_sO, mB_sO, mA_sO, mJ_sO, mP_sO, mO_sO, up2, if_true, if_false, eq_self, ite_true, ite_false, reduceIte, Nat.add_left_cancel_iff, Nat.add_eq_left, Nat.left_eq_add, Nat.reduceEqDiff]; assumption) | (simp only [mN_sF, mK_sF, mL_sF, mF_sF, mB_sF, mA_sF, mJ_sF, mP_sF, mO_sF, mN_sB, mK_sB, mL_sB, mF_sB, mB_sB, mA_sB, mJ_sB, mP_sB, mO_sB, mN_sA, mK_sA, mL_sA, mF_sA, mB_sA, mA_sA, mJ_sA, mP_sA, mO_sA, mN_sJ, mK_sJ, mL_sJ, mF_sJ, mB_sJ, mA_sJ, mJ_sJ, mP_sJ, mO_sJ, mN_sP, mK_sP, mL_sP, mF_sP, mB_sP, mA_sP, mJ_sP, mP_sP, mO_sP, mN_sO, mK_sO, mL_sO, mF_sO, mB_sO, mA_sO, mJ_sO, mP_sO, mO_sO, up2, if_true, if_false, eq_self, ite_true, ite_false, reduceIte, Nat.add_left_cancel_iff, Nat.add_eq_left, Nat.left_eq_add, Nat.reduceEqDiff]; done)) ?_ | refine e_iald 73 rfl dX10_signs_72 (by assumption) (by assumption) (by first | rfl | simp only [pk_mul, nI_add]) (by omega) (by omega) ?_
          first | refine e_iaddN 74 rfl dX10_signs_73 rfl rfl ?_ | refine e_iadd 74 rfl dX10_signs_73 ?_
          refine e_is3 75 rfl dX10_signs_74 (by decide) rfl ?_
          refine e_ii5 (nI (_ + 1)) 78 rfl dX10_signs_75 (ii1 _) rfl ?_
          refine e_goto 39 (by decide) dX10_signs_78 ?_
          exact hn
      refine e_il4 22 rfl dX10_signs_20 ?_
      refine e_bipush (nI 8) 24 rfl dX10_signs_22 bc_8 ?_
      refine e_il1 25 rfl dX10_signs_24 ?_
      first | refine e_imulN 26 rfl dX10_signs_25 rfl rfl ?_ | refine e_imul 26 rfl dX10_signs_25 ?_
      refine e_al0 27 rfl dX10_signs_26 ?_
      refine e_getR 30 rfl dX10_signs_27 f_X10_63 (by assumption) (by assumption) ?_
      refine e_il1 31 rfl dX10_signs_30 ?_
      first | refine e_ialdv 32 rfl dX10_signs_31 (by assumption) (by assumption) (by first | rfl | simp only [pk_mul, nI_add]) (by omega) (by omega) (by first | assumption | (simp only [mN_sF, mK_sF, mL_sF, mF_sF, mB_sF, mA_sF, mJ_sF, mP_sF, mO_sF, mN_sB, mK_sB, mL_sB, mF_sB, mB_sB, mA_sB, mJ_sB, mP_sB, mO_sB, mN_sA, mK_sA, mL_sA, mF_sA, mB_sA, mA_sA, mJ_sA, mP_sA, mO_sA, mN_sJ, mK_sJ, mL_sJ, mF_sJ, mB_sJ, mA_sJ, mJ_sJ, mP_sJ, mO_sJ, mN_sP, mK_sP, mL_sP, mF_sP, mB_sP, mA_sP, mJ_sP, mP_sP, mO_sP, mN_sO, mK_sO, mL_sO, mF_sO, mB_sO, mA_sO, mJ_sO, mP_sO, mO_sO, up2, if_true, if_false, eq_self, ite_true, ite_false, reduceIte, Nat.add_left_cancel_iff, Nat.add_eq_left, Nat.left_eq_add, Nat.reduceEqDiff]; assumption) | (simp only [mN_sF, mK_sF, mL_sF, mF_sF, mB_sF, mA_sF, mJ_sF, mP_sF, mO_sF, mN_sB, mK_sB, mL_sB, mF_sB, mB_sB, mA_sB, mJ_sB, mP_sB, mO_sB, mN_sA, mK_sA, mL_sA, mF_sA, mB_sA, mA_sA, mJ_sA, mP_sA, mO_sA, mN_sJ, mK_sJ, mL_sJ, mF_sJ, mB_sJ, mA_sJ, mJ_sJ, mP_sJ, mO_sJ, mN_sP, mK_sP, mL_sP, mF_sP, mB_sP, mA_sP, mJ_sP, mP_sP, mO_sP, mN_sO, mK_sO, mL_sO, mF_sO, mB_sO, mA_sO, mJ_sO, mP_sO, mO_sO, up2, if_true, if_false, eq_self, ite_true, ite_false, reduceIte, Nat.add_left_cancel_iff, Nat.add_eq_left, Nat.left_eq_add, Nat.reduceEqDiff]; done)) ?_ | refine e_iald 32 rfl dX10_signs_31 (by assumption) (by assumption) (by first | rfl | simp only [pk_mul, nI_add]) (by omega) (by omega) ?_
      first | refine e_iaddN 33 rfl dX10_signs_32 rfl rfl ?_ | refine e_iadd 33 rfl dX10_signs_32 ?_
      first | refine e_cmp_geN 87 36 (by decide) rfl dX10_signs_33 rfl rfl (by omega) (by omega) (fun y1 => ?_) (fun y1 => ?_) | refine e_cmp_ge 87 36 (by decide) rfl dX10_signs_33 (fun y1 => ?_) (fun y1 => ?_)
      · omega
      refine e_iconst (nI 0) 37 rfl dX10_signs_36 ic_0 ?_
      refine e_is5 39 rfl dX10_signs_37 (by decide) rfl ?_
      exact inner f.length 0 (by omega)
  refine Cl.of0 3 pn_X10 (Nat.le_of_ble_eq_true rfl) ⟨rfl, rfl⟩ rfl ?_
  refine e_il2 1 rfl dX10_signs_0 ?_
  refine e_iconst (nI 1) 2 rfl dX10_signs_1 ic_1 ?_
  first | refine e_cmp_neN 89 5 (by decide) rfl dX10_signs_2 rfl rfl (by omega) (by omega) (fun y0 => ?_) (fun y0 => ?_) | refine e_cmp_ne 89 5 (by decide) rfl dX10_signs_2 (fun y0 => ?_) (fun y0 => ?_)
  · exact absurd rfl y0
  refine e_al0 6 rfl dX10_signs_5 ?_
  refine e_getR 9 rfl dX10_signs_6 f_X10_63 (by assumption) (by assumption) ?_
  refine e_il1 10 rfl dX10_signs_9 ?_
  first | refine e_ialdv 11 rfl dX10_signs_10 (by assumption) (by assumption) (by first | rfl | simp only [pk_mul, nI_add]) (by omega) (by omega) (by first | assumption | (simp only [mN_sF, mK_sF, mL_sF, mF_sF, mB_sF, mA_sF, mJ_sF, mP_sF, mO_sF, mN_sB, mK_sB, mL_sB, mF_sB, mB_sB, mA_sB, mJ_sB, mP_sB, mO_sB, mN_sA, mK_sA, mL_sA, mF_sA, mB_sA, mA_sA, mJ_sA, mP_sA, mO_sA, mN_sJ, mK_sJ, mL_sJ, mF_sJ, mB_sJ, mA_sJ, mJ_sJ, mP_sJ, mO_sJ, mN_sP, mK_sP, mL_sP, mF_sP, mB_sP, mA_sP, mJ_sP, mP_sP, mO_sP, mN_sO, mK_sO, mL_sO, mF_sO, mB_sO, mA_sO, mJ_sO, mP_sO, mO_sO, up2, if_true, if_false, eq_self, ite_true, ite_false, reduceIte, Nat.add_left_cancel_iff, Nat.add_eq_left, Nat.left_eq_add, Nat.reduceEqDiff]; assumption) | (simp only [mN_sF, mK_sF, mL_sF, mF_sF, mB_sF, mA_sF, mJ_sF, mP_sF, mO_sF, mN_sB, mK_sB, mL_sB, mF_sB, mB_sB, mA_sB, mJ_sB, mP_sB, mO_sB, mN_sA, mK_sA, mL_sA, mF_sA, mB_sA, mA_sA, mJ_sA, mP_sA, mO_sA, mN_sJ, mK_sJ, mL_sJ, mF_sJ, mB_sJ, mA_sJ, mJ_sJ, mP_sJ, mO_sJ, mN_sP, mK_sP, mL_sP, mF_sP, mB_sP, mA_sP, mJ_sP, mP_sP, mO_sP, mN_sO, mK_sO, mL_sO, mF_sO, mB_sO, mA_sO, mJ_sO, mP_sO, mO_sO, up2, if_true, if_false, eq_self, ite_true, ite_false, reduceIte, Nat.add_left_cancel_iff, Nat.add_eq_left, Nat.left_eq_add, Nat.reduceEqDiff]; done)) ?_ | refine e_iald 11 rfl dX10_signs_10 (by assumption) (by assumption) (by first | rfl | simp only [pk_mul, nI_add]) (by omega) (by omega) ?_
  refine e_iconst (nI 1) 12 rfl dX10_signs_11 ic_1 ?_
  first | refine e_isubN 13 rfl dX10_signs_12 rfl rfl (by omega) ?_ | refine e_isub 13 rfl dX10_signs_12 ?_
  refine e_is3 14 rfl dX10_signs_13 (by decide) rfl ?_
  refine e_bipush (nI 8) 16 rfl dX10_signs_14 bc_8 ?_
  refine e_il1 17 rfl dX10_signs_16 ?_
  first | refine e_imulN 18 rfl dX10_signs_17 rfl rfl ?_ | refine e_imul 18 rfl dX10_signs_17 ?_
  refine e_is4 20 rfl dX10_signs_18 (by decide) rfl ?_
  exact loop nm.2.length 0 (by omega) _ rfl
/-- the words that are picked -/
noncomputable def wsB (S : Ast) (nm : Nm) (b : Bool) : List (List Nat) := (pkL S nm b).map (fun p => if b then (fsN nm).getD p [] else nm.2.getD p [])
theorem lnW_0 (S : Ast) (nm : Nm) : lnW S nm 0 = sfL (wsB S nm false) 0 := by
  rw [← jn_all]
  unfold lnW
  rw [if_neg (by decide), if_neg (by decide)]
  have h1 : caW (aS S nm.1) (aB S) nm = wsB S nm false := rfl
  have h2 : (caP (aS S nm.1) (aB S) nm).length = (wsB S nm false).length := by unfold wsB; rw [List.length_map]; rfl
  rw [h1, h2]
theorem lnW_2 (S : Ast) (nm : Nm) : lnW S nm 2 = sfL (wsB S nm true) 0 := by
  rw [← jn_all]
  unfold lnW
  rw [if_neg (by decide), if_pos rfl]
  have h1 : kyW (aS S nm.1) (aB S) nm = wsB S nm true := rfl
  have h2 : (kyP (aS S nm.1) (aB S) nm).length = (wsB S nm true).length := by unfold wsB; rw [List.length_map]; rfl
  rw [h1, h2]
theorem c_signs0 {m i : Nat} {S : Ast} {nm : Nm} (hW : WF S) (hM : MI m S μ) (hi : (aN S)[i]? = some nm) (k : ∀ μ', MF m μ μ' → MI m S μ' → mF μ' m 2 = mF μ m 2 → K (some (.int (nI (lnW S nm 0).length))) μ') : Cl E M_X10_signs [.ref m, .int (nI i), .int (nI 0)] μ K := by
  have n30 := hW.2.2.2.1.1
  have mk := hM.1.1
  have hil := (List.getElem?_eq_some_iff.mp hi).1
  have hwf := hW.2.2.2.1.2 nm (List.mem_of_getElem? hi)
  have hn8 := hwf.2.2.1
  refine Cl.of0 3 pn_X10 (Nat.le_of_ble_eq_true rfl) ⟨rfl, rfl⟩ rfl ?_
  refine e_il2 1 rfl dX10_signs_0 ?_
  refine e_iconst (nI 1) 2 rfl dX10_signs_1 ic_1 ?_
  first | refine e_cmp_neN 89 5 (by decide) rfl dX10_signs_2 rfl rfl (by omega) (by omega) (fun y0 => ?_) (fun y0 => ?_) | refine e_cmp_ne 89 5 (by decide) rfl dX10_signs_2 (fun y0 => ?_) (fun y0 => ?_)
  rotate_left
  · omega
  refine e_al0 90 rfl dX10_signs_89 ?_
  refine e_il1 91 rfl dX10_signs_90 ?_
  refine e_invV0 [_] 94 rfl dX10_signs_91 k_X10_219 mo_X10_first rm_X10_signs_X10_first ⟨rfl, rfl⟩ rfl rfl (by assumption) (Nat.le_of_ble_eq_true rfl) ?_
  refine c_first hW hM hi (fun μ1 hF1 hf1 hs1 _ _ => ?_)
  have hM1 : MI m S μ1 := hM.scr (fsS_mQ hF1) (fun f hf => hf1 f (by omega))
  have mk1 := hM1.1.1
  refine e_al0 95 rfl dX10_signs_94 ?_
  refine e_il1 96 rfl dX10_signs_95 ?_
  refine e_il2 97 rfl dX10_signs_96 ?_
  refine e_iconst (nI 2) 98 rfl dX10_signs_97 ic_2 ?_
  first | refine e_cmp_neN 105 101 (by decide) rfl dX10_signs_98 rfl rfl (by omega) (by omega) (fun y1 => ?_) (fun y1 => ?_) | refine e_cmp_ne 105 101 (by decide) rfl dX10_signs_98 (fun y1 => ?_) (fun y1 => ?_)
  rotate_left
  · omega
  refine e_iconst (nI 0) 106 rfl dX10_signs_105 ic_0 ?_
  refine e_invV0 [_, _] 109 rfl dX10_signs_106 k_X10_228 mo_X10_pick rm_X10_signs_X10_pick ⟨rfl, rfl⟩ rfl rfl (by assumption) (Nat.le_of_ble_eq_true rfl) ?_
  refine c_pick (b := false) hW hM1 hi hs1 (fun μ2 hF2 hp2 _ _ => ?_)
  have hM2 : MI m S μ2 := hM1.scr (pkS_mQ hF2) (kF.of hF2 (by unfold pkS; omega))
  have k2 := k μ2 ((mQ_MF (fsS_mQ hF1)).trans (mQ_MF (pkS_mQ hF2))) hM2 (by rw [(hF2.2.2.2.2.2 m (by unfold pkS; omega)).1, hf1 2 (by decide)])
  have mk2 := hM2.1.1
  obtain ⟨pm, km, lm⟩ := hM2.1.pickedMany
  obtain ⟨pp, kp, lp⟩ := hM2.1.picked
  obtain ⟨pz, kz, lz⟩ := hM2.1.toldSize
  have vm := hp2.1
  have l8 := pkL_len (b := false) hW hn8
  obtain ⟨n1, n2, n3⟩ := hM2.2.2.2.2.2.1.2 i nm hi
  have hln : (lnW S nm 0).length = ((pkL S nm false).length - 1) + sumF (fun w => ((wsB S nm false).getD w []).length) (pkL S nm false).length := by
    rw [lnW_0, ← jn_all, jn_sum]
    unfold wsB
    rw [List.length_map]
  rw [hln] at k2
  have loop : ∀ (fu t : Nat), t + fu = (pkL S nm false).length → Ev E M_X10_signs 0 0 134 [some (.ref m), some (.int (nI i)), some (.int (nI 0)), some (.int (nI (((pkL S nm false).length - 1) + sumF (fun w => ((wsB S nm false).getD w []).length) t))), some (.int (nI t)), none] [] μ2 K := by
    intro fu
    induction fu with
    | zero =>
      intro t ht
      refine e_il4 136 rfl dX10_signs_134 ?_
      refine e_al0 137 rfl dX10_signs_136 ?_
      refine e_getR 140 rfl dX10_signs_137 f_X10_123 (by assumption) (by assumption) ?_
      refine e_il1 141 rfl dX10_signs_140 ?_
      first | refine e_ialdv 142 rfl dX10_signs_141 (by assumption) (by assumption) (by first | rfl | simp only [pk_mul, nI_add]) (by omega) (by omega) (by first | assumption | (simp only [mN_sF, mK_sF, mL_sF, mF_sF, mB_sF, mA_sF, mJ_sF, mP_sF, mO_sF, mN_sB, mK_sB, mL_sB, mF_sB, mB_sB, mA_sB, mJ_sB, mP_sB, mO_sB, mN_sA, mK_sA, mL_sA, mF_sA, mB_sA, mA_sA, mJ_sA, mP_sA, mO_sA, mN_sJ, mK_sJ, mL_sJ, mF_sJ, mB_sJ, mA_sJ, mJ_sJ, mP_sJ, mO_sJ, mN_sP, mK_sP, mL_sP, mF_sP, mB_sP, mA_sP, mJ_sP, mP_sP, mO_sP, mN_sO, mK_sO, mL_sO, mF_sO, mB_sO, mA_sO, mJ_sO, mP_sO, mO_sO, up2, if_true, if_false, eq_self, ite_true, ite_false, reduceIte, Nat.add_left_cancel_iff, Nat.add_eq_left, Nat.left_eq_add, Nat.reduceEqDiff]; assumption) | (simp only [mN_sF, mK_sF, mL_sF, mF_sF, mB_sF, mA_sF, mJ_sF, mP_sF, mO_sF, mN_sB, mK_sB, mL_sB, mF_sB, mB_sB, mA_sB, mJ_sB, mP_sB, mO_sB, mN_sA, mK_sA, mL_sA, mF_sA, mB_sA, mA_sA, mJ_sA, mP_sA, mO_sA, mN_sJ, mK_sJ, mL_sJ, mF_sJ, mB_sJ, mA_sJ, mJ_sJ, mP_sJ, mO_sJ, mN_sP, mK_sP, mL_sP, mF_sP, mB_sP, mA_sP, mJ_sP, mP_sP, mO_sP, mN_sO, mK_sO, mL_sO, mF_sO, mB_sO, mA_sO, mJ_sO, mP_sO, mO_sO, up2, if_true, if_false, eq_self, ite_true, ite_false, reduceIte, Nat.add_left_cancel_iff, Nat.add_eq_left, Nat.left_eq_add, Nat.reduceEqDiff]; done)) ?_ | refine e_iald 142 rfl dX10_signs_141 (by assumption) (by assumption) (by first | rfl | simp only [pk_mul, nI_add]) (by omega) (by omega) ?_
      first | refine e_cmp_geN 196 145 (by decide) rfl dX10_signs_142 rfl rfl (by omega) (by omega) (fun y3 => ?_) (fun y3 => ?_) | refine e_cmp_ge 196 145 (by decide) rfl dX10_signs_142 (fun y3 => ?_) (fun y3 => ?_)
      rotate_left
      · omega
      refine e_il3 197 rfl dX10_signs_196 ?_
      refine e_iret dX10_signs_197 rfl ?_
      rw [show t = (pkL S nm false).length by omega]
      exact k2
    | succ fu ih =>
      intro t ht
      have htl : t < (pkL S nm false).length := by omega
      have hpl := pkL_lt (List.getElem_mem htl)
      have v : mA μ2 (m + 36) (8 * i + t) = nI (8 * i + (pkL S nm false)[t]) := hp2.2 t _ (by rw [List.getElem?_map, List.getElem?_eq_getElem htl]; rfl)
      have vz := (n3 _ _ (List.getElem?_eq_getElem hpl)).1.1
      have ew : (wsB S nm false).getD t [] = nm.2[(pkL S nm false)[t]] := by
        unfold wsB
        rw [List.getD_eq_getElem?_getD, List.getElem?_map, List.getElem?_eq_getElem htl]
        show (if false = true then (fsN nm).getD (pkL S nm false)[t] [] else nm.2.getD (pkL S nm false)[t] []) = _
        rw [if_neg (by decide), List.getD_eq_getElem?_getD, List.getElem?_eq_getElem hpl]; rfl
      have hn := ih (t + 1) (by omega)
      rw [sumF_s, ew, ← Nat.add_assoc] at hn
      refine e_il4 136 rfl dX10_signs_134 ?_
      refine e_al0 137 rfl dX10_signs_136 ?_
      refine e_getR 140 rfl dX10_signs_137 f_X10_123 (by assumption) (by assumption) ?_
      refine e_il1 141 rfl dX10_signs_140 ?_
      first | refine e_ialdv 142 rfl dX10_signs_141 (by assumption) (by assumption) (by first | rfl | simp only [pk_mul, nI_add]) (by omega) (by omega) (by first | assumption | (simp only [mN_sF, mK_sF, mL_sF, mF_sF, mB_sF, mA_sF, mJ_sF, mP_sF, mO_sF, mN_sB, mK_sB, mL_sB, mF_sB, mB_sB, mA_sB, mJ_sB, mP_sB, mO_sB, mN_sA, mK_sA, mL_sA, mF_sA, mB_sA, mA_sA, mJ_sA, mP_sA, mO_sA, mN_sJ, mK_sJ, mL_sJ, mF_sJ, mB_sJ, mA_sJ, mJ_sJ, mP_sJ, mO_sJ, mN_sP, mK_sP, mL_sP, mF_sP, mB_sP, mA_sP, mJ_sP, mP_sP, mO_sP, mN_sO, mK_sO, mL_sO, mF_sO, mB_sO, mA_sO, mJ_sO, mP_sO, mO_sO, up2, if_true, if_false, eq_self, ite_true, ite_false, reduceIte, Nat.add_left_cancel_iff, Nat.add_eq_left, Nat.left_eq_add, Nat.reduceEqDiff]; assumption) | (simp only [mN_sF, mK_sF, mL_sF, mF_sF, mB_sF, mA_sF, mJ_sF, mP_sF, mO_sF, mN_sB, mK_sB, mL_sB, mF_sB, mB_sB, mA_sB, mJ_sB, mP_sB, mO_sB, mN_sA, mK_sA, mL_sA, mF_sA, mB_sA, mA_sA, mJ_sA, mP_sA, mO_sA, mN_sJ, mK_sJ, mL_sJ, mF_sJ, mB_sJ, mA_sJ, mJ_sJ, mP_sJ, mO_sJ, mN_sP, mK_sP, mL_sP, mF_sP, mB_sP, mA_sP, mJ_sP, mP_sP, mO_sP, mN_sO, mK_sO, mL_sO, mF_sO, mB_sO, mA_sO, mJ_sO, mP_sO, mO_sO, up2, if_true, if_false, eq_self, ite_true, ite_false, reduceIte, Nat.add_left_cancel_iff, Nat.add_eq_left, Nat.left_eq_add, Nat.reduceEqDiff]; done)) ?_ | refine e_iald 142 rfl dX10_signs_141 (by assumption) (by assumption) (by first | rfl | simp only [pk_mul, nI_add]) (by omega) (by omega) ?_
      first | refine e_cmp_geN 196 145 (by decide) rfl dX10_signs_142 rfl rfl (by omega) (by omega) (fun y3 => ?_) (fun y3 => ?_) | refine e_cmp_ge 196 145 (by decide) rfl dX10_signs_142 (fun y3 => ?_) (fun y3 => ?_)
      · omega
      refine e_il3 146 rfl dX10_signs_145 ?_
      refine e_il2 147 rfl dX10_signs_146 ?_
      refine e_iconst (nI 2) 148 rfl dX10_signs_147 ic_2 ?_
      first | refine e_cmp_neN 171 151 (by decide) rfl dX10_signs_148 rfl rfl (by omega) (by omega) (fun y4 => ?_) (fun y4 => ?_) | refine e_cmp_ne 171 151 (by decide) rfl dX10_signs_148 (fun y4 => ?_) (fun y4 => ?_)
      rotate_left
      · omega
      refine e_al0 172 rfl dX10_signs_171 ?_
      refine e_getR 175 rfl dX10_signs_172 f_X10_69 (by assumption) (by assumption) ?_
      refine e_al0 176 rfl dX10_signs_175 ?_
      refine e_getR 179 rfl dX10_signs_176 f_X10_120 (by assumption) (by assumption) ?_
      refine e_bipush (nI 8) 181 rfl dX10_signs_179 bc_8 ?_
      refine e_il1 182 rfl dX10_signs_181 ?_
      first | refine e_imulN 183 rfl dX10_signs_182 rfl rfl ?_ | refine e_imul 183 rfl dX10_signs_182 ?_
      refine e_il4 185 rfl dX10_signs_183 ?_
      first | refine e_iaddN 186 rfl dX10_signs_185 rfl rfl ?_ | refine e_iadd 186 rfl dX10_signs_185 ?_
      first | refine e_ialdv 187 rfl dX10_signs_186 (by assumption) (by assumption) (by first | rfl | simp only [pk_mul, nI_add]) (by omega) (by omega) (by first | assumption | (simp only [mN_sF, mK_sF, mL_sF, mF_sF, mB_sF, mA_sF, mJ_sF, mP_sF, mO_sF, mN_sB, mK_sB, mL_sB, mF_sB, mB_sB, mA_sB, mJ_sB, mP_sB, mO_sB, mN_sA, mK_sA, mL_sA, mF_sA, mB_sA, mA_sA, mJ_sA, mP_sA, mO_sA, mN_sJ, mK_sJ, mL_sJ, mF_sJ, mB_sJ, mA_sJ, mJ_sJ, mP_sJ, mO_sJ, mN_sP, mK_sP, mL_sP, mF_sP, mB_sP, mA_sP, mJ_sP, mP_sP, mO_sP, mN_sO, mK_sO, mL_sO, mF_sO, mB_sO, mA_sO, mJ_sO, mP_sO, mO_sO, up2, if_true, if_false, eq_self, ite_true, ite_false, reduceIte, Nat.add_left_cancel_iff, Nat.add_eq_left, Nat.left_eq_add, Nat.reduceEqDiff]; assumption) | (simp only [mN_sF, mK_sF, mL_sF, mF_sF, mB_sF, mA_sF, mJ_sF, mP_sF, mO_sF, mN_sB, mK_sB, mL_sB, mF_sB, mB_sB, mA_sB, mJ_sB, mP_sB, mO_sB, mN_sA, mK_sA, mL_sA, mF_sA, mB_sA, mA_sA, mJ_sA, mP_sA, mO_sA, mN_sJ, mK_sJ, mL_sJ, mF_sJ, mB_sJ, mA_sJ, mJ_sJ, mP_sJ, mO_sJ, mN_sP, mK_sP, mL_sP, mF_sP, mB_sP, mA_sP, mJ_sP, mP_sP, mO_sP, mN_sO, mK_sO, mL_sO, mF_sO, mB_sO, mA_sO, mJ_sO, mP_sO, mO_sO, up2, if_true, if_false, eq_self, ite_true, ite_false, reduceIte, Nat.add_left_cancel_iff, Nat.add_eq_left, Nat.left_eq_add, Nat.reduceEqDiff]; done)) ?_ | refine e_iald 187 rfl dX10_signs_186 (by assumption) (by assumption) (by first | rfl | simp only [pk_mul, nI_add]) (by omega) (by omega) ?_
      first | refine e_ialdv 188 rfl dX10_signs_187 (by assumption) (by assumption) (by first | rfl | simp only [pk_mul, nI_add]) (by omega) (by omega) (by first | assumption | (simp only [mN_sF, mK_sF, mL_sF, mF_sF, mB_sF, mA_sF, mJ_sF, mP_sF, mO_sF, mN_sB, mK_sB, mL_sB, mF_sB, mB_sB, mA_sB, mJ_sB, mP_sB, mO_sB, mN_sA, mK_sA, mL_sA, mF_sA, mB_sA, mA_sA, mJ_sA, mP_sA, mO_sA, mN_sJ, mK_sJ, mL_sJ, mF_sJ, mB_sJ, mA_sJ, mJ_sJ, mP_sJ, mO_sJ, mN_sP, mK_sP, mL_sP, mF_sP, mB_sP, mA_sP, mJ_sP, mP_sP, mO_sP, mN_sO, mK_sO, mL_sO, mF_sO, mB_sO, mA_sO, mJ_sO, mP_sO, mO_sO, up2, if_true, if_false, eq_self, ite_true, ite_false, reduceIte, Nat.add_left_cancel_iff, Nat.add_eq_left, Nat.left_eq_add, Nat.reduceEqDiff]; assumption) | (simp only [mN_sF, mK_sF, mL_sF, mF_sF, mB_sF, mA_sF, mJ_sF, mP_sF, mO_sF, mN_sB, mK_sB, mL_sB, mF_sB, mB_sB, mA_sB, mJ_sB, mP_sB, mO_sB, mN_sA, mK_sA, mL_sA, mF_sA, mB_sA, mA_sA, mJ_sA, mP_sA, mO_sA, mN_sJ, mK_sJ, mL_sJ, mF_sJ, mB_sJ, mA_sJ, mJ_sJ, mP_sJ, mO_sJ, mN_sP, mK_sP, mL_sP, mF_sP, mB_sP, mA_sP, mJ_sP, mP_sP, mO_sP, mN_sO, mK_sO, mL_sO, mF_sO, mB_sO, mA_sO, mJ_sO, mP_sO, mO_sO, up2, if_true, if_false, eq_self, ite_true, ite_false, reduceIte, Nat.add_left_cancel_iff, Nat.add_eq_left, Nat.left_eq_add, Nat.reduceEqDiff]; done)) ?_ | refine e_iald 188 rfl dX10_signs_187 (by assumption) (by assumption) (by first | rfl | simp only [pk_mul, nI_add]) (by omega) (by omega) ?_
      first | refine e_iaddN 189 rfl dX10_signs_188 rfl rfl ?_ | refine e_iadd 189 rfl dX10_signs_188 ?_
      refine e_is3 190 rfl dX10_signs_189 (by decide) rfl ?_
      refine e_ii4 (nI (_ + 1)) 193 rfl dX10_signs_190 (ii1 _) rfl ?_
      refine e_goto 134 (by decide) dX10_signs_193 ?_
      exact hn
  by_cases c0 : (pkL S nm false).length = 0
  · have vm' : mA μ2 (m + 37) i = nI 0 := by rw [vm, c0]
    have := loop (pkL S nm false).length 0 (by omega)
    rw [c0] at this
    refine e_al0 110 rfl dX10_signs_109 ?_
    refine e_getR 113 rfl dX10_signs_110 f_X10_123 (by assumption) (by assumption) ?_
    refine e_il1 114 rfl dX10_signs_113 ?_
    first | refine e_ialdv 115 rfl dX10_signs_114 (by assumption) (by assumption) (by first | rfl | simp only [pk_mul, nI_add]) (by omega) (by omega) (by first | assumption | (simp only [mN_sF, mK_sF, mL_sF, mF_sF, mB_sF, mA_sF, mJ_sF, mP_sF, mO_sF, mN_sB, mK_sB, mL_sB, mF_sB, mB_sB, mA_sB, mJ_sB, mP_sB, mO_sB, mN_sA, mK_sA, mL_sA, mF_sA, mB_sA, mA_sA, mJ_sA, mP_sA, mO_sA, mN_sJ, mK_sJ, mL_sJ, mF_sJ, mB_sJ, mA_sJ, mJ_sJ, mP_sJ, mO_sJ, mN_sP, mK_sP, mL_sP, mF_sP, mB_sP, mA_sP, mJ_sP, mP_sP, mO_sP, mN_sO, mK_sO, mL_sO, mF_sO, mB_sO, mA_sO, mJ_sO, mP_sO, mO_sO, up2, if_true, if_false, eq_self, ite_true, ite_false, reduceIte, Nat.add_left_cancel_iff, Nat.add_eq_left, Nat.left_eq_add, Nat.reduceEqDiff]; assumption) | (simp only [mN_sF, mK_sF, mL_sF, mF_sF, mB_sF, mA_sF, mJ_sF, mP_sF, mO_sF, mN_sB, mK_sB, mL_sB, mF_sB, mB_sB, mA_sB, mJ_sB, mP_sB, mO_sB, mN_sA, mK_sA, mL_sA, mF_sA, mB_sA, mA_sA, mJ_sA, mP_sA, mO_sA, mN_sJ, mK_sJ, mL_sJ, mF_sJ, mB_sJ, mA_sJ, mJ_sJ, mP_sJ, mO_sJ, mN_sP, mK_sP, mL_sP, mF_sP, mB_sP, mA_sP, mJ_sP, mP_sP, mO_sP, mN_sO, mK_sO, mL_sO, mF_sO, mB_sO, mA_sO, mJ_sO, mP_sO, mO_sO, up2, if_true, if_false, eq_self, ite_true, ite_false, reduceIte, Nat.add_left_cancel_iff, Nat.add_eq_left, Nat.left_eq_add, Nat.reduceEqDiff]; done)) ?_ | refine e_iald 115 rfl dX10_signs_114 (by assumption) (by assumption) (by first | rfl | simp only [pk_mul, nI_add]) (by omega) (by omega) ?_
    first | refine e_if_leN 129 118 (by decide) rfl dX10_signs_115 rfl (by omega) (fun y2 => ?_) (fun y2 => ?_) | refine e_if_le 129 118 (by decide) rfl dX10_signs_115 (fun y2 => ?_) (fun y2 => ?_)
    rotate_left
    · omega
    refine e_iconst (nI 0) 130 rfl dX10_signs_129 ic_0 ?_
    refine e_is3 131 rfl dX10_signs_130 (by decide) rfl ?_
    refine e_iconst (nI 0) 132 rfl dX10_signs_131 ic_0 ?_
    refine e_is4 134 rfl dX10_signs_132 (by decide) rfl ?_
    exact this
  · refine e_al0 110 rfl dX10_signs_109 ?_
    refine e_getR 113 rfl dX10_signs_110 f_X10_123 (by assumption) (by assumption) ?_
    refine e_il1 114 rfl dX10_signs_113 ?_
    first | refine e_ialdv 115 rfl dX10_signs_114 (by assumption) (by assumption) (by first | rfl | simp only [pk_mul, nI_add]) (by omega) (by omega) (by first | assumption | (simp only [mN_sF, mK_sF, mL_sF, mF_sF, mB_sF, mA_sF, mJ_sF, mP_sF, mO_sF, mN_sB, mK_sB, mL_sB, mF_sB, mB_sB, mA_sB, mJ_sB, mP_sB, mO_sB, mN_sA, mK_sA, mL_sA, mF_sA, mB_sA, mA_sA, mJ_sA, mP_sA, mO_sA, mN_sJ, mK_sJ, mL_sJ, mF_sJ, mB_sJ, mA_sJ, mJ_sJ, mP_sJ, mO_sJ, mN_sP, mK_sP, mL_sP, mF_sP, mB_sP, mA_sP, mJ_sP, mP_sP, mO_sP, mN_sO, mK_sO, mL_sO, mF_sO, mB_sO, mA_sO, mJ_sO, mP_sO, mO_sO, up2, if_true, if_false, eq_self, ite_true, ite_false, reduceIte, Nat.add_left_cancel_iff, Nat.add_eq_left, Nat.left_eq_add, Nat.reduceEqDiff]; assumption) | (simp only [mN_sF, mK_sF, mL_sF, mF_sF, mB_sF, mA_sF, mJ_sF, mP_sF, mO_sF, mN_sB, mK_sB, mL_sB, mF_sB, mB_sB, mA_sB, mJ_sB, mP_sB, mO_sB, mN_sA, mK_sA, mL_sA, mF_sA, mB_sA, mA_sA, mJ_sA, mP_sA, mO_sA, mN_sJ, mK_sJ, mL_sJ, mF_sJ, mB_sJ, mA_sJ, mJ_sJ, mP_sJ, mO_sJ, mN_sP, mK_sP, mL_sP, mF_sP, mB_sP, mA_sP, mJ_sP, mP_sP, mO_sP, mN_sO, mK_sO, mL_sO, mF_sO, mB_sO, mA_sO, mJ_sO, mP_sO, mO_sO, up2, if_true, if_false, eq_self, ite_true, ite_false, reduceIte, Nat.add_left_cancel_iff, Nat.add_eq_left, Nat.left_eq_add, Nat.reduceEqDiff]; done)) ?_ | refine e_iald 115 rfl dX10_signs_114 (by assumption) (by assumption) (by first | rfl | simp only [pk_mul, nI_add]) (by omega) (by omega) ?_
    first | refine e_if_leN 129 118 (by decide) rfl dX10_signs_115 rfl (by omega) (fun y2 => ?_) (fun y2 => ?_) | refine e_if_le 129 118 (by decide) rfl dX10_signs_115 (fun y2 => ?_) (fun y2 => ?_)
    · omega
    refine e_al0 119 rfl dX10_signs_118 ?_
    refine e_getR 122 rfl dX10_signs_119 f_X10_123 (by assumption) (by assumption) ?_
    refine e_il1 123 rfl dX10_signs_122 ?_
    first | refine e_ialdv 124 rfl dX10_signs_123 (by assumption) (by assumption) (by first | rfl | simp only [pk_mul, nI_add]) (by omega) (by omega) (by first | assumption | (simp only [mN_sF, mK_sF, mL_sF, mF_sF, mB_sF, mA_sF, mJ_sF, mP_sF, mO_sF, mN_sB, mK_sB, mL_sB, mF_sB, mB_sB, mA_sB, mJ_sB, mP_sB, mO_sB, mN_sA, mK_sA, mL_sA, mF_sA, mB_sA, mA_sA, mJ_sA, mP_sA, mO_sA, mN_sJ, mK_sJ, mL_sJ, mF_sJ, mB_sJ, mA_sJ, mJ_sJ, mP_sJ, mO_sJ, mN_sP, mK_sP, mL_sP, mF_sP, mB_sP, mA_sP, mJ_sP, mP_sP, mO_sP, mN_sO, mK_sO, mL_sO, mF_sO, mB_sO, mA_sO, mJ_sO, mP_sO, mO_sO, up2, if_true, if_false, eq_self, ite_true, ite_false, reduceIte, Nat.add_left_cancel_iff, Nat.add_eq_left, Nat.left_eq_add, Nat.reduceEqDiff]; assumption) | (simp only [mN_sF, mK_sF, mL_sF, mF_sF, mB_sF, mA_sF, mJ_sF, mP_sF, mO_sF, mN_sB, mK_sB, mL_sB, mF_sB, mB_sB, mA_sB, mJ_sB, mP_sB, mO_sB, mN_sA, mK_sA, mL_sA, mF_sA, mB_sA, mA_sA, mJ_sA, mP_sA, mO_sA, mN_sJ, mK_sJ, mL_sJ, mF_sJ, mB_sJ, mA_sJ, mJ_sJ, mP_sJ, mO_sJ, mN_sP, mK_sP, mL_sP, mF_sP, mB_sP, mA_sP, mJ_sP, mP_sP, mO_sP, mN_sO, mK_sO, mL_sO, mF_sO, mB_sO, mA_sO, mJ_sO, mP_sO, mO_sO, up2, if_true, if_false, eq_self, ite_true, ite_false, reduceIte, Nat.add_left_cancel_iff, Nat.add_eq_left, Nat.left_eq_add, Nat.reduceEqDiff]; done)) ?_ | refine e_iald 124 rfl dX10_signs_123 (by assumption) (by assumption) (by first | rfl | simp only [pk_mul, nI_add]) (by omega) (by omega) ?_
    refine e_iconst (nI 1) 125 rfl dX10_signs_124 ic_1 ?_
    first | refine e_isubN 126 rfl dX10_signs_125 rfl rfl (by omega) ?_ | refine e_isub 126 rfl dX10_signs_125 ?_
    refine e_goto 130 (by decide) dX10_signs_126 ?_
    refine e_is3 131 rfl dX10_signs_130 (by decide) rfl ?_
    refine e_iconst (nI 0) 132 rfl dX10_signs_131 ic_0 ?_
    refine e_is4 134 rfl dX10_signs_132 (by decide) rfl ?_
    exact loop (pkL S nm false).length 0 (by omega)
end MSIGN
