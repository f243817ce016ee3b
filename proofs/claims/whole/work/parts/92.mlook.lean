/-! NameDeskModel: sign, look -/
section MLOOK
variable {E : En} {μ : Mm} {K : Option Value → Mm → Prop}
/-- the words that are picked, from the t-th on -/
theorem c_signWalk {m i k0 wh : Nat} {b : Bool} {S : Ast} {nm : Nm} (hW : WF S) (hM : MI m S μ) (hi : (aN S)[i]? = some nm) (hk : k0 < 2 ^ 31) (hwh : (wh = 2 ∧ b = true) ∨ (wh = 0 ∧ b = false)) (hp : mPk μ m i (pkL S nm b)) (k : K (some (.int (seeI (sfL (wsB S nm b) 0)[k0]?))) μ) : Ev E M_X10_sign 0 0 60 [some (.ref m), some (.int (nI i)), some (.int (nI wh)), some (.int (nI k0)), none, none, none, none] [] μ K := by
  have n30 := hW.2.2.2.1.1
  have mk := hM.1.1
  have hil := (List.getElem?_eq_some_iff.mp hi).1
  have hwf := hW.2.2.2.1.2 nm (List.mem_of_getElem? hi)
  have hn8 := hwf.2.2.1
  obtain ⟨pm, km, lm⟩ := hM.1.pickedMany
  obtain ⟨pp, kp, lp⟩ := hM.1.picked
  obtain ⟨pz, kz, lz⟩ := hM.1.toldSize
  obtain ⟨pt, kt, lt⟩ := hM.1.told
  obtain ⟨pfz, kfz, lfz⟩ := hM.1.foldSize
  obtain ⟨pf, kf, lf⟩ := hM.1.fold
  have vm := hp.1
  have l8 := pkL_len (b := b) hW hn8
  obtain ⟨n1, n2, n3⟩ := hM.2.2.2.2.2.1.2 i nm hi
  have hwl : (wsB S nm b).length = (pkL S nm b).length := by unfold wsB; rw [List.length_map]
  refine e_il3 61 rfl dX10_sign_60 ?_
  refine e_is4 63 rfl dX10_sign_61 (by decide) rfl ?_
  refine e_iconst (nI 0) 64 rfl dX10_sign_63 ic_0 ?_
  refine e_is5 66 rfl dX10_sign_64 (by decide) rfl ?_
  have loop : ∀ (fu t : Nat), t + fu = (pkL S nm b).length → ∀ lf, lf < 2 ^ 31 → (sfL (wsB S nm b) 0)[k0]? = (sfL ((wsB S nm b).drop t) t)[lf]? → ∀ q6 q7, nl q6 = true → nl q7 = true → Ev E M_X10_sign 0 0 66 [some (.ref m), some (.int (nI i)), some (.int (nI wh)), some (.int (nI k0)), some (.int (nI lf)), some (.int (nI t)), q6, q7] [] μ K := by
    intro fu
    induction fu with
    | zero =>
      intro t ht lf hlf he q6 q7 hq6 hq7
      refine e_il5 68 rfl dX10_sign_66 ?_
      refine e_al0 69 rfl dX10_sign_68 ?_
      refine e_getR 72 rfl dX10_sign_69 f_X10_123 (by assumption) (by assumption) ?_
      refine e_il1 73 rfl dX10_sign_72 ?_
      first | refine e_ialdv 74 rfl dX10_sign_73 (by assumption) (by assumption) (by first | rfl | simp only [pk_mul, nI_add]) (by omega) (by omega) (by first | assumption | (simp only [mN_sF, mK_sF, mL_sF, mF_sF, mB_sF, mA_sF, mJ_sF, mP_sF, mO_sF, mN_sB, mK_sB, mL_sB, mF_sB, mB_sB, mA_sB, mJ_sB, mP_sB, mO_sB, mN_sA, mK_sA, mL_sA, mF_sA, mB_sA, mA_sA, mJ_sA, mP_sA, mO_sA, mN_sJ, mK_sJ, mL_sJ, mF_sJ, mB_sJ, mA_sJ, mJ_sJ, mP_sJ, mO_sJ, mN_sP, mK_sP, mL_sP, mF_sP, mB_sP, mA_sP, mJ_sP, mP_sP, mO_sP, mN_sO, mK_sO, mL_sO, mF_sO, mB_sO, mA_sO, mJ_sO, mP_sO, mO_sO, up2, if_true, if_false, eq_self, ite_true, ite_false, reduceIte, Nat.add_left_cancel_iff, Nat.add_eq_left, Nat.left_eq_add, Nat.reduceEqDiff]; assumption) | (simp only [mN_sF, mK_sF, mL_sF, mF_sF, mB_sF, mA_sF, mJ_sF, mP_sF, mO_sF, mN_sB, mK_sB, mL_sB, mF_sB, mB_sB, mA_sB, mJ_sB, mP_sB, mO_sB, mN_sA, mK_sA, mL_sA, mF_sA, mB_sA, mA_sA, mJ_sA, mP_sA, mO_sA, mN_sJ, mK_sJ, mL_sJ, mF_sJ, mB_sJ, mA_sJ, mJ_sJ, mP_sJ, mO_sJ, mN_sP, mK_sP, mL_sP, mF_sP, mB_sP, mA_sP, mJ_sP, mP_sP, mO_sP, mN_sO, mK_sO, mL_sO, mF_sO, mB_sO, mA_sO, mJ_sO, mP_sO, mO_sO, up2, if_true, if_false, eq_self, ite_true, ite_false, reduceIte, Nat.add_left_cancel_iff, Nat.add_eq_left, Nat.left_eq_add, Nat.reduceEqDiff]; done)) ?_ | refine e_iald 74 rfl dX10_sign_73 (by assumption) (by assumption) (by first | rfl | simp only [pk_mul, nI_add]) (by omega) (by omega) ?_
      first | refine e_cmp_geN 186 77 (by decide) rfl dX10_sign_74 rfl rfl (by omega) (by omega) (fun y1 => ?_) (fun y1 => ?_) | refine e_cmp_ge 186 77 (by decide) rfl dX10_sign_74 (fun y1 => ?_) (fun y1 => ?_)
      rotate_left
      · omega
      rw [he, List.drop_eq_nil_of_le (by omega), sfL] at k
      refine e_iconst (-1) 187 rfl dX10_sign_186 ic_m1 ?_
      refine e_iret dX10_sign_187 rfl ?_
      exact k
    | succ fu ih =>
      intro t ht lf hlf he q6 q7 hq6 hq7
      have htl : t < (pkL S nm b).length := by omega
      have hpl := pkL_lt (List.getElem_mem htl)
      have v : mA μ (m + 36) (8 * i + t) = nI (8 * i + (pkL S nm b)[t]) := hp.2 t _ (by rw [List.getElem?_map, List.getElem?_eq_getElem htl]; rfl)
      obtain ⟨⟨vz, vH⟩, vfz, vfH⟩ := n3 _ _ (List.getElem?_eq_getElem hpl)
      obtain ⟨x0, x21, x1, x20, _⟩ := wordL (hwf.2.2.2 _ (List.getElem_mem hpl))
      obtain ⟨p, hpE⟩ : ∃ p, p = (pkL S nm b)[t] := ⟨_, rfl⟩
      obtain ⟨u, hu⟩ : ∃ u, u = nm.2[(pkL S nm b)[t]] := ⟨_, rfl⟩
      rw [← hu] at vz vH vfz vfH x0 x21 x1 x20
      have ew : (wsB S nm b)[t]'(by omega) = if b then foldL u else u := by
        unfold wsB
        rw [List.getElem_map]
        cases b
        · show nm.2.getD _ [] = u
          rw [List.getD_eq_getElem?_getD, List.getElem?_eq_getElem hpl, hu]; rfl
        · show (fsN nm).getD _ [] = foldL u
          rw [fsN_get hpl, hu]
      rw [← hpE] at v vz vH vfz vfH hpl
      obtain ⟨x, hxE⟩ : ∃ x, x = if b then foldL u else u := ⟨_, rfl⟩
      rw [List.drop_eq_getElem_cons (show t < (wsB S nm b).length by omega), sfL, ew, ← hxE] at he
      -- behind the blank
      have go : ∀ lf, lf < 2 ^ 31 → (sfL (wsB S nm b) 0)[k0]? = (x ++ sfL ((wsB S nm b).drop (t + 1)) (t + 1))[lf]? → Ev E M_X10_sign 0 0 107 [some (.ref m), some (.int (nI i)), some (.int (nI wh)), some (.int (nI k0)), some (.int (nI lf)), some (.int (nI t)), some (.int (nI (8 * i + p))), q7] [] μ K := by
        intro lf hlf he
        rw [app_get] at he
        have fin : Ev E M_X10_sign 0 0 129 [some (.ref m), some (.int (nI i)), some (.int (nI wh)), some (.int (nI k0)), some (.int (nI lf)), some (.int (nI t)), some (.int (nI (8 * i + p))), q7] [.int (nI x.length)] μ K := by
          have hx21 : x.length ≤ 21 := by rw [hxE]; cases b; exact x21; exact Nat.le_trans x20 (by decide)
          refine e_is7 131 rfl dX10_sign_129 (by decide) rfl ?_
          refine e_il4 133 rfl dX10_sign_131 ?_
          refine e_il7 135 rfl dX10_sign_133 ?_
          first | refine e_cmp_geN 173 138 (by decide) rfl dX10_sign_135 rfl rfl (by omega) (by omega) (fun y5 => ?_) (fun y5 => ?_) | refine e_cmp_ge 173 138 (by decide) rfl dX10_sign_135 (fun y5 => ?_) (fun y5 => ?_)
          · rw [if_neg (by omega)] at he
            refine e_il4 175 rfl dX10_sign_173 ?_
            refine e_il7 177 rfl dX10_sign_175 ?_
            first | refine e_isubN 178 rfl dX10_sign_177 rfl rfl (by omega) ?_ | refine e_isub 178 rfl dX10_sign_177 ?_
            refine e_is4 180 rfl dX10_sign_178 (by decide) rfl ?_
            refine e_ii5 (nI (_ + 1)) 183 rfl dX10_sign_180 (ii1 _) rfl ?_
            refine e_goto 66 (by decide) dX10_sign_183 ?_
            exact ih (t + 1) (by omega) _ (by omega) he _ _ rfl rfl
          · rw [if_pos y5, List.getElem?_eq_getElem y5] at he
            rw [he] at k
            rcases hwh with ⟨e1, e2⟩ | ⟨e1, e2⟩
            · subst e1
              subst e2
              have vv : mA μ (m + 20) (21 * (8 * i + p) + lf) = nI x[lf] := by
                have hx : x = foldL u := hxE
                have := vfH lf x[lf] (by rw [← hx]; exact List.getElem?_eq_getElem y5)
                exact this
              have hl20 : lf < 20 := by have hx : x = foldL u := hxE; rw [hx] at y5; omega
              refine e_il2 139 rfl dX10_sign_138 ?_
              refine e_iconst (nI 2) 140 rfl dX10_sign_139 ic_2 ?_
              first | refine e_cmp_neN 159 143 (by decide) rfl dX10_sign_140 rfl rfl (by omega) (by omega) (fun y6 => ?_) (fun y6 => ?_) | refine e_cmp_ne 159 143 (by decide) rfl dX10_sign_140 (fun y6 => ?_) (fun y6 => ?_)
              · omega
              refine e_al0 144 rfl dX10_sign_143 ?_
              refine e_getR 147 rfl dX10_sign_144 f_X10_72 (by assumption) (by assumption) ?_
              refine e_bipush (nI 21) 149 rfl dX10_sign_147 bc_21 ?_
              refine e_il6 151 rfl dX10_sign_149 ?_
              first | refine e_imulN 152 rfl dX10_sign_151 rfl rfl ?_ | refine e_imul 152 rfl dX10_sign_151 ?_
              refine e_il4 154 rfl dX10_sign_152 ?_
              first | refine e_iaddN 155 rfl dX10_sign_154 rfl rfl ?_ | refine e_iadd 155 rfl dX10_sign_154 ?_
              first | refine e_ialdv 156 rfl dX10_sign_155 (by assumption) (by assumption) (by first | rfl | simp only [pk_mul, nI_add]) (by omega) (by omega) (by first | assumption | (simp only [mN_sF, mK_sF, mL_sF, mF_sF, mB_sF, mA_sF, mJ_sF, mP_sF, mO_sF, mN_sB, mK_sB, mL_sB, mF_sB, mB_sB, mA_sB, mJ_sB, mP_sB, mO_sB, mN_sA, mK_sA, mL_sA, mF_sA, mB_sA, mA_sA, mJ_sA, mP_sA, mO_sA, mN_sJ, mK_sJ, mL_sJ, mF_sJ, mB_sJ, mA_sJ, mJ_sJ, mP_sJ, mO_sJ, mN_sP, mK_sP, mL_sP, mF_sP, mB_sP, mA_sP, mJ_sP, mP_sP, mO_sP, mN_sO, mK_sO, mL_sO, mF_sO, mB_sO, mA_sO, mJ_sO, mP_sO, mO_sO, up2, if_true, if_false, eq_self, ite_true, ite_false, reduceIte, Nat.add_left_cancel_iff, Nat.add_eq_left, Nat.left_eq_add, Nat.reduceEqDiff]; assumption) | (simp only [mN_sF, mK_sF, mL_sF, mF_sF, mB_sF, mA_sF, mJ_sF, mP_sF, mO_sF, mN_sB, mK_sB, mL_sB, mF_sB, mB_sB, mA_sB, mJ_sB, mP_sB, mO_sB, mN_sA, mK_sA, mL_sA, mF_sA, mB_sA, mA_sA, mJ_sA, mP_sA, mO_sA, mN_sJ, mK_sJ, mL_sJ, mF_sJ, mB_sJ, mA_sJ, mJ_sJ, mP_sJ, mO_sJ, mN_sP, mK_sP, mL_sP, mF_sP, mB_sP, mA_sP, mJ_sP, mP_sP, mO_sP, mN_sO, mK_sO, mL_sO, mF_sO, mB_sO, mA_sO, mJ_sO, mP_sO, mO_sO, up2, if_true, if_false, eq_self, ite_true, ite_false, reduceIte, Nat.add_left_cancel_iff, Nat.add_eq_left, Nat.left_eq_add, Nat.reduceEqDiff]; done)) ?_ | refine e_iald 156 rfl dX10_sign_155 (by assumption) (by assumption) (by first | rfl | simp only [pk_mul, nI_add]) (by omega) (by omega) ?_
              refine e_goto 172 (by decide) dX10_sign_156 ?_
              refine e_iret dX10_sign_172 rfl ?_
              exact k
            · subst e1
              subst e2
              have vv : mA μ (m + 18) (21 * (8 * i + p) + lf) = nI x[lf] := by
                have hx : x = u := hxE
                have := vH lf x[lf] (by rw [← hx]; exact List.getElem?_eq_getElem y5)
                exact this
              refine e_il2 139 rfl dX10_sign_138 ?_
              refine e_iconst (nI 2) 140 rfl dX10_sign_139 ic_2 ?_
              first | refine e_cmp_neN 159 143 (by decide) rfl dX10_sign_140 rfl rfl (by omega) (by omega) (fun y6 => ?_) (fun y6 => ?_) | refine e_cmp_ne 159 143 (by decide) rfl dX10_sign_140 (fun y6 => ?_) (fun y6 => ?_)
              rotate_left
              · omega
              refine e_al0 160 rfl dX10_sign_159 ?_
              refine e_getR 163 rfl dX10_sign_160 f_X10_66 (by assumption) (by assumption) ?_
              refine e_bipush (nI 21) 165 rfl dX10_sign_163 bc_21 ?_
              refine e_il6 167 rfl dX10_sign_165 ?_
              first | refine e_imulN 168 rfl dX10_sign_167 rfl rfl ?_ | refine e_imul 168 rfl dX10_sign_167 ?_
              refine e_il4 170 rfl dX10_sign_168 ?_
              first | refine e_iaddN 171 rfl dX10_sign_170 rfl rfl ?_ | refine e_iadd 171 rfl dX10_sign_170 ?_
              first | refine e_ialdv 172 rfl dX10_sign_171 (by assumption) (by assumption) (by first | rfl | simp only [pk_mul, nI_add]) (by omega) (by omega) (by first | assumption | (simp only [mN_sF, mK_sF, mL_sF, mF_sF, mB_sF, mA_sF, mJ_sF, mP_sF, mO_sF, mN_sB, mK_sB, mL_sB, mF_sB, mB_sB, mA_sB, mJ_sB, mP_sB, mO_sB, mN_sA, mK_sA, mL_sA, mF_sA, mB_sA, mA_sA, mJ_sA, mP_sA, mO_sA, mN_sJ, mK_sJ, mL_sJ, mF_sJ, mB_sJ, mA_sJ, mJ_sJ, mP_sJ, mO_sJ, mN_sP, mK_sP, mL_sP, mF_sP, mB_sP, mA_sP, mJ_sP, mP_sP, mO_sP, mN_sO, mK_sO, mL_sO, mF_sO, mB_sO, mA_sO, mJ_sO, mP_sO, mO_sO, up2, if_true, if_false, eq_self, ite_true, ite_false, reduceIte, Nat.add_left_cancel_iff, Nat.add_eq_left, Nat.left_eq_add, Nat.reduceEqDiff]; assumption) | (simp only [mN_sF, mK_sF, mL_sF, mF_sF, mB_sF, mA_sF, mJ_sF, mP_sF, mO_sF, mN_sB, mK_sB, mL_sB, mF_sB, mB_sB, mA_sB, mJ_sB, mP_sB, mO_sB, mN_sA, mK_sA, mL_sA, mF_sA, mB_sA, mA_sA, mJ_sA, mP_sA, mO_sA, mN_sJ, mK_sJ, mL_sJ, mF_sJ, mB_sJ, mA_sJ, mJ_sJ, mP_sJ, mO_sJ, mN_sP, mK_sP, mL_sP, mF_sP, mB_sP, mA_sP, mJ_sP, mP_sP, mO_sP, mN_sO, mK_sO, mL_sO, mF_sO, mB_sO, mA_sO, mJ_sO, mP_sO, mO_sO, up2, if_true, if_false, eq_self, ite_true, ite_false, reduceIte, Nat.add_left_cancel_iff, Nat.add_eq_left, Nat.left_eq_add, Nat.reduceEqDiff]; done)) ?_ | refine e_iald 172 rfl dX10_sign_171 (by assumption) (by assumption) (by first | rfl | simp only [pk_mul, nI_add]) (by omega) (by omega) ?_
              refine e_iret dX10_sign_172 rfl ?_
              exact k
        rcases hwh with ⟨e1, e2⟩ | ⟨e1, e2⟩
        · subst e1
          subst e2
          have vv : mA μ (m + 21) (8 * i + p) = nI x.length := by rw [hxE]; exact vfz
          refine e_il2 108 rfl dX10_sign_107 ?_
          refine e_iconst (nI 2) 109 rfl dX10_sign_108 ic_2 ?_
          first | refine e_cmp_neN 122 112 (by decide) rfl dX10_sign_109 rfl rfl (by omega) (by omega) (fun y6 => ?_) (fun y6 => ?_) | refine e_cmp_ne 122 112 (by decide) rfl dX10_sign_109 (fun y6 => ?_) (fun y6 => ?_)
          · omega
          refine e_al0 113 rfl dX10_sign_112 ?_
          refine e_getR 116 rfl dX10_sign_113 f_X10_75 (by assumption) (by assumption) ?_
          refine e_il6 118 rfl dX10_sign_116 ?_
          first | refine e_ialdv 119 rfl dX10_sign_118 (by assumption) (by assumption) (by first | rfl | simp only [pk_mul, nI_add]) (by omega) (by omega) (by first | assumption | (simp only [mN_sF, mK_sF, mL_sF, mF_sF, mB_sF, mA_sF, mJ_sF, mP_sF, mO_sF, mN_sB, mK_sB, mL_sB, mF_sB, mB_sB, mA_sB, mJ_sB, mP_sB, mO_sB, mN_sA, mK_sA, mL_sA, mF_sA, mB_sA, mA_sA, mJ_sA, mP_sA, mO_sA, mN_sJ, mK_sJ, mL_sJ, mF_sJ, mB_sJ, mA_sJ, mJ_sJ, mP_sJ, mO_sJ, mN_sP, mK_sP, mL_sP, mF_sP, mB_sP, mA_sP, mJ_sP, mP_sP, mO_sP, mN_sO, mK_sO, mL_sO, mF_sO, mB_sO, mA_sO, mJ_sO, mP_sO, mO_sO, up2, if_true, if_false, eq_self, ite_true, ite_false, reduceIte, Nat.add_left_cancel_iff, Nat.add_eq_left, Nat.left_eq_add, Nat.reduceEqDiff]; assumption) | (simp only [mN_sF, mK_sF, mL_sF, mF_sF, mB_sF, mA_sF, mJ_sF, mP_sF, mO_sF, mN_sB, mK_sB, mL_sB, mF_sB, mB_sB, mA_sB, mJ_sB, mP_sB, mO_sB, mN_sA, mK_sA, mL_sA, mF_sA, mB_sA, mA_sA, mJ_sA, mP_sA, mO_sA, mN_sJ, mK_sJ, mL_sJ, mF_sJ, mB_sJ, mA_sJ, mJ_sJ, mP_sJ, mO_sJ, mN_sP, mK_sP, mL_sP, mF_sP, mB_sP, mA_sP, mJ_sP, mP_sP, mO_sP, mN_sO, mK_sO, mL_sO, mF_sO, mB_sO, mA_sO, mJ_sO, mP_sO, mO_sO, up2, if_true, if_false, eq_self, ite_true, ite_false, reduceIte, Nat.add_left_cancel_iff, Nat.add_eq_left, Nat.left_eq_add, Nat.reduceEqDiff]; done)) ?_ | refine e_iald 119 rfl dX10_sign_118 (by assumption) (by assumption) (by first | rfl | simp only [pk_mul, nI_add]) (by omega) (by omega) ?_
          refine e_goto 129 (by decide) dX10_sign_119 ?_
          exact fin
        · subst e1
          subst e2
          have vv : mA μ (m + 19) (8 * i + p) = nI x.length := by rw [hxE]; exact vz
          refine e_il2 108 rfl dX10_sign_107 ?_
          refine e_iconst (nI 2) 109 rfl dX10_sign_108 ic_2 ?_
          first | refine e_cmp_neN 122 112 (by decide) rfl dX10_sign_109 rfl rfl (by omega) (by omega) (fun y6 => ?_) (fun y6 => ?_) | refine e_cmp_ne 122 112 (by decide) rfl dX10_sign_109 (fun y6 => ?_) (fun y6 => ?_)
          rotate_left
          · omega
          refine e_al0 123 rfl dX10_sign_122 ?_
          refine e_getR 126 rfl dX10_sign_123 f_X10_69 (by assumption) (by assumption) ?_
          refine e_il6 128 rfl dX10_sign_126 ?_
          first | refine e_ialdv 129 rfl dX10_sign_128 (by assumption) (by assumption) (by first | rfl | simp only [pk_mul, nI_add]) (by omega) (by omega) (by first | assumption | (simp only [mN_sF, mK_sF, mL_sF, mF_sF, mB_sF, mA_sF, mJ_sF, mP_sF, mO_sF, mN_sB, mK_sB, mL_sB, mF_sB, mB_sB, mA_sB, mJ_sB, mP_sB, mO_sB, mN_sA, mK_sA, mL_sA, mF_sA, mB_sA, mA_sA, mJ_sA, mP_sA, mO_sA, mN_sJ, mK_sJ, mL_sJ, mF_sJ, mB_sJ, mA_sJ, mJ_sJ, mP_sJ, mO_sJ, mN_sP, mK_sP, mL_sP, mF_sP, mB_sP, mA_sP, mJ_sP, mP_sP, mO_sP, mN_sO, mK_sO, mL_sO, mF_sO, mB_sO, mA_sO, mJ_sO, mP_sO, mO_sO, up2, if_true, if_false, eq_self, ite_true, ite_false, reduceIte, Nat.add_left_cancel_iff, Nat.add_eq_left, Nat.left_eq_add, Nat.reduceEqDiff]; assumption) | (simp only [mN_sF, mK_sF, mL_sF, mF_sF, mB_sF, mA_sF, mJ_sF, mP_sF, mO_sF, mN_sB, mK_sB, mL_sB, mF_sB, mB_sB, mA_sB, mJ_sB, mP_sB, mO_sB, mN_sA, mK_sA, mL_sA, mF_sA, mB_sA, mA_sA, mJ_sA, mP_sA, mO_sA, mN_sJ, mK_sJ, mL_sJ, mF_sJ, mB_sJ, mA_sJ, mJ_sJ, mP_sJ, mO_sJ, mN_sP, mK_sP, mL_sP, mF_sP, mB_sP, mA_sP, mJ_sP, mP_sP, mO_sP, mN_sO, mK_sO, mL_sO, mF_sO, mB_sO, mA_sO, mJ_sO, mP_sO, mO_sO, up2, if_true, if_false, eq_self, ite_true, ite_false, reduceIte, Nat.add_left_cancel_iff, Nat.add_eq_left, Nat.left_eq_add, Nat.reduceEqDiff]; done)) ?_ | refine e_iald 129 rfl dX10_sign_128 (by assumption) (by assumption) (by first | rfl | simp only [pk_mul, nI_add]) (by omega) (by omega) ?_
          exact fin
      by_cases t0 : t = 0
      · subst t0
        have hb0 : bl 0 = [] := rfl
        rw [hb0, List.nil_append] at he
        refine e_il5 68 rfl dX10_sign_66 ?_
        refine e_al0 69 rfl dX10_sign_68 ?_
        refine e_getR 72 rfl dX10_sign_69 f_X10_123 (by assumption) (by assumption) ?_
        refine e_il1 73 rfl dX10_sign_72 ?_
        first | refine e_ialdv 74 rfl dX10_sign_73 (by assumption) (by assumption) (by first | rfl | simp only [pk_mul, nI_add]) (by omega) (by omega) (by first | assumption | (simp only [mN_sF, mK_sF, mL_sF, mF_sF, mB_sF, mA_sF, mJ_sF, mP_sF, mO_sF, mN_sB, mK_sB, mL_sB, mF_sB, mB_sB, mA_sB, mJ_sB, mP_sB, mO_sB, mN_sA, mK_sA, mL_sA, mF_sA, mB_sA, mA_sA, mJ_sA, mP_sA, mO_sA, mN_sJ, mK_sJ, mL_sJ, mF_sJ, mB_sJ, mA_sJ, mJ_sJ, mP_sJ, mO_sJ, mN_sP, mK_sP, mL_sP, mF_sP, mB_sP, mA_sP, mJ_sP, mP_sP, mO_sP, mN_sO, mK_sO, mL_sO, mF_sO, mB_sO, mA_sO, mJ_sO, mP_sO, mO_sO, up2, if_true, if_false, eq_self, ite_true, ite_false, reduceIte, Nat.add_left_cancel_iff, Nat.add_eq_left, Nat.left_eq_add, Nat.reduceEqDiff]; assumption) | (simp only [mN_sF, mK_sF, mL_sF, mF_sF, mB_sF, mA_sF, mJ_sF, mP_sF, mO_sF, mN_sB, mK_sB, mL_sB, mF_sB, mB_sB, mA_sB, mJ_sB, mP_sB, mO_sB, mN_sA, mK_sA, mL_sA, mF_sA, mB_sA, mA_sA, mJ_sA, mP_sA, mO_sA, mN_sJ, mK_sJ, mL_sJ, mF_sJ, mB_sJ, mA_sJ, mJ_sJ, mP_sJ, mO_sJ, mN_sP, mK_sP, mL_sP, mF_sP, mB_sP, mA_sP, mJ_sP, mP_sP, mO_sP, mN_sO, mK_sO, mL_sO, mF_sO, mB_sO, mA_sO, mJ_sO, mP_sO, mO_sO, up2, if_true, if_false, eq_self, ite_true, ite_false, reduceIte, Nat.add_left_cancel_iff, Nat.add_eq_left, Nat.left_eq_add, Nat.reduceEqDiff]; done)) ?_ | refine e_iald 74 rfl dX10_sign_73 (by assumption) (by assumption) (by first | rfl | simp only [pk_mul, nI_add]) (by omega) (by omega) ?_
        first | refine e_cmp_geN 186 77 (by decide) rfl dX10_sign_74 rfl rfl (by omega) (by omega) (fun y1 => ?_) (fun y1 => ?_) | refine e_cmp_ge 186 77 (by decide) rfl dX10_sign_74 (fun y1 => ?_) (fun y1 => ?_)
        · omega
        refine e_al0 78 rfl dX10_sign_77 ?_
        refine e_getR 81 rfl dX10_sign_78 f_X10_120 (by assumption) (by assumption) ?_
        refine e_bipush (nI 8) 83 rfl dX10_sign_81 bc_8 ?_
        refine e_il1 84 rfl dX10_sign_83 ?_
        first | refine e_imulN 85 rfl dX10_sign_84 rfl rfl ?_ | refine e_imul 85 rfl dX10_sign_84 ?_
        refine e_il5 87 rfl dX10_sign_85 ?_
        first | refine e_iaddN 88 rfl dX10_sign_87 rfl rfl ?_ | refine e_iadd 88 rfl dX10_sign_87 ?_
        first | refine e_ialdv 89 rfl dX10_sign_88 (by assumption) (by assumption) (by first | rfl | simp only [pk_mul, nI_add]) (by omega) (by omega) (by first | assumption | (simp only [mN_sF, mK_sF, mL_sF, mF_sF, mB_sF, mA_sF, mJ_sF, mP_sF, mO_sF, mN_sB, mK_sB, mL_sB, mF_sB, mB_sB, mA_sB, mJ_sB, mP_sB, mO_sB, mN_sA, mK_sA, mL_sA, mF_sA, mB_sA, mA_sA, mJ_sA, mP_sA, mO_sA, mN_sJ, mK_sJ, mL_sJ, mF_sJ, mB_sJ, mA_sJ, mJ_sJ, mP_sJ, mO_sJ, mN_sP, mK_sP, mL_sP, mF_sP, mB_sP, mA_sP, mJ_sP, mP_sP, mO_sP, mN_sO, mK_sO, mL_sO, mF_sO, mB_sO, mA_sO, mJ_sO, mP_sO, mO_sO, up2, if_true, if_false, eq_self, ite_true, ite_false, reduceIte, Nat.add_left_cancel_iff, Nat.add_eq_left, Nat.left_eq_add, Nat.reduceEqDiff]; assumption) | (simp only [mN_sF, mK_sF, mL_sF, mF_sF, mB_sF, mA_sF, mJ_sF, mP_sF, mO_sF, mN_sB, mK_sB, mL_sB, mF_sB, mB_sB, mA_sB, mJ_sB, mP_sB, mO_sB, mN_sA, mK_sA, mL_sA, mF_sA, mB_sA, mA_sA, mJ_sA, mP_sA, mO_sA, mN_sJ, mK_sJ, mL_sJ, mF_sJ, mB_sJ, mA_sJ, mJ_sJ, mP_sJ, mO_sJ, mN_sP, mK_sP, mL_sP, mF_sP, mB_sP, mA_sP, mJ_sP, mP_sP, mO_sP, mN_sO, mK_sO, mL_sO, mF_sO, mB_sO, mA_sO, mJ_sO, mP_sO, mO_sO, up2, if_true, if_false, eq_self, ite_true, ite_false, reduceIte, Nat.add_left_cancel_iff, Nat.add_eq_left, Nat.left_eq_add, Nat.reduceEqDiff]; done)) ?_ | refine e_iald 89 rfl dX10_sign_88 (by assumption) (by assumption) (by first | rfl | simp only [pk_mul, nI_add]) (by omega) (by omega) ?_
        refine e_is6 91 rfl dX10_sign_89 (by decide) rfl ?_
        refine e_il5 93 rfl dX10_sign_91 ?_
        first | refine e_if_leN 107 96 (by decide) rfl dX10_sign_93 rfl (by omega) (fun y2 => ?_) (fun y2 => ?_) | refine e_if_le 107 96 (by decide) rfl dX10_sign_93 (fun y2 => ?_) (fun y2 => ?_)
        rotate_left
        · omega
        exact go lf hlf he
      · have hb0 : bl t = [32] := by unfold bl; rw [if_neg t0]
        rw [hb0] at he
        refine e_il5 68 rfl dX10_sign_66 ?_
        refine e_al0 69 rfl dX10_sign_68 ?_
        refine e_getR 72 rfl dX10_sign_69 f_X10_123 (by assumption) (by assumption) ?_
        refine e_il1 73 rfl dX10_sign_72 ?_
        first | refine e_ialdv 74 rfl dX10_sign_73 (by assumption) (by assumption) (by first | rfl | simp only [pk_mul, nI_add]) (by omega) (by omega) (by first | assumption | (simp only [mN_sF, mK_sF, mL_sF, mF_sF, mB_sF, mA_sF, mJ_sF, mP_sF, mO_sF, mN_sB, mK_sB, mL_sB, mF_sB, mB_sB, mA_sB, mJ_sB, mP_sB, mO_sB, mN_sA, mK_sA, mL_sA, mF_sA, mB_sA, mA_sA, mJ_sA, mP_sA, mO_sA, mN_sJ, mK_sJ, mL_sJ, mF_sJ, mB_sJ, mA_sJ, mJ_sJ, mP_sJ, mO_sJ, mN_sP, mK_sP, mL_sP, mF_sP, mB_sP, mA_sP, mJ_sP, mP_sP, mO_sP, mN_sO, mK_sO, mL_sO, mF_sO, mB_sO, mA_sO, mJ_sO, mP_sO, mO_sO, up2, if_true, if_false, eq_self, ite_true, ite_false, reduceIte, Nat.add_left_cancel_iff, Nat.add_eq_left, Nat.left_eq_add, Nat.reduceEqDiff]; assumption) | (simp only [mN_sF, mK_sF, mL_sF, mF_sF, mB_sF, mA_sF, mJ_sF, mP_sF, mO_sF, mN_sB, mK_sB, mL_sB, mF_sB, mB_sB, mA_sB, mJ_sB, mP_sB, mO_sB, mN_sA, mK_sA, mL_sA, mF_sA, mB_sA, mA_sA, mJ_sA, mP_sA, mO_sA, mN_sJ, mK_sJ, mL_sJ, mF_sJ, mB_sJ, mA_sJ, mJ_sJ, mP_sJ, mO_sJ, mN_sP, mK_sP, mL_sP, mF_sP, mB_sP, mA_sP, mJ_sP, mP_sP, mO_sP, mN_sO, mK_sO, mL_sO, mF_sO, mB_sO, mA_sO, mJ_sO, mP_sO, mO_sO, up2, if_true, if_false, eq_self, ite_true, ite_false, reduceIte, Nat.add_left_cancel_iff, Nat.add_eq_left, Nat.left_eq_add, Nat.reduceEqDiff]; done)) ?_ | refine e_iald 74 rfl dX10_sign_73 (by assumption) (by assumption) (by first | rfl | simp only [pk_mul, nI_add]) (by omega) (by omega) ?_
        first | refine e_cmp_geN 186 77 (by decide) rfl dX10_sign_74 rfl rfl (by omega) (by omega) (fun y1 => ?_) (fun y1 => ?_) | refine e_cmp_ge 186 77 (by decide) rfl dX10_sign_74 (fun y1 => ?_) (fun y1 => ?_)
        · omega
        refine e_al0 78 rfl dX10_sign_77 ?_
        refine e_getR 81 rfl dX10_sign_78 f_X10_120 (by assumption) (by assumption) ?_
        refine e_bipush (nI 8) 83 rfl dX10_sign_81 bc_8 ?_
        refine e_il1 84 rfl dX10_sign_83 ?_
        first | refine e_imulN 85 rfl dX10_sign_84 rfl rfl ?_ | refine e_imul 85 rfl dX10_sign_84 ?_
        refine e_il5 87 rfl dX10_sign_85 ?_
        first | refine e_iaddN 88 rfl dX10_sign_87 rfl rfl ?_ | refine e_iadd 88 rfl dX10_sign_87 ?_
        first | refine e_ialdv 89 rfl dX10_sign_88 (by assumption) (by assumption) (by first | rfl | simp only [pk_mul, nI_add]) (by omega) (by omega) (by first | assumption | (simp only [mN_sF, mK_sF, mL_sF, mF_sF, mB_sF, mA_sF, mJ_sF, mP_sF, mO_sF, mN_sB, mK_sB, mL_sB, mF_sB, mB_sB, mA_sB, mJ_sB, mP_sB, mO_sB, mN_sA, mK_sA, mL_sA, mF_sA, mB_sA, mA_sA, mJ_sA, mP_sA, mO_sA, mN_sJ, mK_sJ, mL_sJ, mF_sJ, mB_sJ, mA_sJ, mJ_sJ, mP_sJ, mO_sJ, mN_sP, mK_sP, mL_sP, mF_sP, mB_sP, mA_sP, mJ_sP, mP_sP, mO_sP, mN_sO, mK_sO, mL_sO, mF_sO, mB_sO, mA_sO, mJ_sO, mP_sO, mO_sO, up2, if_true, if_false, eq_self, ite_true, ite_false, reduceIte, Nat.add_left_cancel_iff, Nat.add_eq_left, Nat.left_eq_add, Nat.reduceEqDiff]; assumption) | (simp only [mN_sF, mK_sF, mL_sF, mF_sF, mB_sF, mA_sF, mJ_sF, mP_sF, mO_sF, mN_sB, mK_sB, mL_sB, mF_sB, mB_sB, mA_sB, mJ_sB, mP_sB, mO_sB, mN_sA, mK_sA, mL_sA, mF_sA, mB_sA, mA_sA, mJ_sA, mP_sA, mO_sA, mN_sJ, mK_sJ, mL_sJ, mF_sJ, mB_sJ, mA_sJ, mJ_sJ, mP_sJ, mO_sJ, mN_sP, mK_sP, mL_sP, mF_sP, mB_sP, mA_sP, mJ_sP, mP_sP, mO_sP, mN_sO, mK_sO, mL_sO, mF_sO, mB_sO, mA_sO, mJ_sO, mP_sO, mO_sO, up2, if_true, if_false, eq_self, ite_true, ite_false, reduceIte, Nat.add_left_cancel_iff, Nat.add_eq_left, Nat.left_eq_add, Nat.reduceEqDiff]; done)) ?_ | refine e_iald 89 rfl dX10_sign_88 (by assumption) (by assumption) (by first | rfl | simp only [pk_mul, nI_add]) (by omega) (by omega) ?_
        refine e_is6 91 rfl dX10_sign_89 (by decide) rfl ?_
        refine e_il5 93 rfl dX10_sign_91 ?_
        first | refine e_if_leN 107 96 (by decide) rfl dX10_sign_93 rfl (by omega) (fun y2 => ?_) (fun y2 => ?_) | refine e_if_le 107 96 (by decide) rfl dX10_sign_93 (fun y2 => ?_) (fun y2 => ?_)
        · omega
        cases lf with
        | zero =>
          refine e_il4 98 rfl dX10_sign_96 ?_
          first | refine e_if_neB 104 101 (by decide) rfl dX10_sign_98 rfl (fun y3 => ?_) (fun y3 => ?_) | refine e_if_neN 104 101 (by decide) rfl dX10_sign_98 rfl (by omega) (fun y3 => ?_) (fun y3 => ?_) | refine e_if_ne 104 101 (by decide) rfl dX10_sign_98 (fun y3 => ?_) (fun y3 => ?_)
          · exact absurd rfl y3
          refine e_bipush (nI 32) 103 rfl dX10_sign_101 bc_32 ?_
          refine e_iret dX10_sign_103 rfl ?_
          rw [he] at k
          exact k
        | succ lf =>
          refine e_il4 98 rfl dX10_sign_96 ?_
          first | refine e_if_neB 104 101 (by decide) rfl dX10_sign_98 rfl (fun y3 => ?_) (fun y3 => ?_) | refine e_if_neN 104 101 (by decide) rfl dX10_sign_98 rfl (by omega) (fun y3 => ?_) (fun y3 => ?_) | refine e_if_ne 104 101 (by decide) rfl dX10_sign_98 (fun y3 => ?_) (fun y3 => ?_)
          rotate_left
          · omega
          refine e_ii4 (nI _) 107 rfl dX10_sign_104 (iim1 _) rfl ?_
          exact go lf (by omega) (by rw [he]; rfl)
  exact loop (pkL S nm b).length 0 (by omega) k0 hk rfl _ _ rfl rfl
theorem m_sign {m : Nat} {S : Ast} {x wh kk : Int32} (hW : WF S) (hM : MI m S μ) (k : ∀ μ', MF m μ μ' → MI m S μ' → K (some (.int (q_sign S x wh kk))) μ') : Cl E M_X10_sign [.ref m, .int x, .int wh, .int kk] μ K := by
  have mk0 := hM.1.1
  have hM1 := hM.thr (nI 0)
  have f1 : MF m μ (sF μ m 2 (nI 0)) := MF.thr _
  refine Cl.of0 4 pn_X10 (Nat.le_of_ble_eq_true rfl) ⟨rfl, rfl⟩ rfl ?_
  refine e_al0 1 rfl dX10_sign_0 ?_
  refine e_iconst (nI 0) 2 rfl dX10_sign_1 ic_0 ?_
  refine e_putI 5 rfl dX10_sign_2 f_X10_126 (by assumption) ?_
  generalize sF μ m 2 (nI 0) = μ1 at hM1 f1 ⊢
  have mk := hM1.1.1
  unfold q_sign at k
  refine e_al0 6 rfl dX10_sign_5 ?_
  refine e_il1 7 rfl dX10_sign_6 ?_
  refine e_invV0 [_] 10 rfl dX10_sign_7 k_X10_210 mo_X10_isName rm_X10_sign_X10_isName ⟨rfl, rfl⟩ rfl rfl (by assumption) (Nat.le_of_ble_eq_true rfl) ?_
  refine c_mIsName mk hM1.2.2.2.2.2.1.1 hW.2.2.2.1.1 ?_
  cases eN : nmx (aN S) x with
  | none =>
    rw [eN] at k
    first | refine e_if_eqB 26 13 (by decide) rfl dX10_sign_10 rfl (fun y1 => ?_) (fun y1 => ?_) | refine e_if_eqN 26 13 (by decide) rfl dX10_sign_10 rfl (by omega) (fun y1 => ?_) (fun y1 => ?_) | refine e_if_eq 26 13 (by decide) rfl dX10_sign_10 (fun y1 => ?_) (fun y1 => ?_)
    · refine e_iconst (-1) 27 rfl dX10_sign_26 ic_m1 ?_
      refine e_iret dX10_sign_27 rfl ?_
      exact k μ1 f1 hM1
    · cases y1
  | some nm =>
  rw [eN] at k
  obtain ⟨i, hx, hi⟩ := nmx_some eN
  subst hx
  have hwf := hW.2.2.2.1.2 nm (List.mem_of_getElem? hi)
  first | refine e_if_eqB 26 13 (by decide) rfl dX10_sign_10 rfl (fun y1 => ?_) (fun y1 => ?_) | refine e_if_eqN 26 13 (by decide) rfl dX10_sign_10 rfl (by omega) (fun y1 => ?_) (fun y1 => ?_) | refine e_if_eq 26 13 (by decide) rfl dX10_sign_10 (fun y1 => ?_) (fun y1 => ?_)
  · cases y1
  rcases iN_cases wh with ⟨hc, qc⟩ | ⟨a, ha, hc, qc⟩
  · rw [qc] at k
    refine e_il2 14 rfl dX10_sign_13 ?_
    refine e_if_lt 26 17 (by decide) rfl dX10_sign_14 (fun y2 => ?_) (fun y2 => ?_)
    · refine e_iconst (-1) 27 rfl dX10_sign_26 ic_m1 ?_
      refine e_iret dX10_sign_27 rfl ?_
      exact k μ1 f1 hM1
    · exact absurd hc y2
  rw [qc] at k
  simp only [] at k
  subst hc
  refine e_il2 14 rfl dX10_sign_13 ?_
  first | refine e_if_ltN 26 17 (by decide) rfl dX10_sign_14 rfl (by omega) ?_ | refine e_if_lt 26 17 (by decide) rfl dX10_sign_14 (fun h => ?_) (fun h => ?_)
  refine e_il2 18 rfl dX10_sign_17 ?_
  refine e_iconst (nI 2) 19 rfl dX10_sign_18 ic_2 ?_
  first | refine e_cmp_gtN 26 22 (by decide) rfl dX10_sign_19 rfl rfl (by omega) (by omega) (fun y3 => ?_) (fun y3 => ?_) | refine e_cmp_gt 26 22 (by decide) rfl dX10_sign_19 (fun y3 => ?_) (fun y3 => ?_)
  · rw [if_neg (by omega)] at k
    refine e_iconst (-1) 27 rfl dX10_sign_26 ic_m1 ?_
    refine e_iret dX10_sign_27 rfl ?_
    exact k μ1 f1 hM1
  rw [if_pos y3] at k
  rcases iN_cases kk with ⟨hk, qk⟩ | ⟨k0, hk31, hk, qk⟩
  · have es : sgn (lnW S nm a) kk = -1 := by unfold sgn; rw [if_pos hk]
    rw [es] at k
    refine e_il3 23 rfl dX10_sign_22 ?_
    refine e_if_ge 28 26 (by decide) rfl dX10_sign_23 (fun y4 => ?_) (fun y4 => ?_)
    · exact absurd hk (Int32.not_lt.mpr y4)
    · refine e_iconst (-1) 27 rfl dX10_sign_26 ic_m1 ?_
      refine e_iret dX10_sign_27 rfl ?_
      exact k μ1 f1 hM1
  subst hk
  rw [sgn_nI hk31] at k
  refine e_il3 23 rfl dX10_sign_22 ?_
  first | refine e_if_geN 28 26 (by decide) rfl dX10_sign_23 rfl (by omega) ?_ | refine e_if_ge 28 26 (by decide) rfl dX10_sign_23 (fun h => ?_) (fun h => ?_)
  refine e_il2 29 rfl dX10_sign_28 ?_
  refine e_iconst (nI 1) 30 rfl dX10_sign_29 ic_1 ?_
  first | refine e_cmp_neN 40 33 (by decide) rfl dX10_sign_30 rfl rfl (by omega) (by omega) (fun y5 => ?_) (fun y5 => ?_) | refine e_cmp_ne 40 33 (by decide) rfl dX10_sign_30 (fun y5 => ?_) (fun y5 => ?_)
  rotate_left
  · subst y5
    have e1 : lnW S nm 1 = pln (aL S) nm := rfl
    rw [e1] at k
    refine e_al0 34 rfl dX10_sign_33 ?_
    refine e_il1 35 rfl dX10_sign_34 ?_
    refine e_il3 36 rfl dX10_sign_35 ?_
    refine e_invV0 [_, _] 39 rfl dX10_sign_36 k_X10_247 mo_X10_over rm_X10_sign_X10_over ⟨rfl, rfl⟩ rfl rfl (by assumption) (Nat.le_of_ble_eq_true rfl) ?_
    refine c_over hW hM1 hi hk31 ?_
    refine e_iret dX10_sign_39 rfl ?_
    exact k μ1 f1 hM1
  refine e_al0 41 rfl dX10_sign_40 ?_
  refine e_il1 42 rfl dX10_sign_41 ?_
  refine e_invV0 [_] 45 rfl dX10_sign_42 k_X10_219 mo_X10_first rm_X10_sign_X10_first ⟨rfl, rfl⟩ rfl rfl (by assumption) (Nat.le_of_ble_eq_true rfl) ?_
  refine c_first hW hM1 hi (fun μ2 hF2 hf2 hs2 _ _ => ?_)
  have hM2 : MI m S μ2 := hM1.scr (fsS_mQ hF2) (fun f hf => hf2 f (by omega))
  have mk2 := hM2.1.1
  by_cases a2 : a = 2
  · subst a2
    rw [lnW_2] at k
    refine e_al0 46 rfl dX10_sign_45 ?_
    refine e_il1 47 rfl dX10_sign_46 ?_
    refine e_il2 48 rfl dX10_sign_47 ?_
    refine e_iconst (nI 2) 49 rfl dX10_sign_48 ic_2 ?_
    first | refine e_cmp_neN 56 52 (by decide) rfl dX10_sign_49 rfl rfl (by omega) (by omega) (fun y6 => ?_) (fun y6 => ?_) | refine e_cmp_ne 56 52 (by decide) rfl dX10_sign_49 (fun y6 => ?_) (fun y6 => ?_)
    · exact absurd rfl y6
    refine e_iconst (nI 1) 53 rfl dX10_sign_52 ic_1 ?_
    refine e_goto 57 (by decide) dX10_sign_53 ?_
    refine e_invV0 [_, _] 60 rfl dX10_sign_57 k_X10_228 mo_X10_pick rm_X10_sign_X10_pick ⟨rfl, rfl⟩ rfl rfl (by assumption) (Nat.le_of_ble_eq_true rfl) ?_
    refine c_pick (b := true) hW hM2 hi hs2 (fun μ3 hF3 hp3 _ _ => ?_)
    have hM3 : MI m S μ3 := hM2.scr (pkS_mQ hF3) (kF.of hF3 (by unfold pkS; omega))
    exact c_signWalk hW hM3 hi hk31 (Or.inl ⟨rfl, rfl⟩) hp3 (k μ3 ((f1.trans (mQ_MF (fsS_mQ hF2))).trans (mQ_MF (pkS_mQ hF3))) hM3)
  · have a0 : a = 0 := by omega
    subst a0
    rw [lnW_0] at k
    refine e_al0 46 rfl dX10_sign_45 ?_
    refine e_il1 47 rfl dX10_sign_46 ?_
    refine e_il2 48 rfl dX10_sign_47 ?_
    refine e_iconst (nI 2) 49 rfl dX10_sign_48 ic_2 ?_
    first | refine e_cmp_neN 56 52 (by decide) rfl dX10_sign_49 rfl rfl (by omega) (by omega) (fun y6 => ?_) (fun y6 => ?_) | refine e_cmp_ne 56 52 (by decide) rfl dX10_sign_49 (fun y6 => ?_) (fun y6 => ?_)
    rotate_left
    · omega
    refine e_iconst (nI 0) 57 rfl dX10_sign_56 ic_0 ?_
    refine e_invV0 [_, _] 60 rfl dX10_sign_57 k_X10_228 mo_X10_pick rm_X10_sign_X10_pick ⟨rfl, rfl⟩ rfl rfl (by assumption) (Nat.le_of_ble_eq_true rfl) ?_
    refine c_pick (b := false) hW hM2 hi hs2 (fun μ3 hF3 hp3 _ _ => ?_)
    have hM3 : MI m S μ3 := hM2.scr (pkS_mQ hF3) (kF.of hF3 (by unfold pkS; omega))
    exact c_signWalk hW hM3 hi hk31 (Or.inr ⟨rfl, rfl⟩) hp3 (k μ3 ((f1.trans (mQ_MF (fsS_mQ hF2))).trans (mQ_MF (pkS_mQ hF3))) hM3)
theorem c_fails {m v : Nat} {S : Ast} (hM : MI m S μ) (k : ∀ μ', MF m μ μ' → MI m S μ' → mF μ' m 2 = nI v → K (some (.int (nI 0))) μ') : Cl E M_X10_fails [.ref m, .int (nI v)] μ K := by
  have mk := hM.1.1
  refine Cl.of0 0 pn_X10 (Nat.le_of_ble_eq_true rfl) ⟨rfl, rfl⟩ rfl ?_
  refine e_al0 1 rfl dX10_fails_0 ?_
  refine e_il1 2 rfl dX10_fails_1 ?_
  refine e_putI 5 rfl dX10_fails_2 f_X10_126 (by assumption) ?_
  refine e_iconst (nI 0) 6 rfl dX10_fails_5 ic_0 ?_
  refine e_iret dX10_fails_6 rfl ?_
  exact k _ (MF.thr _) (hM.thr _) (by simp only [mN_sF, mK_sF, mL_sF, mF_sF, mB_sF, mA_sF, mJ_sF, mP_sF, mO_sF, mN_sB, mK_sB, mL_sB, mF_sB, mB_sB, mA_sB, mJ_sB, mP_sB, mO_sB, mN_sA, mK_sA, mL_sA, mF_sA, mB_sA, mA_sA, mJ_sA, mP_sA, mO_sA, mN_sJ, mK_sJ, mL_sJ, mF_sJ, mB_sJ, mA_sJ, mJ_sJ, mP_sJ, mO_sJ, mN_sP, mK_sP, mL_sP, mF_sP, mB_sP, mA_sP, mJ_sP, mP_sP, mO_sP, mN_sO, mK_sO, mL_sO, mF_sO, mB_sO, mA_sO, mJ_sO, mP_sO, mO_sO, up2, if_true, if_false, eq_self, ite_true, ite_false, reduceIte, Nat.add_left_cancel_iff, Nat.add_eq_left, Nat.left_eq_add, Nat.reduceEqDiff])
/-- what look does: what was thrown, and what it answers if nothing was -/
noncomputable def q_look (S : Ast) (x wh : Int32) : Nat × Int32 := match nmx (aN S) x, iN x with
  | some nm, some i => match iN wh with
    | some w => if w ≤ 5 then (0, lkV S i nm w) else (2, nI 0)
    | none => (2, nI 0)
  | _, _ => (1, nI 0)
theorem m_look {m : Nat} {S : Ast} {x wh : Int32} (hW : WF S) (hM : MI m S μ) (k : ∀ μ', MF m μ μ' → MI m S μ' → mF μ' m 2 = nI (q_look S x wh).1 → K (some (.int (q_look S x wh).2)) μ') : Cl E M_X10_look [.ref m, .int x, .int wh] μ K := by
  have mk0 := hM.1.1
  have hM1 := hM.thr (nI 0)
  have f1 : MF m μ (sF μ m 2 (nI 0)) := MF.thr _
  have t0 : mF (sF μ m 2 (nI 0)) m 2 = nI 0 := by simp only [mN_sF, mK_sF, mL_sF, mF_sF, mB_sF, mA_sF, mJ_sF, mP_sF, mO_sF, mN_sB, mK_sB, mL_sB, mF_sB, mB_sB, mA_sB, mJ_sB, mP_sB, mO_sB, mN_sA, mK_sA, mL_sA, mF_sA, mB_sA, mA_sA, mJ_sA, mP_sA, mO_sA, mN_sJ, mK_sJ, mL_sJ, mF_sJ, mB_sJ, mA_sJ, mJ_sJ, mP_sJ, mO_sJ, mN_sP, mK_sP, mL_sP, mF_sP, mB_sP, mA_sP, mJ_sP, mP_sP, mO_sP, mN_sO, mK_sO, mL_sO, mF_sO, mB_sO, mA_sO, mJ_sO, mP_sO, mO_sO, up2, if_true, if_false, eq_self, ite_true, ite_false, reduceIte, Nat.add_left_cancel_iff, Nat.add_eq_left, Nat.left_eq_add, Nat.reduceEqDiff]
  refine Cl.of0 0 pn_X10 (Nat.le_of_ble_eq_true rfl) ⟨rfl, rfl⟩ rfl ?_
  refine e_al0 1 rfl dX10_look_0 ?_
  refine e_iconst (nI 0) 2 rfl dX10_look_1 ic_0 ?_
  refine e_putI 5 rfl dX10_look_2 f_X10_126 (by assumption) ?_
  generalize sF μ m 2 (nI 0) = μ1 at hM1 f1 t0 ⊢
  have mk := hM1.1.1
  unfold q_look at k
  refine e_al0 6 rfl dX10_look_5 ?_
  refine e_il1 7 rfl dX10_look_6 ?_
  refine e_invV0 [_] 10 rfl dX10_look_7 k_X10_210 mo_X10_isName rm_X10_look_X10_isName ⟨rfl, rfl⟩ rfl rfl (by assumption) (Nat.le_of_ble_eq_true rfl) ?_
  refine c_mIsName mk hM1.2.2.2.2.2.1.1 hW.2.2.2.1.1 ?_
  cases eN : nmx (aN S) x with
  | none =>
    rw [eN] at k
    first | refine e_if_neB 19 13 (by decide) rfl dX10_look_10 rfl (fun y1 => ?_) (fun y1 => ?_) | refine e_if_neN 19 13 (by decide) rfl dX10_look_10 rfl (by omega) (fun y1 => ?_) (fun y1 => ?_) | refine e_if_ne 19 13 (by decide) rfl dX10_look_10 (fun y1 => ?_) (fun y1 => ?_)
    · cases y1
    refine e_al0 14 rfl dX10_look_13 ?_
    refine e_iconst (nI 1) 15 rfl dX10_look_14 ic_1 ?_
    refine e_invV0 [_] 18 rfl dX10_look_15 k_X10_235 mo_X10_fails rm_X10_look_X10_fails ⟨rfl, rfl⟩ rfl rfl (by assumption) (Nat.le_of_ble_eq_true rfl) ?_
    refine c_fails hM1 (fun μ2 f2 hM2 ht2 => ?_)
    refine e_iret dX10_look_18 rfl ?_
    exact k μ2 (f1.trans f2) hM2 ht2
  | some nm =>
  rw [eN] at k
  obtain ⟨i, hx, hi⟩ := nmx_some eN
  subst hx
  have hil := (List.getElem?_eq_some_iff.mp hi).1
  have n30 := hW.2.2.2.1.1
  have hwf := hW.2.2.2.1.2 nm (List.mem_of_getElem? hi)
  have hn8 := hwf.2.2.1
  rw [iN_nI (by omega)] at k
  simp only [] at k
  first | refine e_if_neB 19 13 (by decide) rfl dX10_look_10 rfl (fun y1 => ?_) (fun y1 => ?_) | refine e_if_neN 19 13 (by decide) rfl dX10_look_10 rfl (by omega) (fun y1 => ?_) (fun y1 => ?_) | refine e_if_ne 19 13 (by decide) rfl dX10_look_10 (fun y1 => ?_) (fun y1 => ?_)
  rotate_left
  · cases y1
  refine e_il2 20 rfl dX10_look_19 ?_
  have out : (match iN wh with | some w => if w ≤ 5 then (0, lkV S i nm w) else (2, nI 0) | none => (2, nI 0)) = (2, nI 0) → Ev E M_X10_look 0 0 116 [some (.ref m), some (.int (nI i)), some (.int wh)] [] μ1 K := fun h => by
    rw [h] at k
    refine e_al0 117 rfl dX10_look_116 ?_
    refine e_iconst (nI 2) 118 rfl dX10_look_117 ic_2 ?_
    refine e_invV0 [_] 121 rfl dX10_look_118 k_X10_235 mo_X10_fails rm_X10_look_X10_fails ⟨rfl, rfl⟩ rfl rfl (by assumption) (Nat.le_of_ble_eq_true rfl) ?_
    refine c_fails hM1 (fun μ2 f2 hM2 ht2 => ?_)
    refine e_iret dX10_look_121 rfl ?_
    exact k μ2 (f1.trans f2) hM2 ht2
  rcases iN_cases wh with ⟨hw, qw⟩ | ⟨w, hw31, hw, qw⟩
  · have hx' : wh.toInt < 0 := by have := Int32.lt_iff_toInt_lt.mp hw; simpa using this
    refine e_tabOut 116 dX10_look_20 (Or.inl hx') (by decide) ?_
    exact out (by rw [qw])
  subst hw
  have tw := nI_toInt (n := w) hw31
  by_cases c : 5 < w
  · refine e_tabOut 116 dX10_look_20 (Or.inr (by rw [tw]; omega)) (by decide) ?_
    exact out (by rw [qw]; simp only []; rw [if_neg (by omega)])
  clear out
  rw [qw] at k
  simp only [] at k
  rw [if_pos (by omega)] at k
  simp only [] at k
  unfold lkV at k
  obtain ⟨n1, n2, n3⟩ := hM1.2.2.2.2.2.1.2 i nm hi
  have hcase : w = 0 ∨ w = 1 ∨ w = 2 ∨ w = 3 ∨ w = 4 ∨ w = 5 := by omega
  rcases hcase with e | e | e | e | e | e
  · subst e
    obtain ⟨pl, kl, ll⟩ := hM1.1.nLand
    refine e_tabIn 60 dX10_look_20 (by rw [tw]; omega) (by rw [tw]; omega) (by rw [tw]; rfl) (by decide) ?_
    refine e_al0 61 rfl dX10_look_60 ?_
    refine e_getR 64 rfl dX10_look_61 f_X10_60 (by assumption) (by assumption) ?_
    refine e_il1 65 rfl dX10_look_64 ?_
    first | refine e_ialdv 66 rfl dX10_look_65 (by assumption) (by assumption) (by first | rfl | simp only [pk_mul, nI_add]) (by omega) (by omega) (by first | assumption | (simp only [mN_sF, mK_sF, mL_sF, mF_sF, mB_sF, mA_sF, mJ_sF, mP_sF, mO_sF, mN_sB, mK_sB, mL_sB, mF_sB, mB_sB, mA_sB, mJ_sB, mP_sB, mO_sB, mN_sA, mK_sA, mL_sA, mF_sA, mB_sA, mA_sA, mJ_sA, mP_sA, mO_sA, mN_sJ, mK_sJ, mL_sJ, mF_sJ, mB_sJ, mA_sJ, mJ_sJ, mP_sJ, mO_sJ, mN_sP, mK_sP, mL_sP, mF_sP, mB_sP, mA_sP, mJ_sP, mP_sP, mO_sP, mN_sO, mK_sO, mL_sO, mF_sO, mB_sO, mA_sO, mJ_sO, mP_sO, mO_sO, up2, if_true, if_false, eq_self, ite_true, ite_false, reduceIte, Nat.add_left_cancel_iff, Nat.add_eq_left, Nat.left_eq_add, Nat.reduceEqDiff]; assumption) | (simp only [mN_sF, mK_sF, mL_sF, mF_sF, mB_sF, mA_sF, mJ_sF, mP_sF, mO_sF, mN_sB, mK_sB, mL_sB, mF_sB, mB_sB, mA_sB, mJ_sB, mP_sB, mO_sB, mN_sA, mK_sA, mL_sA, mF_sA, mB_sA, mA_sA, mJ_sA, mP_sA, mO_sA, mN_sJ, mK_sJ, mL_sJ, mF_sJ, mB_sJ, mA_sJ, mJ_sJ, mP_sJ, mO_sJ, mN_sP, mK_sP, mL_sP, mF_sP, mB_sP, mA_sP, mJ_sP, mP_sP, mO_sP, mN_sO, mK_sO, mL_sO, mF_sO, mB_sO, mA_sO, mJ_sO, mP_sO, mO_sO, up2, if_true, if_false, eq_self, ite_true, ite_false, reduceIte, Nat.add_left_cancel_iff, Nat.add_eq_left, Nat.left_eq_add, Nat.reduceEqDiff]; done)) ?_ | refine e_iald 66 rfl dX10_look_65 (by assumption) (by assumption) (by first | rfl | simp only [pk_mul, nI_add]) (by omega) (by omega) ?_
    refine e_iret dX10_look_66 rfl ?_
    exact k μ1 f1 hM1 t0
  · subst e
    obtain ⟨pl, kl, ll⟩ := hM1.1.nWords
    refine e_tabIn 67 dX10_look_20 (by rw [tw]; omega) (by rw [tw]; omega) (by rw [tw]; rfl) (by decide) ?_
    refine e_al0 68 rfl dX10_look_67 ?_
    refine e_getR 71 rfl dX10_look_68 f_X10_63 (by assumption) (by assumption) ?_
    refine e_il1 72 rfl dX10_look_71 ?_
    first | refine e_ialdv 73 rfl dX10_look_72 (by assumption) (by assumption) (by first | rfl | simp only [pk_mul, nI_add]) (by omega) (by omega) (by first | assumption | (simp only [mN_sF, mK_sF, mL_sF, mF_sF, mB_sF, mA_sF, mJ_sF, mP_sF, mO_sF, mN_sB, mK_sB, mL_sB, mF_sB, mB_sB, mA_sB, mJ_sB, mP_sB, mO_sB, mN_sA, mK_sA, mL_sA, mF_sA, mB_sA, mA_sA, mJ_sA, mP_sA, mO_sA, mN_sJ, mK_sJ, mL_sJ, mF_sJ, mB_sJ, mA_sJ, mJ_sJ, mP_sJ, mO_sJ, mN_sP, mK_sP, mL_sP, mF_sP, mB_sP, mA_sP, mJ_sP, mP_sP, mO_sP, mN_sO, mK_sO, mL_sO, mF_sO, mB_sO, mA_sO, mJ_sO, mP_sO, mO_sO, up2, if_true, if_false, eq_self, ite_true, ite_false, reduceIte, Nat.add_left_cancel_iff, Nat.add_eq_left, Nat.left_eq_add, Nat.reduceEqDiff]; assumption) | (simp only [mN_sF, mK_sF, mL_sF, mF_sF, mB_sF, mA_sF, mJ_sF, mP_sF, mO_sF, mN_sB, mK_sB, mL_sB, mF_sB, mB_sB, mA_sB, mJ_sB, mP_sB, mO_sB, mN_sA, mK_sA, mL_sA, mF_sA, mB_sA, mA_sA, mJ_sA, mP_sA, mO_sA, mN_sJ, mK_sJ, mL_sJ, mF_sJ, mB_sJ, mA_sJ, mJ_sJ, mP_sJ, mO_sJ, mN_sP, mK_sP, mL_sP, mF_sP, mB_sP, mA_sP, mJ_sP, mP_sP, mO_sP, mN_sO, mK_sO, mL_sO, mF_sO, mB_sO, mA_sO, mJ_sO, mP_sO, mO_sO, up2, if_true, if_false, eq_self, ite_true, ite_false, reduceIte, Nat.add_left_cancel_iff, Nat.add_eq_left, Nat.left_eq_add, Nat.reduceEqDiff]; done)) ?_ | refine e_iald 73 rfl dX10_look_72 (by assumption) (by assumption) (by first | rfl | simp only [pk_mul, nI_add]) (by omega) (by omega) ?_
    refine e_iret dX10_look_73 rfl ?_
    exact k μ1 f1 hM1 t0
  · subst e
    refine e_tabIn 74 dX10_look_20 (by rw [tw]; omega) (by rw [tw]; omega) (by rw [tw]; rfl) (by decide) ?_
    refine e_al0 75 rfl dX10_look_74 ?_
    refine e_invV0 [] 78 rfl dX10_look_75 k_X10_238 mo_X10_orderAll rm_X10_look_X10_orderAll ⟨rfl, rfl⟩ rfl rfl (by assumption) (Nat.le_of_ble_eq_true rfl) ?_
    refine c_orderAll hW hM1 (fun μ2 hF2 hf2 hR2 => ?_)
    have hM2 : MI m S μ2 := hM1.scr (orS_mQ hF2) (fun f hf => hf2 f (by omega))
    have mk2 := hM2.1.1
    refine e_al0 79 rfl dX10_look_78 ?_
    refine e_il1 80 rfl dX10_look_79 ?_
    refine e_invV0 [_] 83 rfl dX10_look_80 k_X10_241 mo_X10_placeOf rm_X10_look_X10_placeOf ⟨rfl, rfl⟩ rfl rfl (by assumption) (Nat.le_of_ble_eq_true rfl) ?_
    refine c_placeOf hW hM2 hR2 hil ?_
    refine e_iret dX10_look_83 rfl ?_
    exact k μ2 (f1.trans (mQ_MF (orS_mQ hF2))) hM2 (by rw [hf2 2 (by decide)]; exact t0)
  · subst e
    refine e_tabIn 84 dX10_look_20 (by rw [tw]; omega) (by rw [tw]; omega) (by rw [tw]; rfl) (by decide) ?_
    refine e_al0 85 rfl dX10_look_84 ?_
    refine e_il1 86 rfl dX10_look_85 ?_
    refine e_invV0 [_] 89 rfl dX10_look_86 k_X10_219 mo_X10_first rm_X10_look_X10_first ⟨rfl, rfl⟩ rfl rfl (by assumption) (Nat.le_of_ble_eq_true rfl) ?_
    refine c_first hW hM1 hi (fun μ2 hF2 hf2 hs2 _ _ => ?_)
    have hM2 : MI m S μ2 := hM1.scr (fsS_mQ hF2) (fun f hf => hf2 f (by omega))
    have mk2 := hM2.1.1
    refine e_al0 90 rfl dX10_look_89 ?_
    refine e_il1 91 rfl dX10_look_90 ?_
    refine e_iconst (nI 1) 92 rfl dX10_look_91 ic_1 ?_
    refine e_invV0 [_, _] 95 rfl dX10_look_92 k_X10_228 mo_X10_pick rm_X10_look_X10_pick ⟨rfl, rfl⟩ rfl rfl (by assumption) (Nat.le_of_ble_eq_true rfl) ?_
    refine c_pick (b := true) hW hM2 hi hs2 (fun μ3 hF3 hp3 _ _ => ?_)
    have hM3 : MI m S μ3 := hM2.scr (pkS_mQ hF3) (kF.of hF3 (by unfold pkS; omega))
    have mk3 := hM3.1.1
    obtain ⟨pm, km, lm⟩ := hM3.1.pickedMany
    have vm := hp3.1
    refine e_al0 96 rfl dX10_look_95 ?_
    refine e_getR 99 rfl dX10_look_96 f_X10_123 (by assumption) (by assumption) ?_
    refine e_il1 100 rfl dX10_look_99 ?_
    first | refine e_ialdv 101 rfl dX10_look_100 (by assumption) (by assumption) (by first | rfl | simp only [pk_mul, nI_add]) (by omega) (by omega) (by first | assumption | (simp only [mN_sF, mK_sF, mL_sF, mF_sF, mB_sF, mA_sF, mJ_sF, mP_sF, mO_sF, mN_sB, mK_sB, mL_sB, mF_sB, mB_sB, mA_sB, mJ_sB, mP_sB, mO_sB, mN_sA, mK_sA, mL_sA, mF_sA, mB_sA, mA_sA, mJ_sA, mP_sA, mO_sA, mN_sJ, mK_sJ, mL_sJ, mF_sJ, mB_sJ, mA_sJ, mJ_sJ, mP_sJ, mO_sJ, mN_sP, mK_sP, mL_sP, mF_sP, mB_sP, mA_sP, mJ_sP, mP_sP, mO_sP, mN_sO, mK_sO, mL_sO, mF_sO, mB_sO, mA_sO, mJ_sO, mP_sO, mO_sO, up2, if_true, if_false, eq_self, ite_true, ite_false, reduceIte, Nat.add_left_cancel_iff, Nat.add_eq_left, Nat.left_eq_add, Nat.reduceEqDiff]; assumption) | (simp only [mN_sF, mK_sF, mL_sF, mF_sF, mB_sF, mA_sF, mJ_sF, mP_sF, mO_sF, mN_sB, mK_sB, mL_sB, mF_sB, mB_sB, mA_sB, mJ_sB, mP_sB, mO_sB, mN_sA, mK_sA, mL_sA, mF_sA, mB_sA, mA_sA, mJ_sA, mP_sA, mO_sA, mN_sJ, mK_sJ, mL_sJ, mF_sJ, mB_sJ, mA_sJ, mJ_sJ, mP_sJ, mO_sJ, mN_sP, mK_sP, mL_sP, mF_sP, mB_sP, mA_sP, mJ_sP, mP_sP, mO_sP, mN_sO, mK_sO, mL_sO, mF_sO, mB_sO, mA_sO, mJ_sO, mP_sO, mO_sO, up2, if_true, if_false, eq_self, ite_true, ite_false, reduceIte, Nat.add_left_cancel_iff, Nat.add_eq_left, Nat.left_eq_add, Nat.reduceEqDiff]; done)) ?_ | refine e_iald 101 rfl dX10_look_100 (by assumption) (by assumption) (by first | rfl | simp only [pk_mul, nI_add]) (by omega) (by omega) ?_
    refine e_iret dX10_look_101 rfl ?_
    exact k μ3 ((f1.trans (mQ_MF (fsS_mQ hF2))).trans (mQ_MF (pkS_mQ hF3))) hM3 (by rw [(hF3.2.2.2.2.2 m (by unfold pkS; omega)).1, hf2 2 (by decide)]; exact t0)
  · subst e
    refine e_tabIn 102 dX10_look_20 (by rw [tw]; omega) (by rw [tw]; omega) (by rw [tw]; rfl) (by decide) ?_
    refine e_al0 103 rfl dX10_look_102 ?_
    refine e_il1 104 rfl dX10_look_103 ?_
    refine e_iconst (nI 0) 105 rfl dX10_look_104 ic_0 ?_
    refine e_invV0 [_, _] 108 rfl dX10_look_105 k_X10_244 mo_X10_signs rm_X10_look_X10_signs ⟨rfl, rfl⟩ rfl rfl (by assumption) (Nat.le_of_ble_eq_true rfl) ?_
    refine c_signs0 hW hM1 hi (fun μ2 f2 hM2 ht2 => ?_)
    refine e_iret dX10_look_108 rfl ?_
    exact k μ2 (f1.trans f2) hM2 (ht2.trans t0)
  · subst e
    refine e_tabIn 109 dX10_look_20 (by rw [tw]; omega) (by rw [tw]; omega) (by rw [tw]; rfl) (by decide) ?_
    refine e_al0 110 rfl dX10_look_109 ?_
    refine e_il1 111 rfl dX10_look_110 ?_
    refine e_iconst (nI 1) 112 rfl dX10_look_111 ic_1 ?_
    refine e_invV0 [_, _] 115 rfl dX10_look_112 k_X10_244 mo_X10_signs rm_X10_look_X10_signs ⟨rfl, rfl⟩ rfl rfl (by assumption) (Nat.le_of_ble_eq_true rfl) ?_
    refine c_signs1 hW hM1 hi ?_
    refine e_iret dX10_look_115 rfl ?_
    exact k μ1 f1 hM1 t0
end MLOOK
