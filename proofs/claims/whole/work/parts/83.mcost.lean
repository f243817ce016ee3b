/-! NameDeskModel: costs -/
section MCOST
variable {E : En} {μ : Mm} {K : Option Value → Mm → Prop}
def cI (c : Nat) : Int32 := if c < 1000 then nI c else -1
theorem cst_mem {es es' : List Ent} (h : ∀ e, e ∈ es ↔ e ∈ es') (ld : Nat) (en w : List Nat) (k : Nat) : cst es ld en w k = cst es' ld en w k := by
  unfold cst
  simp only [h]
theorem c_costOf {m l q kd : Nat} {es : List Ent} {x : Shp} {v : List Nat} (hg : Mg μ m) (hb : mBk μ m es) (hes : es.length ≤ 80 ∧ ∀ e ∈ es, wfE e) (hl : l < 6) (hx : mShp μ m l x) (hxw : wfShp x) (hq : q < 240) (hw : mWd μ m q v) (hv : isWordL v = true) (hk : kd < 7)
    (k : K (some (.int (cI (cst es l x.2.2.2 (foldL v) kd)))) μ) : Cl E M_X10_costOf [.ref m, .int (nI l), .int (nI q), .int (nI kd)] μ K := by
  have mk := hg.1
  obtain ⟨pf, kf, lf⟩ := hg.fold
  obtain ⟨pz, kz, lz⟩ := hg.foldSize
  obtain ⟨pe, ke, le⟩ := hg.endSize
  obtain ⟨pb, kb, lb⟩ := hg.endBy
  obtain ⟨w, hwE⟩ : ∃ w, w = foldL v := ⟨_, rfl⟩
  obtain ⟨en, henE⟩ : ∃ en, en = x.2.2.2 := ⟨_, rfl⟩
  have hvw := wordL hv
  have hwr : ∀ c ∈ w, 97 ≤ c ∧ c ≤ 122 := by rw [hwE]; exact foldL_r
  have zw := hw.2.1
  have hH := hw.2.2
  have ez := hx.2.2.2.2.1
  have eH := hx.2.2.2.2.2
  have en6 := hxw.2.2.2.1
  have enr := hxw.2.2.2.2
  rw [← hwE] at zw hH k hvw
  rw [← henE] at ez eH en6 enr k
  have w1 := hvw.2.2.1
  have w20 := hvw.2.2.2.1
  have hH' : ∀ n, n ≤ w.length → Hd (fun j => mA μ (m + 20) (21 * q + j)) (w.take n) := fun n _ j c hj => by
    have hjl := (List.getElem?_eq_some_iff.mp hj).1
    rw [List.length_take] at hjl
    rw [List.getElem?_take_of_lt (by omega)] at hj
    exact hH j c hj
  have ask : ∀ (n kd' : Nat) {K' : Option Value → Mm → Prop}, n ≤ w.length → kd' < 5 → ((l, kd', w.take n) ∉ es → K' (some (.int (-1))) μ) → ((l, kd', w.take n) ∈ es → ∀ i, i < 80 → K' (some (.int (nI i))) μ) → Cl E M_X10_entry [.ref m, .int (nI l), .int (nI kd'), .ref (m + 20), .int (nI (21 * q)), .int (nI n)] μ K' := by
    intro n kd' K' hn hkd' kn ks
    have hlen : (w.take n).length = n := by rw [List.length_take]; omega
    have := c_mEntry (E := E) (μ := μ) (K := K') (m := m) (r := m + 20) (at0 := 21 * q) (len := 5040) (ld := l) (kd := kd') (es := es) (w := w.take n) hg hb hes kf lf (by decide) (by rw [hlen]; omega) (hH' n hn) (fun c hc => by have := hwr c (List.mem_of_mem_take hc); omega) (by rw [hlen]; omega) hl hkd' kn (fun i hi _ => ks (List.mem_of_getElem? hi) i (by have := (List.getElem?_eq_some_iff.mp hi).1; have := hes.1; omega))
    rw [hlen] at this
    exact this
  have tw : w.take w.length = w := List.take_length
  have cont : ∀ b : Bool, (b = true ↔ kd < 5 ∧ (l, kd, w) ∈ es) → Ev E M_X10_costOf 0 0 35 [some (.ref m), some (.int (nI l)), some (.int (nI q)), some (.int (nI kd)), none, none, none] [.int (bI b)] μ K := by
    intro b hbb
    have hcase : kd = 0 ∨ kd = 1 ∨ kd = 2 ∨ kd = 3 ∨ kd = 4 ∨ kd = 5 ∨ kd = 6 := by omega
    have tpq : (kd = 0 ∨ kd = 2 ∨ kd = 3) → Ev E M_X10_costOf 0 0 51 [some (.ref m), some (.int (nI l)), some (.int (nI q)), some (.int (nI kd)), some (.int (bI b)), none, none] [] μ K := by
      intro h3
      unfold cst at k
      by_cases c : kd < 5 ∧ (l, kd, w) ∈ es
      · rw [if_pos c] at k
        refine e_il4 53 rfl dX10_costOf_51 ?_
        first | refine e_if_eqB 60 56 (by decide) rfl dX10_costOf_53 rfl (fun y1 => ?_) (fun y1 => ?_) | refine e_if_eqN 60 56 (by decide) rfl dX10_costOf_53 rfl (by omega) (fun y1 => ?_) (fun y1 => ?_) | refine e_if_eq 60 56 (by decide) rfl dX10_costOf_53 (fun y1 => ?_) (fun y1 => ?_)
        · rw [hbb.mpr c] at y1; cases y1
        · refine e_iconst (nI 0) 57 rfl dX10_costOf_56 ic_0 ?_
          refine e_goto 61 (by decide) dX10_costOf_57 ?_
          refine e_iret dX10_costOf_61 rfl ?_
          exact k
      · rw [if_neg c, if_neg (by omega), if_neg (by omega), if_neg (by omega)] at k
        refine e_il4 53 rfl dX10_costOf_51 ?_
        first | refine e_if_eqB 60 56 (by decide) rfl dX10_costOf_53 rfl (fun y1 => ?_) (fun y1 => ?_) | refine e_if_eqN 60 56 (by decide) rfl dX10_costOf_53 rfl (by omega) (fun y1 => ?_) (fun y1 => ?_) | refine e_if_eq 60 56 (by decide) rfl dX10_costOf_53 (fun y1 => ?_) (fun y1 => ?_)
        · refine e_iconst (-1) 61 rfl dX10_costOf_60 ic_m1 ?_
          refine e_iret dX10_costOf_61 rfl ?_
          exact k
        · exact absurd (hbb.mp y1) c
    have gf : (kd = 1 ∨ kd = 4) → Ev E M_X10_costOf 0 0 198 [some (.ref m), some (.int (nI l)), some (.int (nI q)), some (.int (nI kd)), some (.int (bI b)), none, none] [] μ K := by
      intro h3
      unfold cst at k
      by_cases c : kd < 5 ∧ (l, kd, w) ∈ es
      · rw [if_pos c] at k
        refine e_il4 200 rfl dX10_costOf_198 ?_
        first | refine e_if_eqB 205 203 (by decide) rfl dX10_costOf_200 rfl (fun y1 => ?_) (fun y1 => ?_) | refine e_if_eqN 205 203 (by decide) rfl dX10_costOf_200 rfl (by omega) (fun y1 => ?_) (fun y1 => ?_) | refine e_if_eq 205 203 (by decide) rfl dX10_costOf_200 (fun y1 => ?_) (fun y1 => ?_)
        · rw [hbb.mpr c] at y1; cases y1
        · refine e_iconst (nI 0) 204 rfl dX10_costOf_203 ic_0 ?_
          refine e_iret dX10_costOf_204 rfl ?_
          exact k
      · rw [if_neg c, if_pos h3] at k
        have y5 : (l, 0, w) ∈ es ∨ (l, 2, w) ∈ es ∨ (l, 3, w) ∈ es → Ev E M_X10_costOf 0 0 274 [some (.ref m), some (.int (nI l)), some (.int (nI q)), some (.int (nI kd)), some (.int (bI b)), none, none] [] μ K := by
          intro hin
          rw [if_pos hin] at k
          refine e_iconst (nI 1) 275 rfl dX10_costOf_274 ic_1 ?_
          refine e_goto 279 (by decide) dX10_costOf_275 ?_
          refine e_is5 281 rfl dX10_costOf_279 (by decide) rfl ?_
          refine e_il5 283 rfl dX10_costOf_281 ?_
          first | refine e_if_eqB 290 286 (by decide) rfl dX10_costOf_283 rfl (fun y2 => ?_) (fun y2 => ?_) | refine e_if_eqN 290 286 (by decide) rfl dX10_costOf_283 rfl (by omega) (fun y2 => ?_) (fun y2 => ?_) | refine e_if_eq 290 286 (by decide) rfl dX10_costOf_283 (fun y2 => ?_) (fun y2 => ?_)
          · exact absurd y2 (by decide)
          refine e_iconst (nI 5) 287 rfl dX10_costOf_286 ic_5 ?_
          refine e_goto 291 (by decide) dX10_costOf_287 ?_
          refine e_iret dX10_costOf_291 rfl ?_
          exact k
        refine e_il4 200 rfl dX10_costOf_198 ?_
        first | refine e_if_eqB 205 203 (by decide) rfl dX10_costOf_200 rfl (fun y1 => ?_) (fun y1 => ?_) | refine e_if_eqN 205 203 (by decide) rfl dX10_costOf_200 rfl (by omega) (fun y1 => ?_) (fun y1 => ?_) | refine e_if_eq 205 203 (by decide) rfl dX10_costOf_200 (fun y1 => ?_) (fun y1 => ?_)
        rotate_left
        · exact absurd (hbb.mp y1) c
        refine e_al0 206 rfl dX10_costOf_205 ?_
        refine e_il1 207 rfl dX10_costOf_206 ?_
        refine e_iconst (nI 0) 208 rfl dX10_costOf_207 ic_0 ?_
        refine e_al0 209 rfl dX10_costOf_208 ?_
        refine e_getR 212 rfl dX10_costOf_209 f_X10_72 (by assumption) (by assumption) ?_
        refine e_bipush (nI 21) 214 rfl dX10_costOf_212 bc_21 ?_
        refine e_il2 215 rfl dX10_costOf_214 ?_
        first | refine e_imulN 216 rfl dX10_costOf_215 rfl rfl ?_ | refine e_imul 216 rfl dX10_costOf_215 ?_
        refine e_al0 217 rfl dX10_costOf_216 ?_
        refine e_getR 220 rfl dX10_costOf_217 f_X10_75 (by assumption) (by assumption) ?_
        refine e_il2 221 rfl dX10_costOf_220 ?_
        first | refine e_ialdv 222 rfl dX10_costOf_221 (by assumption) (by assumption) (by first | rfl | simp only [pk_mul, nI_add]) (by omega) (by omega) (by first | assumption | (simp only [mN_sF, mK_sF, mL_sF, mF_sF, mB_sF, mA_sF, mJ_sF, mP_sF, mO_sF, mN_sB, mK_sB, mL_sB, mF_sB, mB_sB, mA_sB, mJ_sB, mP_sB, mO_sB, mN_sA, mK_sA, mL_sA, mF_sA, mB_sA, mA_sA, mJ_sA, mP_sA, mO_sA, mN_sJ, mK_sJ, mL_sJ, mF_sJ, mB_sJ, mA_sJ, mJ_sJ, mP_sJ, mO_sJ, mN_sP, mK_sP, mL_sP, mF_sP, mB_sP, mA_sP, mJ_sP, mP_sP, mO_sP, mN_sO, mK_sO, mL_sO, mF_sO, mB_sO, mA_sO, mJ_sO, mP_sO, mO_sO, up2, if_true, if_false, eq_self, ite_true, ite_false, reduceIte, Nat.add_left_cancel_iff, Nat.add_eq_left, Nat.left_eq_add, Nat.reduceEqDiff]; assumption) | (simp only [mN_sF, mK_sF, mL_sF, mF_sF, mB_sF, mA_sF, mJ_sF, mP_sF, mO_sF, mN_sB, mK_sB, mL_sB, mF_sB, mB_sB, mA_sB, mJ_sB, mP_sB, mO_sB, mN_sA, mK_sA, mL_sA, mF_sA, mB_sA, mA_sA, mJ_sA, mP_sA, mO_sA, mN_sJ, mK_sJ, mL_sJ, mF_sJ, mB_sJ, mA_sJ, mJ_sJ, mP_sJ, mO_sJ, mN_sP, mK_sP, mL_sP, mF_sP, mB_sP, mA_sP, mJ_sP, mP_sP, mO_sP, mN_sO, mK_sO, mL_sO, mF_sO, mB_sO, mA_sO, mJ_sO, mP_sO, mO_sO, up2, if_true, if_false, eq_self, ite_true, ite_false, reduceIte, Nat.add_left_cancel_iff, Nat.add_eq_left, Nat.left_eq_add, Nat.reduceEqDiff]; done)) ?_ | refine e_iald 222 rfl dX10_costOf_221 (by assumption) (by assumption) (by first | rfl | simp only [pk_mul, nI_add]) (by omega) (by omega) ?_
        refine e_invV0 [_, _, _, _, _] 225 rfl dX10_costOf_222 k_X10_185 mo_X10_entry rm_X10_costOf_X10_entry ⟨rfl, rfl⟩ rfl rfl (by assumption) (Nat.le_of_ble_eq_true rfl) ?_
        refine ask w.length 0 (Nat.le_refl _) (by omega) (fun n0 => ?_) (fun i0 i hi => ?_)
        rotate_left
        · first | refine e_if_geN 274 228 (by decide) rfl dX10_costOf_225 rfl (by omega) ?_ | refine e_if_ge 274 228 (by decide) rfl dX10_costOf_225 (fun h => ?_) (fun h => ?_)
          exact y5 (Or.inl (by rw [tw] at i0; exact i0))
        rw [tw] at n0
        refine e_if_ge 274 228 (by decide) rfl dX10_costOf_225 (fun y2 => ?_) (fun y2 => ?_)
        · exact absurd y2 (by decide)
        refine e_al0 229 rfl dX10_costOf_228 ?_
        refine e_il1 230 rfl dX10_costOf_229 ?_
        refine e_iconst (nI 2) 231 rfl dX10_costOf_230 ic_2 ?_
        refine e_al0 232 rfl dX10_costOf_231 ?_
        refine e_getR 235 rfl dX10_costOf_232 f_X10_72 (by assumption) (by assumption) ?_
        refine e_bipush (nI 21) 237 rfl dX10_costOf_235 bc_21 ?_
        refine e_il2 238 rfl dX10_costOf_237 ?_
        first | refine e_imulN 239 rfl dX10_costOf_238 rfl rfl ?_ | refine e_imul 239 rfl dX10_costOf_238 ?_
        refine e_al0 240 rfl dX10_costOf_239 ?_
        refine e_getR 243 rfl dX10_costOf_240 f_X10_75 (by assumption) (by assumption) ?_
        refine e_il2 244 rfl dX10_costOf_243 ?_
        first | refine e_ialdv 245 rfl dX10_costOf_244 (by assumption) (by assumption) (by first | rfl | simp only [pk_mul, nI_add]) (by omega) (by omega) (by first | assumption | (simp only [mN_sF, mK_sF, mL_sF, mF_sF, mB_sF, mA_sF, mJ_sF, mP_sF, mO_sF, mN_sB, mK_sB, mL_sB, mF_sB, mB_sB, mA_sB, mJ_sB, mP_sB, mO_sB, mN_sA, mK_sA, mL_sA, mF_sA, mB_sA, mA_sA, mJ_sA, mP_sA, mO_sA, mN_sJ, mK_sJ, mL_sJ, mF_sJ, mB_sJ, mA_sJ, mJ_sJ, mP_sJ, mO_sJ, mN_sP, mK_sP, mL_sP, mF_sP, mB_sP, mA_sP, mJ_sP, mP_sP, mO_sP, mN_sO, mK_sO, mL_sO, mF_sO, mB_sO, mA_sO, mJ_sO, mP_sO, mO_sO, up2, if_true, if_false, eq_self, ite_true, ite_false, reduceIte, Nat.add_left_cancel_iff, Nat.add_eq_left, Nat.left_eq_add, Nat.reduceEqDiff]; assumption) | (simp only [mN_sF, mK_sF, mL_sF, mF_sF, mB_sF, mA_sF, mJ_sF, mP_sF, mO_sF, mN_sB, mK_sB, mL_sB, mF_sB, mB_sB, mA_sB, mJ_sB, mP_sB, mO_sB, mN_sA, mK_sA, mL_sA, mF_sA, mB_sA, mA_sA, mJ_sA, mP_sA, mO_sA, mN_sJ, mK_sJ, mL_sJ, mF_sJ, mB_sJ, mA_sJ, mJ_sJ, mP_sJ, mO_sJ, mN_sP, mK_sP, mL_sP, mF_sP, mB_sP, mA_sP, mJ_sP, mP_sP, mO_sP, mN_sO, mK_sO, mL_sO, mF_sO, mB_sO, mA_sO, mJ_sO, mP_sO, mO_sO, up2, if_true, if_false, eq_self, ite_true, ite_false, reduceIte, Nat.add_left_cancel_iff, Nat.add_eq_left, Nat.left_eq_add, Nat.reduceEqDiff]; done)) ?_ | refine e_iald 245 rfl dX10_costOf_244 (by assumption) (by assumption) (by first | rfl | simp only [pk_mul, nI_add]) (by omega) (by omega) ?_
        refine e_invV0 [_, _, _, _, _] 248 rfl dX10_costOf_245 k_X10_185 mo_X10_entry rm_X10_costOf_X10_entry ⟨rfl, rfl⟩ rfl rfl (by assumption) (Nat.le_of_ble_eq_true rfl) ?_
        refine ask w.length 2 (Nat.le_refl _) (by omega) (fun n2 => ?_) (fun i2 i hi => ?_)
        rotate_left
        · first | refine e_if_geN 274 251 (by decide) rfl dX10_costOf_248 rfl (by omega) ?_ | refine e_if_ge 274 251 (by decide) rfl dX10_costOf_248 (fun h => ?_) (fun h => ?_)
          exact y5 (Or.inr (Or.inl (by rw [tw] at i2; exact i2)))
        rw [tw] at n2
        refine e_if_ge 274 251 (by decide) rfl dX10_costOf_248 (fun y2 => ?_) (fun y2 => ?_)
        · exact absurd y2 (by decide)
        refine e_al0 252 rfl dX10_costOf_251 ?_
        refine e_il1 253 rfl dX10_costOf_252 ?_
        refine e_iconst (nI 3) 254 rfl dX10_costOf_253 ic_3 ?_
        refine e_al0 255 rfl dX10_costOf_254 ?_
        refine e_getR 258 rfl dX10_costOf_255 f_X10_72 (by assumption) (by assumption) ?_
        refine e_bipush (nI 21) 260 rfl dX10_costOf_258 bc_21 ?_
        refine e_il2 261 rfl dX10_costOf_260 ?_
        first | refine e_imulN 262 rfl dX10_costOf_261 rfl rfl ?_ | refine e_imul 262 rfl dX10_costOf_261 ?_
        refine e_al0 263 rfl dX10_costOf_262 ?_
        refine e_getR 266 rfl dX10_costOf_263 f_X10_75 (by assumption) (by assumption) ?_
        refine e_il2 267 rfl dX10_costOf_266 ?_
        first | refine e_ialdv 268 rfl dX10_costOf_267 (by assumption) (by assumption) (by first | rfl | simp only [pk_mul, nI_add]) (by omega) (by omega) (by first | assumption | (simp only [mN_sF, mK_sF, mL_sF, mF_sF, mB_sF, mA_sF, mJ_sF, mP_sF, mO_sF, mN_sB, mK_sB, mL_sB, mF_sB, mB_sB, mA_sB, mJ_sB, mP_sB, mO_sB, mN_sA, mK_sA, mL_sA, mF_sA, mB_sA, mA_sA, mJ_sA, mP_sA, mO_sA, mN_sJ, mK_sJ, mL_sJ, mF_sJ, mB_sJ, mA_sJ, mJ_sJ, mP_sJ, mO_sJ, mN_sP, mK_sP, mL_sP, mF_sP, mB_sP, mA_sP, mJ_sP, mP_sP, mO_sP, mN_sO, mK_sO, mL_sO, mF_sO, mB_sO, mA_sO, mJ_sO, mP_sO, mO_sO, up2, if_true, if_false, eq_self, ite_true, ite_false, reduceIte, Nat.add_left_cancel_iff, Nat.add_eq_left, Nat.left_eq_add, Nat.reduceEqDiff]; assumption) | (simp only [mN_sF, mK_sF, mL_sF, mF_sF, mB_sF, mA_sF, mJ_sF, mP_sF, mO_sF, mN_sB, mK_sB, mL_sB, mF_sB, mB_sB, mA_sB, mJ_sB, mP_sB, mO_sB, mN_sA, mK_sA, mL_sA, mF_sA, mB_sA, mA_sA, mJ_sA, mP_sA, mO_sA, mN_sJ, mK_sJ, mL_sJ, mF_sJ, mB_sJ, mA_sJ, mJ_sJ, mP_sJ, mO_sJ, mN_sP, mK_sP, mL_sP, mF_sP, mB_sP, mA_sP, mJ_sP, mP_sP, mO_sP, mN_sO, mK_sO, mL_sO, mF_sO, mB_sO, mA_sO, mJ_sO, mP_sO, mO_sO, up2, if_true, if_false, eq_self, ite_true, ite_false, reduceIte, Nat.add_left_cancel_iff, Nat.add_eq_left, Nat.left_eq_add, Nat.reduceEqDiff]; done)) ?_ | refine e_iald 268 rfl dX10_costOf_267 (by assumption) (by assumption) (by first | rfl | simp only [pk_mul, nI_add]) (by omega) (by omega) ?_
        refine e_invV0 [_, _, _, _, _] 271 rfl dX10_costOf_268 k_X10_185 mo_X10_entry rm_X10_costOf_X10_entry ⟨rfl, rfl⟩ rfl rfl (by assumption) (Nat.le_of_ble_eq_true rfl) ?_
        refine ask w.length 3 (Nat.le_refl _) (by omega) (fun n3 => ?_) (fun i3 i hi => ?_)
        rotate_left
        · first | refine e_if_ltN 278 274 (by decide) rfl dX10_costOf_271 rfl (by omega) ?_ | refine e_if_lt 278 274 (by decide) rfl dX10_costOf_271 (fun h => ?_) (fun h => ?_)
          exact y5 (Or.inr (Or.inr (by rw [tw] at i3; exact i3)))
        rw [tw] at n3
        rw [if_neg (by rintro (z | z | z); exact n0 z; exact n2 z; exact n3 z)] at k
        refine e_if_lt 278 274 (by decide) rfl dX10_costOf_271 (fun y2 => ?_) (fun y2 => ?_)
        rotate_left
        · exact absurd (by decide) y2
        refine e_iconst (nI 0) 279 rfl dX10_costOf_278 ic_0 ?_
        refine e_is5 281 rfl dX10_costOf_279 (by decide) rfl ?_
        refine e_il5 283 rfl dX10_costOf_281 ?_
        first | refine e_if_eqB 290 286 (by decide) rfl dX10_costOf_283 rfl (fun y3 => ?_) (fun y3 => ?_) | refine e_if_eqN 290 286 (by decide) rfl dX10_costOf_283 rfl (by omega) (fun y3 => ?_) (fun y3 => ?_) | refine e_if_eq 290 286 (by decide) rfl dX10_costOf_283 (fun y3 => ?_) (fun y3 => ?_)
        rotate_left
        · exact absurd y3 (by decide)
        refine e_iconst (nI 2) 291 rfl dX10_costOf_290 ic_2 ?_
        refine e_iret dX10_costOf_291 rfl ?_
        exact k
    rcases hcase with e | e | e | e | e | e | e
    · subst e
      refine e_is4 37 rfl dX10_costOf_35 (by decide) rfl ?_
      refine e_il3 38 rfl dX10_costOf_37 ?_
      first | refine e_if_eqB 51 41 (by decide) rfl dX10_costOf_38 rfl (fun y1 => ?_) (fun y1 => ?_) | refine e_if_eqN 51 41 (by decide) rfl dX10_costOf_38 rfl (by omega) (fun y1 => ?_) (fun y1 => ?_) | refine e_if_eq 51 41 (by decide) rfl dX10_costOf_38 (fun y1 => ?_) (fun y1 => ?_)
      · exact tpq (by omega)
      · omega
    · subst e
      refine e_is4 37 rfl dX10_costOf_35 (by decide) rfl ?_
      refine e_il3 38 rfl dX10_costOf_37 ?_
      first | refine e_if_eqB 51 41 (by decide) rfl dX10_costOf_38 rfl (fun y1 => ?_) (fun y1 => ?_) | refine e_if_eqN 51 41 (by decide) rfl dX10_costOf_38 rfl (by omega) (fun y1 => ?_) (fun y1 => ?_) | refine e_if_eq 51 41 (by decide) rfl dX10_costOf_38 (fun y1 => ?_) (fun y1 => ?_)
      · omega
      refine e_il3 42 rfl dX10_costOf_41 ?_
      refine e_iconst (nI 2) 43 rfl dX10_costOf_42 ic_2 ?_
      first | refine e_cmp_eqN 51 46 (by decide) rfl dX10_costOf_43 rfl rfl (by omega) (by omega) (fun y2 => ?_) (fun y2 => ?_) | refine e_cmp_eq 51 46 (by decide) rfl dX10_costOf_43 (fun y2 => ?_) (fun y2 => ?_)
      · omega
      refine e_il3 47 rfl dX10_costOf_46 ?_
      refine e_iconst (nI 3) 48 rfl dX10_costOf_47 ic_3 ?_
      first | refine e_cmp_neN 62 51 (by decide) rfl dX10_costOf_48 rfl rfl (by omega) (by omega) (fun y3 => ?_) (fun y3 => ?_) | refine e_cmp_ne 62 51 (by decide) rfl dX10_costOf_48 (fun y3 => ?_) (fun y3 => ?_)
      rotate_left
      · omega
      refine e_il3 63 rfl dX10_costOf_62 ?_
      refine e_bipush (nI 6) 65 rfl dX10_costOf_63 bc_6 ?_
      first | refine e_cmp_neN 84 68 (by decide) rfl dX10_costOf_65 rfl rfl (by omega) (by omega) (fun y4 => ?_) (fun y4 => ?_) | refine e_cmp_ne 84 68 (by decide) rfl dX10_costOf_65 (fun y4 => ?_) (fun y4 => ?_)
      rotate_left
      · omega
      refine e_il3 85 rfl dX10_costOf_84 ?_
      refine e_iconst (nI 5) 86 rfl dX10_costOf_85 ic_5 ?_
      first | refine e_cmp_neN 198 89 (by decide) rfl dX10_costOf_86 rfl rfl (by omega) (by omega) (fun y6 => ?_) (fun y6 => ?_) | refine e_cmp_ne 198 89 (by decide) rfl dX10_costOf_86 (fun y6 => ?_) (fun y6 => ?_)
      rotate_left
      · omega
      exact gf (by omega)
    · subst e
      refine e_is4 37 rfl dX10_costOf_35 (by decide) rfl ?_
      refine e_il3 38 rfl dX10_costOf_37 ?_
      first | refine e_if_eqB 51 41 (by decide) rfl dX10_costOf_38 rfl (fun y1 => ?_) (fun y1 => ?_) | refine e_if_eqN 51 41 (by decide) rfl dX10_costOf_38 rfl (by omega) (fun y1 => ?_) (fun y1 => ?_) | refine e_if_eq 51 41 (by decide) rfl dX10_costOf_38 (fun y1 => ?_) (fun y1 => ?_)
      · omega
      refine e_il3 42 rfl dX10_costOf_41 ?_
      refine e_iconst (nI 2) 43 rfl dX10_costOf_42 ic_2 ?_
      first | refine e_cmp_eqN 51 46 (by decide) rfl dX10_costOf_43 rfl rfl (by omega) (by omega) (fun y2 => ?_) (fun y2 => ?_) | refine e_cmp_eq 51 46 (by decide) rfl dX10_costOf_43 (fun y2 => ?_) (fun y2 => ?_)
      · exact tpq (by omega)
      · omega
    · subst e
      refine e_is4 37 rfl dX10_costOf_35 (by decide) rfl ?_
      refine e_il3 38 rfl dX10_costOf_37 ?_
      first | refine e_if_eqB 51 41 (by decide) rfl dX10_costOf_38 rfl (fun y1 => ?_) (fun y1 => ?_) | refine e_if_eqN 51 41 (by decide) rfl dX10_costOf_38 rfl (by omega) (fun y1 => ?_) (fun y1 => ?_) | refine e_if_eq 51 41 (by decide) rfl dX10_costOf_38 (fun y1 => ?_) (fun y1 => ?_)
      · omega
      refine e_il3 42 rfl dX10_costOf_41 ?_
      refine e_iconst (nI 2) 43 rfl dX10_costOf_42 ic_2 ?_
      first | refine e_cmp_eqN 51 46 (by decide) rfl dX10_costOf_43 rfl rfl (by omega) (by omega) (fun y2 => ?_) (fun y2 => ?_) | refine e_cmp_eq 51 46 (by decide) rfl dX10_costOf_43 (fun y2 => ?_) (fun y2 => ?_)
      · omega
      refine e_il3 47 rfl dX10_costOf_46 ?_
      refine e_iconst (nI 3) 48 rfl dX10_costOf_47 ic_3 ?_
      first | refine e_cmp_neN 62 51 (by decide) rfl dX10_costOf_48 rfl rfl (by omega) (by omega) (fun y3 => ?_) (fun y3 => ?_) | refine e_cmp_ne 62 51 (by decide) rfl dX10_costOf_48 (fun y3 => ?_) (fun y3 => ?_)
      · omega
      · exact tpq (by omega)
    · subst e
      refine e_is4 37 rfl dX10_costOf_35 (by decide) rfl ?_
      refine e_il3 38 rfl dX10_costOf_37 ?_
      first | refine e_if_eqB 51 41 (by decide) rfl dX10_costOf_38 rfl (fun y1 => ?_) (fun y1 => ?_) | refine e_if_eqN 51 41 (by decide) rfl dX10_costOf_38 rfl (by omega) (fun y1 => ?_) (fun y1 => ?_) | refine e_if_eq 51 41 (by decide) rfl dX10_costOf_38 (fun y1 => ?_) (fun y1 => ?_)
      · omega
      refine e_il3 42 rfl dX10_costOf_41 ?_
      refine e_iconst (nI 2) 43 rfl dX10_costOf_42 ic_2 ?_
      first | refine e_cmp_eqN 51 46 (by decide) rfl dX10_costOf_43 rfl rfl (by omega) (by omega) (fun y2 => ?_) (fun y2 => ?_) | refine e_cmp_eq 51 46 (by decide) rfl dX10_costOf_43 (fun y2 => ?_) (fun y2 => ?_)
      · omega
      refine e_il3 47 rfl dX10_costOf_46 ?_
      refine e_iconst (nI 3) 48 rfl dX10_costOf_47 ic_3 ?_
      first | refine e_cmp_neN 62 51 (by decide) rfl dX10_costOf_48 rfl rfl (by omega) (by omega) (fun y3 => ?_) (fun y3 => ?_) | refine e_cmp_ne 62 51 (by decide) rfl dX10_costOf_48 (fun y3 => ?_) (fun y3 => ?_)
      rotate_left
      · omega
      refine e_il3 63 rfl dX10_costOf_62 ?_
      refine e_bipush (nI 6) 65 rfl dX10_costOf_63 bc_6 ?_
      first | refine e_cmp_neN 84 68 (by decide) rfl dX10_costOf_65 rfl rfl (by omega) (by omega) (fun y4 => ?_) (fun y4 => ?_) | refine e_cmp_ne 84 68 (by decide) rfl dX10_costOf_65 (fun y4 => ?_) (fun y4 => ?_)
      rotate_left
      · omega
      refine e_il3 85 rfl dX10_costOf_84 ?_
      refine e_iconst (nI 5) 86 rfl dX10_costOf_85 ic_5 ?_
      first | refine e_cmp_neN 198 89 (by decide) rfl dX10_costOf_86 rfl rfl (by omega) (by omega) (fun y6 => ?_) (fun y6 => ?_) | refine e_cmp_ne 198 89 (by decide) rfl dX10_costOf_86 (fun y6 => ?_) (fun y6 => ?_)
      rotate_left
      · omega
      exact gf (by omega)
    · subst e
      unfold cst at k
      rw [if_neg (by omega), if_neg (by omega), if_pos rfl] at k
      refine e_is4 37 rfl dX10_costOf_35 (by decide) rfl ?_
      refine e_il3 38 rfl dX10_costOf_37 ?_
      first | refine e_if_eqB 51 41 (by decide) rfl dX10_costOf_38 rfl (fun y1 => ?_) (fun y1 => ?_) | refine e_if_eqN 51 41 (by decide) rfl dX10_costOf_38 rfl (by omega) (fun y1 => ?_) (fun y1 => ?_) | refine e_if_eq 51 41 (by decide) rfl dX10_costOf_38 (fun y1 => ?_) (fun y1 => ?_)
      · omega
      refine e_il3 42 rfl dX10_costOf_41 ?_
      refine e_iconst (nI 2) 43 rfl dX10_costOf_42 ic_2 ?_
      first | refine e_cmp_eqN 51 46 (by decide) rfl dX10_costOf_43 rfl rfl (by omega) (by omega) (fun y2 => ?_) (fun y2 => ?_) | refine e_cmp_eq 51 46 (by decide) rfl dX10_costOf_43 (fun y2 => ?_) (fun y2 => ?_)
      · omega
      refine e_il3 47 rfl dX10_costOf_46 ?_
      refine e_iconst (nI 3) 48 rfl dX10_costOf_47 ic_3 ?_
      first | refine e_cmp_neN 62 51 (by decide) rfl dX10_costOf_48 rfl rfl (by omega) (by omega) (fun y3 => ?_) (fun y3 => ?_) | refine e_cmp_ne 62 51 (by decide) rfl dX10_costOf_48 (fun y3 => ?_) (fun y3 => ?_)
      rotate_left
      · omega
      refine e_il3 63 rfl dX10_costOf_62 ?_
      refine e_bipush (nI 6) 65 rfl dX10_costOf_63 bc_6 ?_
      first | refine e_cmp_neN 84 68 (by decide) rfl dX10_costOf_65 rfl rfl (by omega) (by omega) (fun y4 => ?_) (fun y4 => ?_) | refine e_cmp_ne 84 68 (by decide) rfl dX10_costOf_65 (fun y4 => ?_) (fun y4 => ?_)
      rotate_left
      · omega
      refine e_il3 85 rfl dX10_costOf_84 ?_
      refine e_iconst (nI 5) 86 rfl dX10_costOf_85 ic_5 ?_
      first | refine e_cmp_neN 198 89 (by decide) rfl dX10_costOf_86 rfl rfl (by omega) (by omega) (fun y6 => ?_) (fun y6 => ?_) | refine e_cmp_ne 198 89 (by decide) rfl dX10_costOf_86 (fun y6 => ?_) (fun y6 => ?_)
      · omega
      have nomade : ¬ (madeL en w = true) → K (some (.int (-1))) μ := fun hn => by rw [if_neg hn] at k; exact k
      by_cases hle : en.length ≤ w.length
      rotate_left
      · have hz := ofInt_sg (z := (w.length : Int) - en.length) (by omega) (by omega)
        refine e_al0 90 rfl dX10_costOf_89 ?_
        refine e_getR 93 rfl dX10_costOf_90 f_X10_75 (by assumption) (by assumption) ?_
        refine e_il2 94 rfl dX10_costOf_93 ?_
        first | refine e_ialdv 95 rfl dX10_costOf_94 (by assumption) (by assumption) (by first | rfl | simp only [pk_mul, nI_add]) (by omega) (by omega) (by first | assumption | (simp only [mN_sF, mK_sF, mL_sF, mF_sF, mB_sF, mA_sF, mJ_sF, mP_sF, mO_sF, mN_sB, mK_sB, mL_sB, mF_sB, mB_sB, mA_sB, mJ_sB, mP_sB, mO_sB, mN_sA, mK_sA, mL_sA, mF_sA, mB_sA, mA_sA, mJ_sA, mP_sA, mO_sA, mN_sJ, mK_sJ, mL_sJ, mF_sJ, mB_sJ, mA_sJ, mJ_sJ, mP_sJ, mO_sJ, mN_sP, mK_sP, mL_sP, mF_sP, mB_sP, mA_sP, mJ_sP, mP_sP, mO_sP, mN_sO, mK_sO, mL_sO, mF_sO, mB_sO, mA_sO, mJ_sO, mP_sO, mO_sO, up2, if_true, if_false, eq_self, ite_true, ite_false, reduceIte, Nat.add_left_cancel_iff, Nat.add_eq_left, Nat.left_eq_add, Nat.reduceEqDiff]; assumption) | (simp only [mN_sF, mK_sF, mL_sF, mF_sF, mB_sF, mA_sF, mJ_sF, mP_sF, mO_sF, mN_sB, mK_sB, mL_sB, mF_sB, mB_sB, mA_sB, mJ_sB, mP_sB, mO_sB, mN_sA, mK_sA, mL_sA, mF_sA, mB_sA, mA_sA, mJ_sA, mP_sA, mO_sA, mN_sJ, mK_sJ, mL_sJ, mF_sJ, mB_sJ, mA_sJ, mJ_sJ, mP_sJ, mO_sJ, mN_sP, mK_sP, mL_sP, mF_sP, mB_sP, mA_sP, mJ_sP, mP_sP, mO_sP, mN_sO, mK_sO, mL_sO, mF_sO, mB_sO, mA_sO, mJ_sO, mP_sO, mO_sO, up2, if_true, if_false, eq_self, ite_true, ite_false, reduceIte, Nat.add_left_cancel_iff, Nat.add_eq_left, Nat.left_eq_add, Nat.reduceEqDiff]; done)) ?_ | refine e_iald 95 rfl dX10_costOf_94 (by assumption) (by assumption) (by first | rfl | simp only [pk_mul, nI_add]) (by omega) (by omega) ?_
        refine e_al0 96 rfl dX10_costOf_95 ?_
        refine e_getR 99 rfl dX10_costOf_96 f_X10_50 (by assumption) (by assumption) ?_
        refine e_il1 100 rfl dX10_costOf_99 ?_
        first | refine e_ialdv 101 rfl dX10_costOf_100 (by assumption) (by assumption) (by first | rfl | simp only [pk_mul, nI_add]) (by omega) (by omega) (by first | assumption | (simp only [mN_sF, mK_sF, mL_sF, mF_sF, mB_sF, mA_sF, mJ_sF, mP_sF, mO_sF, mN_sB, mK_sB, mL_sB, mF_sB, mB_sB, mA_sB, mJ_sB, mP_sB, mO_sB, mN_sA, mK_sA, mL_sA, mF_sA, mB_sA, mA_sA, mJ_sA, mP_sA, mO_sA, mN_sJ, mK_sJ, mL_sJ, mF_sJ, mB_sJ, mA_sJ, mJ_sJ, mP_sJ, mO_sJ, mN_sP, mK_sP, mL_sP, mF_sP, mB_sP, mA_sP, mJ_sP, mP_sP, mO_sP, mN_sO, mK_sO, mL_sO, mF_sO, mB_sO, mA_sO, mJ_sO, mP_sO, mO_sO, up2, if_true, if_false, eq_self, ite_true, ite_false, reduceIte, Nat.add_left_cancel_iff, Nat.add_eq_left, Nat.left_eq_add, Nat.reduceEqDiff]; assumption) | (simp only [mN_sF, mK_sF, mL_sF, mF_sF, mB_sF, mA_sF, mJ_sF, mP_sF, mO_sF, mN_sB, mK_sB, mL_sB, mF_sB, mB_sB, mA_sB, mJ_sB, mP_sB, mO_sB, mN_sA, mK_sA, mL_sA, mF_sA, mB_sA, mA_sA, mJ_sA, mP_sA, mO_sA, mN_sJ, mK_sJ, mL_sJ, mF_sJ, mB_sJ, mA_sJ, mJ_sJ, mP_sJ, mO_sJ, mN_sP, mK_sP, mL_sP, mF_sP, mB_sP, mA_sP, mJ_sP, mP_sP, mO_sP, mN_sO, mK_sO, mL_sO, mF_sO, mB_sO, mA_sO, mJ_sO, mP_sO, mO_sO, up2, if_true, if_false, eq_self, ite_true, ite_false, reduceIte, Nat.add_left_cancel_iff, Nat.add_eq_left, Nat.left_eq_add, Nat.reduceEqDiff]; done)) ?_ | refine e_iald 101 rfl dX10_costOf_100 (by assumption) (by assumption) (by first | rfl | simp only [pk_mul, nI_add]) (by omega) (by omega) ?_
        refine e_isub 102 rfl dX10_costOf_101 ?_
        rw [nI_subI]
        refine e_is5 104 rfl dX10_costOf_102 (by decide) rfl ?_
        refine e_al0 105 rfl dX10_costOf_104 ?_
        refine e_getR 108 rfl dX10_costOf_105 f_X10_50 (by assumption) (by assumption) ?_
        refine e_il1 109 rfl dX10_costOf_108 ?_
        first | refine e_ialdv 110 rfl dX10_costOf_109 (by assumption) (by assumption) (by first | rfl | simp only [pk_mul, nI_add]) (by omega) (by omega) (by first | assumption | (simp only [mN_sF, mK_sF, mL_sF, mF_sF, mB_sF, mA_sF, mJ_sF, mP_sF, mO_sF, mN_sB, mK_sB, mL_sB, mF_sB, mB_sB, mA_sB, mJ_sB, mP_sB, mO_sB, mN_sA, mK_sA, mL_sA, mF_sA, mB_sA, mA_sA, mJ_sA, mP_sA, mO_sA, mN_sJ, mK_sJ, mL_sJ, mF_sJ, mB_sJ, mA_sJ, mJ_sJ, mP_sJ, mO_sJ, mN_sP, mK_sP, mL_sP, mF_sP, mB_sP, mA_sP, mJ_sP, mP_sP, mO_sP, mN_sO, mK_sO, mL_sO, mF_sO, mB_sO, mA_sO, mJ_sO, mP_sO, mO_sO, up2, if_true, if_false, eq_self, ite_true, ite_false, reduceIte, Nat.add_left_cancel_iff, Nat.add_eq_left, Nat.left_eq_add, Nat.reduceEqDiff]; assumption) | (simp only [mN_sF, mK_sF, mL_sF, mF_sF, mB_sF, mA_sF, mJ_sF, mP_sF, mO_sF, mN_sB, mK_sB, mL_sB, mF_sB, mB_sB, mA_sB, mJ_sB, mP_sB, mO_sB, mN_sA, mK_sA, mL_sA, mF_sA, mB_sA, mA_sA, mJ_sA, mP_sA, mO_sA, mN_sJ, mK_sJ, mL_sJ, mF_sJ, mB_sJ, mA_sJ, mJ_sJ, mP_sJ, mO_sJ, mN_sP, mK_sP, mL_sP, mF_sP, mB_sP, mA_sP, mJ_sP, mP_sP, mO_sP, mN_sO, mK_sO, mL_sO, mF_sO, mB_sO, mA_sO, mJ_sO, mP_sO, mO_sO, up2, if_true, if_false, eq_self, ite_true, ite_false, reduceIte, Nat.add_left_cancel_iff, Nat.add_eq_left, Nat.left_eq_add, Nat.reduceEqDiff]; done)) ?_ | refine e_iald 110 rfl dX10_costOf_109 (by assumption) (by assumption) (by first | rfl | simp only [pk_mul, nI_add]) (by omega) (by omega) ?_
        first | refine e_if_eqB 119 113 (by decide) rfl dX10_costOf_110 rfl (fun y7 => ?_) (fun y7 => ?_) | refine e_if_eqN 119 113 (by decide) rfl dX10_costOf_110 rfl (by omega) (fun y7 => ?_) (fun y7 => ?_) | refine e_if_eq 119 113 (by decide) rfl dX10_costOf_110 (fun y7 => ?_) (fun y7 => ?_)
        · omega
        refine e_il5 115 rfl dX10_costOf_113 ?_
        refine e_iconst (nI 1) 116 rfl dX10_costOf_115 ic_1 ?_
        refine e_cmp_ge 121 119 (by decide) rfl dX10_costOf_116 (fun y8 => ?_) (fun y8 => ?_)
        · have h0 : 0 ≤ Int32.ofInt ((w.length : Int) - en.length) := Int32.le_trans (by decide) y8
          have := hz.2.mp h0
          omega
        · refine e_iconst (-1) 120 rfl dX10_costOf_119 ic_m1 ?_
          refine e_iret dX10_costOf_120 rfl ?_
          exact nomade (by unfold madeL; simp; omega)
      refine e_al0 90 rfl dX10_costOf_89 ?_
      refine e_getR 93 rfl dX10_costOf_90 f_X10_75 (by assumption) (by assumption) ?_
      refine e_il2 94 rfl dX10_costOf_93 ?_
      first | refine e_ialdv 95 rfl dX10_costOf_94 (by assumption) (by assumption) (by first | rfl | simp only [pk_mul, nI_add]) (by omega) (by omega) (by first | assumption | (simp only [mN_sF, mK_sF, mL_sF, mF_sF, mB_sF, mA_sF, mJ_sF, mP_sF, mO_sF, mN_sB, mK_sB, mL_sB, mF_sB, mB_sB, mA_sB, mJ_sB, mP_sB, mO_sB, mN_sA, mK_sA, mL_sA, mF_sA, mB_sA, mA_sA, mJ_sA, mP_sA, mO_sA, mN_sJ, mK_sJ, mL_sJ, mF_sJ, mB_sJ, mA_sJ, mJ_sJ, mP_sJ, mO_sJ, mN_sP, mK_sP, mL_sP, mF_sP, mB_sP, mA_sP, mJ_sP, mP_sP, mO_sP, mN_sO, mK_sO, mL_sO, mF_sO, mB_sO, mA_sO, mJ_sO, mP_sO, mO_sO, up2, if_true, if_false, eq_self, ite_true, ite_false, reduceIte, Nat.add_left_cancel_iff, Nat.add_eq_left, Nat.left_eq_add, Nat.reduceEqDiff]; assumption) | (simp only [mN_sF, mK_sF, mL_sF, mF_sF, mB_sF, mA_sF, mJ_sF, mP_sF, mO_sF, mN_sB, mK_sB, mL_sB, mF_sB, mB_sB, mA_sB, mJ_sB, mP_sB, mO_sB, mN_sA, mK_sA, mL_sA, mF_sA, mB_sA, mA_sA, mJ_sA, mP_sA, mO_sA, mN_sJ, mK_sJ, mL_sJ, mF_sJ, mB_sJ, mA_sJ, mJ_sJ, mP_sJ, mO_sJ, mN_sP, mK_sP, mL_sP, mF_sP, mB_sP, mA_sP, mJ_sP, mP_sP, mO_sP, mN_sO, mK_sO, mL_sO, mF_sO, mB_sO, mA_sO, mJ_sO, mP_sO, mO_sO, up2, if_true, if_false, eq_self, ite_true, ite_false, reduceIte, Nat.add_left_cancel_iff, Nat.add_eq_left, Nat.left_eq_add, Nat.reduceEqDiff]; done)) ?_ | refine e_iald 95 rfl dX10_costOf_94 (by assumption) (by assumption) (by first | rfl | simp only [pk_mul, nI_add]) (by omega) (by omega) ?_
      refine e_al0 96 rfl dX10_costOf_95 ?_
      refine e_getR 99 rfl dX10_costOf_96 f_X10_50 (by assumption) (by assumption) ?_
      refine e_il1 100 rfl dX10_costOf_99 ?_
      first | refine e_ialdv 101 rfl dX10_costOf_100 (by assumption) (by assumption) (by first | rfl | simp only [pk_mul, nI_add]) (by omega) (by omega) (by first | assumption | (simp only [mN_sF, mK_sF, mL_sF, mF_sF, mB_sF, mA_sF, mJ_sF, mP_sF, mO_sF, mN_sB, mK_sB, mL_sB, mF_sB, mB_sB, mA_sB, mJ_sB, mP_sB, mO_sB, mN_sA, mK_sA, mL_sA, mF_sA, mB_sA, mA_sA, mJ_sA, mP_sA, mO_sA, mN_sJ, mK_sJ, mL_sJ, mF_sJ, mB_sJ, mA_sJ, mJ_sJ, mP_sJ, mO_sJ, mN_sP, mK_sP, mL_sP, mF_sP, mB_sP, mA_sP, mJ_sP, mP_sP, mO_sP, mN_sO, mK_sO, mL_sO, mF_sO, mB_sO, mA_sO, mJ_sO, mP_sO, mO_sO, up2, if_true, if_false, eq_self, ite_true, ite_false, reduceIte, Nat.add_left_cancel_iff, Nat.add_eq_left, Nat.left_eq_add, Nat.reduceEqDiff]; assumption) | (simp only [mN_sF, mK_sF, mL_sF, mF_sF, mB_sF, mA_sF, mJ_sF, mP_sF, mO_sF, mN_sB, mK_sB, mL_sB, mF_sB, mB_sB, mA_sB, mJ_sB, mP_sB, mO_sB, mN_sA, mK_sA, mL_sA, mF_sA, mB_sA, mA_sA, mJ_sA, mP_sA, mO_sA, mN_sJ, mK_sJ, mL_sJ, mF_sJ, mB_sJ, mA_sJ, mJ_sJ, mP_sJ, mO_sJ, mN_sP, mK_sP, mL_sP, mF_sP, mB_sP, mA_sP, mJ_sP, mP_sP, mO_sP, mN_sO, mK_sO, mL_sO, mF_sO, mB_sO, mA_sO, mJ_sO, mP_sO, mO_sO, up2, if_true, if_false, eq_self, ite_true, ite_false, reduceIte, Nat.add_left_cancel_iff, Nat.add_eq_left, Nat.left_eq_add, Nat.reduceEqDiff]; done)) ?_ | refine e_iald 101 rfl dX10_costOf_100 (by assumption) (by assumption) (by first | rfl | simp only [pk_mul, nI_add]) (by omega) (by omega) ?_
      first | refine e_isubN 102 rfl dX10_costOf_101 rfl rfl (by omega) ?_ | refine e_isub 102 rfl dX10_costOf_101 ?_
      refine e_is5 104 rfl dX10_costOf_102 (by decide) rfl ?_
      refine e_al0 105 rfl dX10_costOf_104 ?_
      refine e_getR 108 rfl dX10_costOf_105 f_X10_50 (by assumption) (by assumption) ?_
      refine e_il1 109 rfl dX10_costOf_108 ?_
      first | refine e_ialdv 110 rfl dX10_costOf_109 (by assumption) (by assumption) (by first | rfl | simp only [pk_mul, nI_add]) (by omega) (by omega) (by first | assumption | (simp only [mN_sF, mK_sF, mL_sF, mF_sF, mB_sF, mA_sF, mJ_sF, mP_sF, mO_sF, mN_sB, mK_sB, mL_sB, mF_sB, mB_sB, mA_sB, mJ_sB, mP_sB, mO_sB, mN_sA, mK_sA, mL_sA, mF_sA, mB_sA, mA_sA, mJ_sA, mP_sA, mO_sA, mN_sJ, mK_sJ, mL_sJ, mF_sJ, mB_sJ, mA_sJ, mJ_sJ, mP_sJ, mO_sJ, mN_sP, mK_sP, mL_sP, mF_sP, mB_sP, mA_sP, mJ_sP, mP_sP, mO_sP, mN_sO, mK_sO, mL_sO, mF_sO, mB_sO, mA_sO, mJ_sO, mP_sO, mO_sO, up2, if_true, if_false, eq_self, ite_true, ite_false, reduceIte, Nat.add_left_cancel_iff, Nat.add_eq_left, Nat.left_eq_add, Nat.reduceEqDiff]; assumption) | (simp only [mN_sF, mK_sF, mL_sF, mF_sF, mB_sF, mA_sF, mJ_sF, mP_sF, mO_sF, mN_sB, mK_sB, mL_sB, mF_sB, mB_sB, mA_sB, mJ_sB, mP_sB, mO_sB, mN_sA, mK_sA, mL_sA, mF_sA, mB_sA, mA_sA, mJ_sA, mP_sA, mO_sA, mN_sJ, mK_sJ, mL_sJ, mF_sJ, mB_sJ, mA_sJ, mJ_sJ, mP_sJ, mO_sJ, mN_sP, mK_sP, mL_sP, mF_sP, mB_sP, mA_sP, mJ_sP, mP_sP, mO_sP, mN_sO, mK_sO, mL_sO, mF_sO, mB_sO, mA_sO, mJ_sO, mP_sO, mO_sO, up2, if_true, if_false, eq_self, ite_true, ite_false, reduceIte, Nat.add_left_cancel_iff, Nat.add_eq_left, Nat.left_eq_add, Nat.reduceEqDiff]; done)) ?_ | refine e_iald 110 rfl dX10_costOf_109 (by assumption) (by assumption) (by first | rfl | simp only [pk_mul, nI_add]) (by omega) (by omega) ?_
      first | refine e_if_eqB 119 113 (by decide) rfl dX10_costOf_110 rfl (fun y7 => ?_) (fun y7 => ?_) | refine e_if_eqN 119 113 (by decide) rfl dX10_costOf_110 rfl (by omega) (fun y7 => ?_) (fun y7 => ?_) | refine e_if_eq 119 113 (by decide) rfl dX10_costOf_110 (fun y7 => ?_) (fun y7 => ?_)
      · refine e_iconst (-1) 120 rfl dX10_costOf_119 ic_m1 ?_
        refine e_iret dX10_costOf_120 rfl ?_
        exact nomade (by unfold madeL; simp; omega)
      refine e_il5 115 rfl dX10_costOf_113 ?_
      refine e_iconst (nI 1) 116 rfl dX10_costOf_115 ic_1 ?_
      first | refine e_cmp_geN 121 119 (by decide) rfl dX10_costOf_116 rfl rfl (by omega) (by omega) (fun y8 => ?_) (fun y8 => ?_) | refine e_cmp_ge 121 119 (by decide) rfl dX10_costOf_116 (fun y8 => ?_) (fun y8 => ?_)
      rotate_left
      · refine e_iconst (-1) 120 rfl dX10_costOf_119 ic_m1 ?_
        refine e_iret dX10_costOf_120 rfl ?_
        exact nomade (by unfold madeL; simp; omega)
      refine e_iconst (nI 0) 122 rfl dX10_costOf_121 ic_0 ?_
      refine e_is6 124 rfl dX10_costOf_122 (by decide) rfl ?_
      have hdl : (w.drop (w.length - en.length)).length = en.length := by rw [List.length_drop]; omega
      have loop : ∀ (fu j : Nat), j + fu = en.length → (w.drop (w.length - en.length)).take j = en.take j → Ev E M_X10_costOf 0 0 124 [some (.ref m), some (.int (nI l)), some (.int (nI q)), some (.int (nI 5)), some (.int (bI b)), some (.int (nI (w.length - en.length))), some (.int (nI j))] [] μ K := by
        intro fu
        induction fu with
        | zero =>
          intro j hj htk
          have hmade : madeL en w = true := by
            rw [show j = en.length by omega, List.take_of_length_le (by omega), List.take_length] at htk
            unfold madeL
            simp [htk]
            omega
          rw [if_pos hmade] at k
          refine e_il6 126 rfl dX10_costOf_124 ?_
          refine e_al0 127 rfl dX10_costOf_126 ?_
          refine e_getR 130 rfl dX10_costOf_127 f_X10_50 (by assumption) (by assumption) ?_
          refine e_il1 131 rfl dX10_costOf_130 ?_
          first | refine e_ialdv 132 rfl dX10_costOf_131 (by assumption) (by assumption) (by first | rfl | simp only [pk_mul, nI_add]) (by omega) (by omega) (by first | assumption | (simp only [mN_sF, mK_sF, mL_sF, mF_sF, mB_sF, mA_sF, mJ_sF, mP_sF, mO_sF, mN_sB, mK_sB, mL_sB, mF_sB, mB_sB, mA_sB, mJ_sB, mP_sB, mO_sB, mN_sA, mK_sA, mL_sA, mF_sA, mB_sA, mA_sA, mJ_sA, mP_sA, mO_sA, mN_sJ, mK_sJ, mL_sJ, mF_sJ, mB_sJ, mA_sJ, mJ_sJ, mP_sJ, mO_sJ, mN_sP, mK_sP, mL_sP, mF_sP, mB_sP, mA_sP, mJ_sP, mP_sP, mO_sP, mN_sO, mK_sO, mL_sO, mF_sO, mB_sO, mA_sO, mJ_sO, mP_sO, mO_sO, up2, if_true, if_false, eq_self, ite_true, ite_false, reduceIte, Nat.add_left_cancel_iff, Nat.add_eq_left, Nat.left_eq_add, Nat.reduceEqDiff]; assumption) | (simp only [mN_sF, mK_sF, mL_sF, mF_sF, mB_sF, mA_sF, mJ_sF, mP_sF, mO_sF, mN_sB, mK_sB, mL_sB, mF_sB, mB_sB, mA_sB, mJ_sB, mP_sB, mO_sB, mN_sA, mK_sA, mL_sA, mF_sA, mB_sA, mA_sA, mJ_sA, mP_sA, mO_sA, mN_sJ, mK_sJ, mL_sJ, mF_sJ, mB_sJ, mA_sJ, mJ_sJ, mP_sJ, mO_sJ, mN_sP, mK_sP, mL_sP, mF_sP, mB_sP, mA_sP, mJ_sP, mP_sP, mO_sP, mN_sO, mK_sO, mL_sO, mF_sO, mB_sO, mA_sO, mJ_sO, mP_sO, mO_sO, up2, if_true, if_false, eq_self, ite_true, ite_false, reduceIte, Nat.add_left_cancel_iff, Nat.add_eq_left, Nat.left_eq_add, Nat.reduceEqDiff]; done)) ?_ | refine e_iald 132 rfl dX10_costOf_131 (by assumption) (by assumption) (by first | rfl | simp only [pk_mul, nI_add]) (by omega) (by omega) ?_
          first | refine e_cmp_geN 173 135 (by decide) rfl dX10_costOf_132 rfl rfl (by omega) (by omega) (fun y9 => ?_) (fun y9 => ?_) | refine e_cmp_ge 173 135 (by decide) rfl dX10_costOf_132 (fun y9 => ?_) (fun y9 => ?_)
          rotate_left
          · omega
          refine e_al0 174 rfl dX10_costOf_173 ?_
          refine e_il1 175 rfl dX10_costOf_174 ?_
          refine e_iconst (nI 1) 176 rfl dX10_costOf_175 ic_1 ?_
          refine e_al0 177 rfl dX10_costOf_176 ?_
          refine e_getR 180 rfl dX10_costOf_177 f_X10_72 (by assumption) (by assumption) ?_
          refine e_bipush (nI 21) 182 rfl dX10_costOf_180 bc_21 ?_
          refine e_il2 183 rfl dX10_costOf_182 ?_
          first | refine e_imulN 184 rfl dX10_costOf_183 rfl rfl ?_ | refine e_imul 184 rfl dX10_costOf_183 ?_
          refine e_il5 186 rfl dX10_costOf_184 ?_
          refine e_invV0 [_, _, _, _, _] 189 rfl dX10_costOf_186 k_X10_185 mo_X10_entry rm_X10_costOf_X10_entry ⟨rfl, rfl⟩ rfl rfl (by assumption) (Nat.le_of_ble_eq_true rfl) ?_
          refine ask (w.length - en.length) 1 (by omega) (by omega) (fun n1 => ?_) (fun i1 i hi => ?_)
          · rw [if_neg n1] at k
            refine e_if_lt 196 192 (by decide) rfl dX10_costOf_189 (fun y2 => ?_) (fun y2 => ?_)
            rotate_left
            · exact absurd (by decide) y2
            refine e_iconst (nI 3) 197 rfl dX10_costOf_196 ic_3 ?_
            refine e_iret dX10_costOf_197 rfl ?_
            exact k
          · rw [if_pos i1] at k
            first | refine e_if_ltN 196 192 (by decide) rfl dX10_costOf_189 rfl (by omega) ?_ | refine e_if_lt 196 192 (by decide) rfl dX10_costOf_189 (fun h => ?_) (fun h => ?_)
            refine e_iconst (nI 0) 193 rfl dX10_costOf_192 ic_0 ?_
            refine e_goto 197 (by decide) dX10_costOf_193 ?_
            refine e_iret dX10_costOf_197 rfl ?_
            exact k
        | succ fu ih =>
          intro j hj htk
          have hj1 : j < en.length := by omega
          have hj2 : j < (w.drop (w.length - en.length)).length := by omega
          have hj3 : w.length - en.length + j < w.length := by omega
          have e1 : (w.drop (w.length - en.length))[j] = w[w.length - en.length + j] := List.getElem_drop ..
          have v1 : mA μ (m + 20) (21 * q + (w.length - en.length) + j) = nI w[w.length - en.length + j] := by
            rw [show 21 * q + (w.length - en.length) + j = 21 * q + (w.length - en.length + j) by omega]
            exact hH.at hj3
          have v2 : mA μ (m + 15) (6 * l + j) = nI en[j] := eH.at hj1
          have c1 := hwr _ (List.getElem_mem hj3)
          have c2 := enr _ (List.getElem_mem hj1)
          refine e_il6 126 rfl dX10_costOf_124 ?_
          refine e_al0 127 rfl dX10_costOf_126 ?_
          refine e_getR 130 rfl dX10_costOf_127 f_X10_50 (by assumption) (by assumption) ?_
          refine e_il1 131 rfl dX10_costOf_130 ?_
          first | refine e_ialdv 132 rfl dX10_costOf_131 (by assumption) (by assumption) (by first | rfl | simp only [pk_mul, nI_add]) (by omega) (by omega) (by first | assumption | (simp only [mN_sF, mK_sF, mL_sF, mF_sF, mB_sF, mA_sF, mJ_sF, mP_sF, mO_sF, mN_sB, mK_sB, mL_sB, mF_sB, mB_sB, mA_sB, mJ_sB, mP_sB, mO_sB, mN_sA, mK_sA, mL_sA, mF_sA, mB_sA, mA_sA, mJ_sA, mP_sA, mO_sA, mN_sJ, mK_sJ, mL_sJ, mF_sJ, mB_sJ, mA_sJ, mJ_sJ, mP_sJ, mO_sJ, mN_sP, mK_sP, mL_sP, mF_sP, mB_sP, mA_sP, mJ_sP, mP_sP, mO_sP, mN_sO, mK_sO, mL_sO, mF_sO, mB_sO, mA_sO, mJ_sO, mP_sO, mO_sO, up2, if_true, if_false, eq_self, ite_true, ite_false, reduceIte, Nat.add_left_cancel_iff, Nat.add_eq_left, Nat.left_eq_add, Nat.reduceEqDiff]; assumption) | (simp only [mN_sF, mK_sF, mL_sF, mF_sF, mB_sF, mA_sF, mJ_sF, mP_sF, mO_sF, mN_sB, mK_sB, mL_sB, mF_sB, mB_sB, mA_sB, mJ_sB, mP_sB, mO_sB, mN_sA, mK_sA, mL_sA, mF_sA, mB_sA, mA_sA, mJ_sA, mP_sA, mO_sA, mN_sJ, mK_sJ, mL_sJ, mF_sJ, mB_sJ, mA_sJ, mJ_sJ, mP_sJ, mO_sJ, mN_sP, mK_sP, mL_sP, mF_sP, mB_sP, mA_sP, mJ_sP, mP_sP, mO_sP, mN_sO, mK_sO, mL_sO, mF_sO, mB_sO, mA_sO, mJ_sO, mP_sO, mO_sO, up2, if_true, if_false, eq_self, ite_true, ite_false, reduceIte, Nat.add_left_cancel_iff, Nat.add_eq_left, Nat.left_eq_add, Nat.reduceEqDiff]; done)) ?_ | refine e_iald 132 rfl dX10_costOf_131 (by assumption) (by assumption) (by first | rfl | simp only [pk_mul, nI_add]) (by omega) (by omega) ?_
          first | refine e_cmp_geN 173 135 (by decide) rfl dX10_costOf_132 rfl rfl (by omega) (by omega) (fun y9 => ?_) (fun y9 => ?_) | refine e_cmp_ge 173 135 (by decide) rfl dX10_costOf_132 (fun y9 => ?_) (fun y9 => ?_)
          · omega
          refine e_al0 136 rfl dX10_costOf_135 ?_
          refine e_getR 139 rfl dX10_costOf_136 f_X10_72 (by assumption) (by assumption) ?_
          refine e_bipush (nI 21) 141 rfl dX10_costOf_139 bc_21 ?_
          refine e_il2 142 rfl dX10_costOf_141 ?_
          first | refine e_imulN 143 rfl dX10_costOf_142 rfl rfl ?_ | refine e_imul 143 rfl dX10_costOf_142 ?_
          refine e_il5 145 rfl dX10_costOf_143 ?_
          first | refine e_iaddN 146 rfl dX10_costOf_145 rfl rfl ?_ | refine e_iadd 146 rfl dX10_costOf_145 ?_
          refine e_il6 148 rfl dX10_costOf_146 ?_
          first | refine e_iaddN 149 rfl dX10_costOf_148 rfl rfl ?_ | refine e_iadd 149 rfl dX10_costOf_148 ?_
          first | refine e_ialdv 150 rfl dX10_costOf_149 (by assumption) (by assumption) (by first | rfl | simp only [pk_mul, nI_add]) (by omega) (by omega) (by first | assumption | (simp only [mN_sF, mK_sF, mL_sF, mF_sF, mB_sF, mA_sF, mJ_sF, mP_sF, mO_sF, mN_sB, mK_sB, mL_sB, mF_sB, mB_sB, mA_sB, mJ_sB, mP_sB, mO_sB, mN_sA, mK_sA, mL_sA, mF_sA, mB_sA, mA_sA, mJ_sA, mP_sA, mO_sA, mN_sJ, mK_sJ, mL_sJ, mF_sJ, mB_sJ, mA_sJ, mJ_sJ, mP_sJ, mO_sJ, mN_sP, mK_sP, mL_sP, mF_sP, mB_sP, mA_sP, mJ_sP, mP_sP, mO_sP, mN_sO, mK_sO, mL_sO, mF_sO, mB_sO, mA_sO, mJ_sO, mP_sO, mO_sO, up2, if_true, if_false, eq_self, ite_true, ite_false, reduceIte, Nat.add_left_cancel_iff, Nat.add_eq_left, Nat.left_eq_add, Nat.reduceEqDiff]; assumption) | (simp only [mN_sF, mK_sF, mL_sF, mF_sF, mB_sF, mA_sF, mJ_sF, mP_sF, mO_sF, mN_sB, mK_sB, mL_sB, mF_sB, mB_sB, mA_sB, mJ_sB, mP_sB, mO_sB, mN_sA, mK_sA, mL_sA, mF_sA, mB_sA, mA_sA, mJ_sA, mP_sA, mO_sA, mN_sJ, mK_sJ, mL_sJ, mF_sJ, mB_sJ, mA_sJ, mJ_sJ, mP_sJ, mO_sJ, mN_sP, mK_sP, mL_sP, mF_sP, mB_sP, mA_sP, mJ_sP, mP_sP, mO_sP, mN_sO, mK_sO, mL_sO, mF_sO, mB_sO, mA_sO, mJ_sO, mP_sO, mO_sO, up2, if_true, if_false, eq_self, ite_true, ite_false, reduceIte, Nat.add_left_cancel_iff, Nat.add_eq_left, Nat.left_eq_add, Nat.reduceEqDiff]; done)) ?_ | refine e_iald 150 rfl dX10_costOf_149 (by assumption) (by assumption) (by first | rfl | simp only [pk_mul, nI_add]) (by omega) (by omega) ?_
          refine e_al0 151 rfl dX10_costOf_150 ?_
          refine e_getR 154 rfl dX10_costOf_151 f_X10_53 (by assumption) (by assumption) ?_
          refine e_bipush (nI 6) 156 rfl dX10_costOf_154 bc_6 ?_
          refine e_il1 157 rfl dX10_costOf_156 ?_
          first | refine e_imulN 158 rfl dX10_costOf_157 rfl rfl ?_ | refine e_imul 158 rfl dX10_costOf_157 ?_
          refine e_il6 160 rfl dX10_costOf_158 ?_
          first | refine e_iaddN 161 rfl dX10_costOf_160 rfl rfl ?_ | refine e_iadd 161 rfl dX10_costOf_160 ?_
          first | refine e_ialdv 162 rfl dX10_costOf_161 (by assumption) (by assumption) (by first | rfl | simp only [pk_mul, nI_add]) (by omega) (by omega) (by first | assumption | (simp only [mN_sF, mK_sF, mL_sF, mF_sF, mB_sF, mA_sF, mJ_sF, mP_sF, mO_sF, mN_sB, mK_sB, mL_sB, mF_sB, mB_sB, mA_sB, mJ_sB, mP_sB, mO_sB, mN_sA, mK_sA, mL_sA, mF_sA, mB_sA, mA_sA, mJ_sA, mP_sA, mO_sA, mN_sJ, mK_sJ, mL_sJ, mF_sJ, mB_sJ, mA_sJ, mJ_sJ, mP_sJ, mO_sJ, mN_sP, mK_sP, mL_sP, mF_sP, mB_sP, mA_sP, mJ_sP, mP_sP, mO_sP, mN_sO, mK_sO, mL_sO, mF_sO, mB_sO, mA_sO, mJ_sO, mP_sO, mO_sO, up2, if_true, if_false, eq_self, ite_true, ite_false, reduceIte, Nat.add_left_cancel_iff, Nat.add_eq_left, Nat.left_eq_add, Nat.reduceEqDiff]; assumption) | (simp only [mN_sF, mK_sF, mL_sF, mF_sF, mB_sF, mA_sF, mJ_sF, mP_sF, mO_sF, mN_sB, mK_sB, mL_sB, mF_sB, mB_sB, mA_sB, mJ_sB, mP_sB, mO_sB, mN_sA, mK_sA, mL_sA, mF_sA, mB_sA, mA_sA, mJ_sA, mP_sA, mO_sA, mN_sJ, mK_sJ, mL_sJ, mF_sJ, mB_sJ, mA_sJ, mJ_sJ, mP_sJ, mO_sJ, mN_sP, mK_sP, mL_sP, mF_sP, mB_sP, mA_sP, mJ_sP, mP_sP, mO_sP, mN_sO, mK_sO, mL_sO, mF_sO, mB_sO, mA_sO, mJ_sO, mP_sO, mO_sO, up2, if_true, if_false, eq_self, ite_true, ite_false, reduceIte, Nat.add_left_cancel_iff, Nat.add_eq_left, Nat.left_eq_add, Nat.reduceEqDiff]; done)) ?_ | refine e_iald 162 rfl dX10_costOf_161 (by assumption) (by assumption) (by first | rfl | simp only [pk_mul, nI_add]) (by omega) (by omega) ?_
          first | refine e_cmp_eqN 167 165 (by decide) rfl dX10_costOf_162 rfl rfl (by omega) (by omega) (fun y10 => ?_) (fun y10 => ?_) | refine e_cmp_eq 167 165 (by decide) rfl dX10_costOf_162 (fun y10 => ?_) (fun y10 => ?_)
          · refine e_ii6 (nI (_ + 1)) 170 rfl dX10_costOf_167 (ii1 _) rfl ?_
            refine e_goto 124 (by decide) dX10_costOf_170 ?_
            exact ih (j + 1) (by omega) ((take_succ_eq hj2 hj1 htk).mpr (by rw [e1]; exact y10))
          · refine e_iconst (-1) 166 rfl dX10_costOf_165 ic_m1 ?_
            refine e_iret dX10_costOf_166 rfl ?_
            refine nomade (fun hm => y10 ?_)
            unfold madeL at hm
            simp only [Bool.and_eq_true, decide_eq_true_eq] at hm
            rw [← e1]
            simp only [hm.2]
      exact loop en.length 0 (by omega) rfl
    · subst e
      unfold cst at k
      rw [if_neg (by omega), if_neg (by omega), if_neg (by omega), if_pos rfl] at k
      refine e_is4 37 rfl dX10_costOf_35 (by decide) rfl ?_
      refine e_il3 38 rfl dX10_costOf_37 ?_
      first | refine e_if_eqB 51 41 (by decide) rfl dX10_costOf_38 rfl (fun y1 => ?_) (fun y1 => ?_) | refine e_if_eqN 51 41 (by decide) rfl dX10_costOf_38 rfl (by omega) (fun y1 => ?_) (fun y1 => ?_) | refine e_if_eq 51 41 (by decide) rfl dX10_costOf_38 (fun y1 => ?_) (fun y1 => ?_)
      · omega
      refine e_il3 42 rfl dX10_costOf_41 ?_
      refine e_iconst (nI 2) 43 rfl dX10_costOf_42 ic_2 ?_
      first | refine e_cmp_eqN 51 46 (by decide) rfl dX10_costOf_43 rfl rfl (by omega) (by omega) (fun y2 => ?_) (fun y2 => ?_) | refine e_cmp_eq 51 46 (by decide) rfl dX10_costOf_43 (fun y2 => ?_) (fun y2 => ?_)
      · omega
      refine e_il3 47 rfl dX10_costOf_46 ?_
      refine e_iconst (nI 3) 48 rfl dX10_costOf_47 ic_3 ?_
      first | refine e_cmp_neN 62 51 (by decide) rfl dX10_costOf_48 rfl rfl (by omega) (by omega) (fun y3 => ?_) (fun y3 => ?_) | refine e_cmp_ne 62 51 (by decide) rfl dX10_costOf_48 (fun y3 => ?_) (fun y3 => ?_)
      rotate_left
      · omega
      refine e_il3 63 rfl dX10_costOf_62 ?_
      refine e_bipush (nI 6) 65 rfl dX10_costOf_63 bc_6 ?_
      first | refine e_cmp_neN 84 68 (by decide) rfl dX10_costOf_65 rfl rfl (by omega) (by omega) (fun y4 => ?_) (fun y4 => ?_) | refine e_cmp_ne 84 68 (by decide) rfl dX10_costOf_65 (fun y4 => ?_) (fun y4 => ?_)
      · omega
      refine e_al0 69 rfl dX10_costOf_68 ?_
      refine e_getR 72 rfl dX10_costOf_69 f_X10_75 (by assumption) (by assumption) ?_
      refine e_il2 73 rfl dX10_costOf_72 ?_
      first | refine e_ialdv 74 rfl dX10_costOf_73 (by assumption) (by assumption) (by first | rfl | simp only [pk_mul, nI_add]) (by omega) (by omega) (by first | assumption | (simp only [mN_sF, mK_sF, mL_sF, mF_sF, mB_sF, mA_sF, mJ_sF, mP_sF, mO_sF, mN_sB, mK_sB, mL_sB, mF_sB, mB_sB, mA_sB, mJ_sB, mP_sB, mO_sB, mN_sA, mK_sA, mL_sA, mF_sA, mB_sA, mA_sA, mJ_sA, mP_sA, mO_sA, mN_sJ, mK_sJ, mL_sJ, mF_sJ, mB_sJ, mA_sJ, mJ_sJ, mP_sJ, mO_sJ, mN_sP, mK_sP, mL_sP, mF_sP, mB_sP, mA_sP, mJ_sP, mP_sP, mO_sP, mN_sO, mK_sO, mL_sO, mF_sO, mB_sO, mA_sO, mJ_sO, mP_sO, mO_sO, up2, if_true, if_false, eq_self, ite_true, ite_false, reduceIte, Nat.add_left_cancel_iff, Nat.add_eq_left, Nat.left_eq_add, Nat.reduceEqDiff]; assumption) | (simp only [mN_sF, mK_sF, mL_sF, mF_sF, mB_sF, mA_sF, mJ_sF, mP_sF, mO_sF, mN_sB, mK_sB, mL_sB, mF_sB, mB_sB, mA_sB, mJ_sB, mP_sB, mO_sB, mN_sA, mK_sA, mL_sA, mF_sA, mB_sA, mA_sA, mJ_sA, mP_sA, mO_sA, mN_sJ, mK_sJ, mL_sJ, mF_sJ, mB_sJ, mA_sJ, mJ_sJ, mP_sJ, mO_sJ, mN_sP, mK_sP, mL_sP, mF_sP, mB_sP, mA_sP, mJ_sP, mP_sP, mO_sP, mN_sO, mK_sO, mL_sO, mF_sO, mB_sO, mA_sO, mJ_sO, mP_sO, mO_sO, up2, if_true, if_false, eq_self, ite_true, ite_false, reduceIte, Nat.add_left_cancel_iff, Nat.add_eq_left, Nat.left_eq_add, Nat.reduceEqDiff]; done)) ?_ | refine e_iald 74 rfl dX10_costOf_73 (by assumption) (by assumption) (by first | rfl | simp only [pk_mul, nI_add]) (by omega) (by omega) ?_
      refine e_iconst (nI 1) 75 rfl dX10_costOf_74 ic_1 ?_
      first | refine e_cmp_neN 82 78 (by decide) rfl dX10_costOf_75 rfl rfl (by omega) (by omega) (fun y6 => ?_) (fun y6 => ?_) | refine e_cmp_ne 82 78 (by decide) rfl dX10_costOf_75 (fun y6 => ?_) (fun y6 => ?_)
      · rw [if_neg y6] at k
        refine e_iconst (-1) 83 rfl dX10_costOf_82 ic_m1 ?_
        refine e_iret dX10_costOf_83 rfl ?_
        exact k
      · rw [if_pos y6] at k
        refine e_iconst (nI 0) 79 rfl dX10_costOf_78 ic_0 ?_
        refine e_goto 83 (by decide) dX10_costOf_79 ?_
        refine e_iret dX10_costOf_83 rfl ?_
        exact k
  have hok : okK (nI kd) = if kd < 5 then some kd else none := by
    unfold okK
    rw [iN_nI (by omega), Option.filter_some]
    by_cases c : kd < 5
    · rw [if_pos c, if_pos (by simp [c])]
    · rw [if_neg c, if_neg (by simp [c])]
  refine Cl.of0 3 pn_X10 (Nat.le_of_ble_eq_true rfl) ⟨rfl, rfl⟩ rfl ?_
  refine e_il3 1 rfl dX10_costOf_0 ?_
  refine e_invS0 [_] 4 rfl dX10_costOf_1 k_X10_179 mo_X10_isKept rm_X10_costOf_X10_isKept ⟨rfl, rfl⟩ rfl rfl (Nat.le_of_ble_eq_true rfl) ?_
  refine c_mIsKept ?_
  rw [hok]
  by_cases c5 : kd < 5
  · rw [if_pos c5]
    first | refine e_if_eqB 34 7 (by decide) rfl dX10_costOf_4 rfl (fun y1 => ?_) (fun y1 => ?_) | refine e_if_eqN 34 7 (by decide) rfl dX10_costOf_4 rfl (by omega) (fun y1 => ?_) (fun y1 => ?_) | refine e_if_eq 34 7 (by decide) rfl dX10_costOf_4 (fun y1 => ?_) (fun y1 => ?_)
    · cases y1
    refine e_al0 8 rfl dX10_costOf_7 ?_
    refine e_il1 9 rfl dX10_costOf_8 ?_
    refine e_il3 10 rfl dX10_costOf_9 ?_
    refine e_al0 11 rfl dX10_costOf_10 ?_
    refine e_getR 14 rfl dX10_costOf_11 f_X10_72 (by assumption) (by assumption) ?_
    refine e_bipush (nI 21) 16 rfl dX10_costOf_14 bc_21 ?_
    refine e_il2 17 rfl dX10_costOf_16 ?_
    first | refine e_imulN 18 rfl dX10_costOf_17 rfl rfl ?_ | refine e_imul 18 rfl dX10_costOf_17 ?_
    refine e_al0 19 rfl dX10_costOf_18 ?_
    refine e_getR 22 rfl dX10_costOf_19 f_X10_75 (by assumption) (by assumption) ?_
    refine e_il2 23 rfl dX10_costOf_22 ?_
    first | refine e_ialdv 24 rfl dX10_costOf_23 (by assumption) (by assumption) (by first | rfl | simp only [pk_mul, nI_add]) (by omega) (by omega) (by first | assumption | (simp only [mN_sF, mK_sF, mL_sF, mF_sF, mB_sF, mA_sF, mJ_sF, mP_sF, mO_sF, mN_sB, mK_sB, mL_sB, mF_sB, mB_sB, mA_sB, mJ_sB, mP_sB, mO_sB, mN_sA, mK_sA, mL_sA, mF_sA, mB_sA, mA_sA, mJ_sA, mP_sA, mO_sA, mN_sJ, mK_sJ, mL_sJ, mF_sJ, mB_sJ, mA_sJ, mJ_sJ, mP_sJ, mO_sJ, mN_sP, mK_sP, mL_sP, mF_sP, mB_sP, mA_sP, mJ_sP, mP_sP, mO_sP, mN_sO, mK_sO, mL_sO, mF_sO, mB_sO, mA_sO, mJ_sO, mP_sO, mO_sO, up2, if_true, if_false, eq_self, ite_true, ite_false, reduceIte, Nat.add_left_cancel_iff, Nat.add_eq_left, Nat.left_eq_add, Nat.reduceEqDiff]; assumption) | (simp only [mN_sF, mK_sF, mL_sF, mF_sF, mB_sF, mA_sF, mJ_sF, mP_sF, mO_sF, mN_sB, mK_sB, mL_sB, mF_sB, mB_sB, mA_sB, mJ_sB, mP_sB, mO_sB, mN_sA, mK_sA, mL_sA, mF_sA, mB_sA, mA_sA, mJ_sA, mP_sA, mO_sA, mN_sJ, mK_sJ, mL_sJ, mF_sJ, mB_sJ, mA_sJ, mJ_sJ, mP_sJ, mO_sJ, mN_sP, mK_sP, mL_sP, mF_sP, mB_sP, mA_sP, mJ_sP, mP_sP, mO_sP, mN_sO, mK_sO, mL_sO, mF_sO, mB_sO, mA_sO, mJ_sO, mP_sO, mO_sO, up2, if_true, if_false, eq_self, ite_true, ite_false, reduceIte, Nat.add_left_cancel_iff, Nat.add_eq_left, Nat.left_eq_add, Nat.reduceEqDiff]; done)) ?_ | refine e_iald 24 rfl dX10_costOf_23 (by assumption) (by assumption) (by first | rfl | simp only [pk_mul, nI_add]) (by omega) (by omega) ?_
    refine e_invV0 [_, _, _, _, _] 27 rfl dX10_costOf_24 k_X10_185 mo_X10_entry rm_X10_costOf_X10_entry ⟨rfl, rfl⟩ rfl rfl (by assumption) (Nat.le_of_ble_eq_true rfl) ?_
    refine ask w.length kd (Nat.le_refl _) c5 (fun n0 => ?_) (fun i0 i hi => ?_)
    · rw [tw] at n0
      refine e_if_lt 34 30 (by decide) rfl dX10_costOf_27 (fun y2 => ?_) (fun y2 => ?_)
      rotate_left
      · exact absurd (by decide) y2
      refine e_iconst (nI 0) 35 rfl dX10_costOf_34 ic_0 ?_
      exact cont false ⟨fun h => (by cases h), fun h => absurd h.2 n0⟩
    · rw [tw] at i0
      first | refine e_if_ltN 34 30 (by decide) rfl dX10_costOf_27 rfl (by omega) ?_ | refine e_if_lt 34 30 (by decide) rfl dX10_costOf_27 (fun h => ?_) (fun h => ?_)
      refine e_iconst (nI 1) 31 rfl dX10_costOf_30 ic_1 ?_
      refine e_goto 35 (by decide) dX10_costOf_31 ?_
      exact cont true ⟨fun _ => ⟨c5, i0⟩, fun _ => rfl⟩
  · rw [if_neg c5]
    first | refine e_if_eqB 34 7 (by decide) rfl dX10_costOf_4 rfl (fun y1 => ?_) (fun y1 => ?_) | refine e_if_eqN 34 7 (by decide) rfl dX10_costOf_4 rfl (by omega) (fun y1 => ?_) (fun y1 => ?_) | refine e_if_eq 34 7 (by decide) rfl dX10_costOf_4 (fun y1 => ?_) (fun y1 => ?_)
    rotate_left
    · cases y1
    refine e_iconst (nI 0) 35 rfl dX10_costOf_34 ic_0 ?_
    exact cont false ⟨fun h => (by cases h), fun h => absurd h.1 c5⟩
end MCOST
