/-! the law's cases -/
section LAWC
variable {E : En} {μ : Mm} {K : Option Value → Mm → Prop}
abbrev M_law : Mt := (yL_law, cL_law, 7, (some .boolean), { frames := 13, cells := 601024, slots := 7293034, locals := 506 })
theorem e_ialdLow {M : Mt} {kc ks pc : Nat} {ls : List (Option Value)} {st : List Value} {Q : Option Value → Mm → Prop} {t N j : Nat} {i : Int32} {xs : Nat → Int32} (n : Nat) (hp : pc + 1 = n) (hd : decode M.2.1 pc = .ok (.iaload, 1)) (hE : ∀ U : State, xP E U → va_T .int t N (fun j => .int (xs j)) (aE E) U (xH E)) (hi : i = nI j) (hj : j < N) (hN : N < 2 ^ 31) (kk : Ev E M kc ks n ls (.int (xs j) :: st) μ Q) : Ev E M kc ks pc ls (.int i :: .ref t :: st) μ Q := by
  subst hp; subst hi
  refine Ev.step (fun p e s m args below meth c H locs cells slots lsA Z C R hL k2 => ?_) kk
  obtain ⟨cell, h1, h2, h3, h4, h5, h6, h7⟩ := (hE s C.2.2.2.2.2.1.2.2.2).kept R.low
  have ej : (nI j).toNatClampNeg = j := nI_clamp (by omega)
  refine W.iald (v := .int (xs j)) C.1 C.2.1 h1 h2 h3 ?_ (by rw [ej, h6 _ hj]) rfl rfl hd (k2 lsA hL)
  rintro (q | q)
  · exact nI_pos (by omega) q
  · rw [ej] at q; omega
theorem MI.off {m : Nat} {S : Ast} {μ' : Mm} {Q : Nat → Prop} (h : MI m S μ) (f : Fx Q μ μ') (hQ : ∀ q, m ≤ q → q < m + 38 → ¬ Q q) : MI m S μ' := by
  obtain ⟨h1, h2, ⟨es, he, h3⟩, h4, h5, h6, h7⟩ := h
  have f0 := f.2.2.2 m (hQ m (by omega) (by omega))
  have fr : Fr Q μ (mN μ', mK μ', mL μ', mF μ', mB μ', mA μ', mJ μ', mP μ, mO μ) := ⟨f.1, f.2.1, f.2.2.1, rfl, rfl, fun b hb => ⟨(f.2.2.2 b hb).1, (f.2.2.2 b hb).2.1, (f.2.2.2 b hb).2.2.1, (f.2.2.2 b hb).2.2.2.1⟩⟩
  have fm : ∀ g, mF μ' m g = mF μ m g := fun g => by rw [f0.1]
  have t2 := h2.fr fr (fm 1) (hQ _ (by omega) (by omega))
  have t3 := h3.fr fr (fm 3) (fun q a b => hQ q (by omega) (by omega))
  have t4 := h4.fr fr (fun q a b => hQ q (by omega) (by omega))
  have t6 := h6.fr fr (fm 20) (fun q a b => hQ q (by omega) (by omega))
  have t7 := h7.fr fr (fun q a b => hQ q (by omega) (by omega))
  refine ⟨?_, t2, ⟨es, he, t3⟩, t4, ⟨by rw [fm 18]; exact h5.1, by rw [fm 19]; exact h5.2⟩, t6, t7⟩
  unfold Mg
  rw [f.2.1, f.2.2.1, f0.2.2.2.2.1]
  exact h1
/-- the law between two calls: the desk at d, the reference behind it, the row of one long behind that -/
def LwS (d : Nat) (S : Ast) (μ : Mm) : Prop := WF S ∧ DI d S μ ∧ MI (d + 1255) S μ ∧ mK μ (d + 1293) = 14 ∧ mL μ (d + 1293) = 1
abbrev lwL (b d i : Nat) (l5 l6 : Option Value) : List (Option Value) := [some (.ref b), some (.ref d), some (.ref (d + 1255)), some (.ref (d + 1293)), some (.int (nI i)), l5, l6]
theorem LwS.mid {d : Nat} {S : Ast} {μ' : Mm} (h : LwS d S μ) (f : DF d μ μ') : MI (d + 1255) S μ' := h.2.2.1.off f (fun q a b => by omega)
theorem LwS.step {d : Nat} {S S' : Ast} {μ' μ'' : Mm} (h : LwS d S μ) (hW : WF S') (f : DF d μ μ') (hD : DI d S' μ') (g : MF (d + 1255) μ' μ'') (hM : MI (d + 1255) S' μ'') : LwS d S' μ'' :=
  ⟨hW, hD.off (Q := fun q => d + 1255 ≤ q ∧ q < d + 1255 + 38) hW g.fx (fun q a b => by omega), hM, by rw [g.2.1, f.2.1]; exact h.2.2.2.1, by rw [g.2.2.1, f.2.2.1]; exact h.2.2.2.2⟩
variable {b d L i kc ks : Nat} {xs : Nat → Int32} {S : Ast} {l5 l6 : Option Value}
theorem law_feed (hSc : ∀ U : State, xP E U → va_T .int b L (fun j => .int (xs j)) (aE E) U (xH E)) (hL : L ≤ 3072) (hiL : i + 6 ≤ L) (h : LwS d S μ) (hN : ∀ S' μ', LwS d S' μ' → Ev E M_law kc ks 808 (lwL b d i l5 l6) [] μ' K) : Ev E M_law kc ks 124 (lwL b d i l5 l6) [] μ K := by
  have hW := h.1
  have hD := h.2.1
  have hM := h.2.2.1
  have gk := hD.1.1.1
  have mk := hM.1.1
  refine e_al1 125 rfl dL_law_124 ?_
  refine e_al0 126 rfl dL_law_125 ?_
  refine e_il4 128 rfl dL_law_126 ?_
  refine e_iconst (nI 1) 129 rfl dL_law_128 ic_1 ?_
  first | refine e_iaddN 130 rfl dL_law_129 rfl rfl ?_ | refine e_iadd 130 rfl dL_law_129 ?_
  refine e_ialdLow 131 rfl dL_law_130 hSc rfl (by omega) (by omega) ?_
  refine e_al0 132 rfl dL_law_131 ?_
  refine e_il4 134 rfl dL_law_132 ?_
  refine e_iconst (nI 2) 135 rfl dL_law_134 ic_2 ?_
  first | refine e_iaddN 136 rfl dL_law_135 rfl rfl ?_ | refine e_iadd 136 rfl dL_law_135 ?_
  refine e_ialdLow 137 rfl dL_law_136 hSc rfl (by omega) (by omega) ?_
  refine e_al0 138 rfl dL_law_137 ?_
  refine e_il4 140 rfl dL_law_138 ?_
  refine e_iconst (nI 3) 141 rfl dL_law_140 ic_3 ?_
  first | refine e_iaddN 142 rfl dL_law_141 rfl rfl ?_ | refine e_iadd 142 rfl dL_law_141 ?_
  refine e_ialdLow 143 rfl dL_law_142 hSc rfl (by omega) (by omega) ?_
  refine e_al0 144 rfl dL_law_143 ?_
  refine e_il4 146 rfl dL_law_144 ?_
  refine e_iconst (nI 4) 147 rfl dL_law_146 ic_4 ?_
  first | refine e_iaddN 148 rfl dL_law_147 rfl rfl ?_ | refine e_iadd 148 rfl dL_law_147 ?_
  refine e_ialdLow 149 rfl dL_law_148 hSc rfl (by omega) (by omega) ?_
  refine e_al0 150 rfl dL_law_149 ?_
  refine e_il4 152 rfl dL_law_150 ?_
  refine e_iconst (nI 5) 153 rfl dL_law_152 ic_5 ?_
  first | refine e_iaddN 154 rfl dL_law_153 rfl rfl ?_ | refine e_iadd 154 rfl dL_law_153 ?_
  refine e_ialdLow 155 rfl dL_law_154 hSc rfl (by omega) (by omega) ?_
  refine e_invV0 [_, _, _, _, _] 158 rfl dL_law_155 k_L_21 mo_X9_feed ⟨by decide, by decide⟩ ⟨rfl, rfl⟩ rfl rfl (by assumption) (Nat.le_of_ble_eq_true rfl) ?_
  refine d_feed hW hD (fun μ1 hF1 hD1 => ?_)
  have hM1 := h.mid hF1
  have mk1 := hM1.1.1
  refine e_al2 159 rfl dL_law_158 ?_
  refine e_al0 160 rfl dL_law_159 ?_
  refine e_il4 162 rfl dL_law_160 ?_
  refine e_iconst (nI 1) 163 rfl dL_law_162 ic_1 ?_
  first | refine e_iaddN 164 rfl dL_law_163 rfl rfl ?_ | refine e_iadd 164 rfl dL_law_163 ?_
  refine e_ialdLow 165 rfl dL_law_164 hSc rfl (by omega) (by omega) ?_
  refine e_al0 166 rfl dL_law_165 ?_
  refine e_il4 168 rfl dL_law_166 ?_
  refine e_iconst (nI 2) 169 rfl dL_law_168 ic_2 ?_
  first | refine e_iaddN 170 rfl dL_law_169 rfl rfl ?_ | refine e_iadd 170 rfl dL_law_169 ?_
  refine e_ialdLow 171 rfl dL_law_170 hSc rfl (by omega) (by omega) ?_
  refine e_al0 172 rfl dL_law_171 ?_
  refine e_il4 174 rfl dL_law_172 ?_
  refine e_iconst (nI 3) 175 rfl dL_law_174 ic_3 ?_
  first | refine e_iaddN 176 rfl dL_law_175 rfl rfl ?_ | refine e_iadd 176 rfl dL_law_175 ?_
  refine e_ialdLow 177 rfl dL_law_176 hSc rfl (by omega) (by omega) ?_
  refine e_al0 178 rfl dL_law_177 ?_
  refine e_il4 180 rfl dL_law_178 ?_
  refine e_iconst (nI 4) 181 rfl dL_law_180 ic_4 ?_
  first | refine e_iaddN 182 rfl dL_law_181 rfl rfl ?_ | refine e_iadd 182 rfl dL_law_181 ?_
  refine e_ialdLow 183 rfl dL_law_182 hSc rfl (by omega) (by omega) ?_
  refine e_al0 184 rfl dL_law_183 ?_
  refine e_il4 186 rfl dL_law_184 ?_
  refine e_iconst (nI 5) 187 rfl dL_law_186 ic_5 ?_
  first | refine e_iaddN 188 rfl dL_law_187 rfl rfl ?_ | refine e_iadd 188 rfl dL_law_187 ?_
  refine e_ialdLow 189 rfl dL_law_188 hSc rfl (by omega) (by omega) ?_
  refine e_invV0 [_, _, _, _, _] 192 rfl dL_law_189 k_L_25 mo_X10_feed ⟨by decide, by decide⟩ ⟨rfl, rfl⟩ rfl rfl (by assumption) (Nat.le_of_ble_eq_true rfl) ?_
  refine m_feed hW hM1 (fun μ2 hF2 hM2 => ?_)
  refine e_cmp_eq 808 195 (by decide) rfl dL_law_192 (fun _ => ?_) (fun q => absurd rfl q)
  exact hN _ μ2 (h.step (wf_feed hW) hF1 hD1 hF2 hM2)
theorem law_shape (KH : KHere E) (hSc : ∀ U : State, xP E U → va_T .int b L (fun j => .int (xs j)) (aE E) U (xH E)) (hL : L ≤ 3072) (hiL : i + 6 ≤ L) (h : LwS d S μ) (hN : ∀ S' μ', LwS d S' μ' → Ev E M_law kc ks 808 (lwL b d i l5 l6) [] μ' K) : Ev E M_law kc ks 197 (lwL b d i l5 l6) [] μ K := by
  have hW := h.1
  have hD := h.2.1
  have hM := h.2.2.1
  have gk := hD.1.1.1
  have mk := hM.1.1
  refine e_al1 198 rfl dL_law_197 ?_
  refine e_al0 199 rfl dL_law_198 ?_
  refine e_il4 201 rfl dL_law_199 ?_
  refine e_iconst (nI 1) 202 rfl dL_law_201 ic_1 ?_
  first | refine e_iaddN 203 rfl dL_law_202 rfl rfl ?_ | refine e_iadd 203 rfl dL_law_202 ?_
  refine e_ialdLow 204 rfl dL_law_203 hSc rfl (by omega) (by omega) ?_
  refine e_al0 205 rfl dL_law_204 ?_
  refine e_il4 207 rfl dL_law_205 ?_
  refine e_iconst (nI 2) 208 rfl dL_law_207 ic_2 ?_
  first | refine e_iaddN 209 rfl dL_law_208 rfl rfl ?_ | refine e_iadd 209 rfl dL_law_208 ?_
  refine e_ialdLow 210 rfl dL_law_209 hSc rfl (by omega) (by omega) ?_
  refine e_invV0 [_, _] 213 rfl dL_law_210 k_L_26 mo_X9_shape ⟨by decide, by decide⟩ ⟨rfl, rfl⟩ rfl rfl (by assumption) (Nat.le_of_ble_eq_true rfl) ?_
  refine d_shape KH hW hD (fun μ1 hF1 hD1 => ?_)
  have hM1 := h.mid hF1
  have mk1 := hM1.1.1
  refine e_al2 214 rfl dL_law_213 ?_
  refine e_al0 215 rfl dL_law_214 ?_
  refine e_il4 217 rfl dL_law_215 ?_
  refine e_iconst (nI 1) 218 rfl dL_law_217 ic_1 ?_
  first | refine e_iaddN 219 rfl dL_law_218 rfl rfl ?_ | refine e_iadd 219 rfl dL_law_218 ?_
  refine e_ialdLow 220 rfl dL_law_219 hSc rfl (by omega) (by omega) ?_
  refine e_al0 221 rfl dL_law_220 ?_
  refine e_il4 223 rfl dL_law_221 ?_
  refine e_iconst (nI 2) 224 rfl dL_law_223 ic_2 ?_
  first | refine e_iaddN 225 rfl dL_law_224 rfl rfl ?_ | refine e_iadd 225 rfl dL_law_224 ?_
  refine e_ialdLow 226 rfl dL_law_225 hSc rfl (by omega) (by omega) ?_
  refine e_invV0 [_, _] 229 rfl dL_law_226 k_L_29 mo_X10_shape ⟨by decide, by decide⟩ ⟨rfl, rfl⟩ rfl rfl (by assumption) (Nat.le_of_ble_eq_true rfl) ?_
  refine m_shape hW hM1 (fun μ2 hF2 hM2 => ?_)
  refine e_cmp_eq 808 232 (by decide) rfl dL_law_229 (fun _ => ?_) (fun q => absurd rfl q)
  exact hN _ μ2 (h.step (wf_shape hW) hF1 hD1 hF2 hM2)
theorem law_fault (hSc : ∀ U : State, xP E U → va_T .int b L (fun j => .int (xs j)) (aE E) U (xH E)) (hL : L ≤ 3072) (hiL : i + 6 ≤ L) (h : LwS d S μ) (hN : ∀ S' μ', LwS d S' μ' → Ev E M_law kc ks 808 (lwL b d i l5 l6) [] μ' K) : Ev E M_law kc ks 234 (lwL b d i l5 l6) [] μ K := by
  have hW := h.1
  have hD := h.2.1
  have hM := h.2.2.1
  have gk := hD.1.1.1
  have mk := hM.1.1
  refine e_al1 235 rfl dL_law_234 ?_
  refine e_al0 236 rfl dL_law_235 ?_
  refine e_il4 238 rfl dL_law_236 ?_
  refine e_iconst (nI 1) 239 rfl dL_law_238 ic_1 ?_
  first | refine e_iaddN 240 rfl dL_law_239 rfl rfl ?_ | refine e_iadd 240 rfl dL_law_239 ?_
  refine e_ialdLow 241 rfl dL_law_240 hSc rfl (by omega) (by omega) ?_
  refine e_invV0 [_] 244 rfl dL_law_241 k_L_30 mo_X9_fault ⟨by decide, by decide⟩ ⟨rfl, rfl⟩ rfl rfl (by assumption) (Nat.le_of_ble_eq_true rfl) ?_
  refine d_fault hD ?_
  refine e_al2 245 rfl dL_law_244 ?_
  refine e_al0 246 rfl dL_law_245 ?_
  refine e_il4 248 rfl dL_law_246 ?_
  refine e_iconst (nI 1) 249 rfl dL_law_248 ic_1 ?_
  first | refine e_iaddN 250 rfl dL_law_249 rfl rfl ?_ | refine e_iadd 250 rfl dL_law_249 ?_
  refine e_ialdLow 251 rfl dL_law_250 hSc rfl (by omega) (by omega) ?_
  refine e_invV0 [_] 254 rfl dL_law_251 k_L_34 mo_X10_fault ⟨by decide, by decide⟩ ⟨rfl, rfl⟩ rfl rfl (by assumption) (Nat.le_of_ble_eq_true rfl) ?_
  refine m_fault hM (fun μ2 hF2 hM2 => ?_)
  refine e_cmp_eq 808 257 (by decide) rfl dL_law_254 (fun _ => ?_) (fun q => absurd rfl q)
  exact hN _ μ2 (h.step hW Fx.rf hD hF2 hM2)
theorem law_know (hSc : ∀ U : State, xP E U → va_T .int b L (fun j => .int (xs j)) (aE E) U (xH E)) (hL : L ≤ 3072) (hiL : i + 6 ≤ L) (h : LwS d S μ) (hN : ∀ S' μ', LwS d S' μ' → Ev E M_law kc ks 808 (lwL b d i l5 l6) [] μ' K) : Ev E M_law kc ks 259 (lwL b d i l5 l6) [] μ K := by
  have hW := h.1
  have hD := h.2.1
  have hM := h.2.2.1
  have gk := hD.1.1.1
  have mk := hM.1.1
  refine e_al1 260 rfl dL_law_259 ?_
  refine e_al0 261 rfl dL_law_260 ?_
  refine e_il4 263 rfl dL_law_261 ?_
  refine e_iconst (nI 1) 264 rfl dL_law_263 ic_1 ?_
  first | refine e_iaddN 265 rfl dL_law_264 rfl rfl ?_ | refine e_iadd 265 rfl dL_law_264 ?_
  refine e_ialdLow 266 rfl dL_law_265 hSc rfl (by omega) (by omega) ?_
  refine e_al0 267 rfl dL_law_266 ?_
  refine e_il4 269 rfl dL_law_267 ?_
  refine e_iconst (nI 2) 270 rfl dL_law_269 ic_2 ?_
  first | refine e_iaddN 271 rfl dL_law_270 rfl rfl ?_ | refine e_iadd 271 rfl dL_law_270 ?_
  refine e_ialdLow 272 rfl dL_law_271 hSc rfl (by omega) (by omega) ?_
  refine e_al0 273 rfl dL_law_272 ?_
  refine e_il4 275 rfl dL_law_273 ?_
  refine e_iconst (nI 3) 276 rfl dL_law_275 ic_3 ?_
  first | refine e_iaddN 277 rfl dL_law_276 rfl rfl ?_ | refine e_iadd 277 rfl dL_law_276 ?_
  refine e_ialdLow 278 rfl dL_law_277 hSc rfl (by omega) (by omega) ?_
  refine e_invV0 [_, _, _] 281 rfl dL_law_278 k_L_35 mo_X9_know ⟨by decide, by decide⟩ ⟨rfl, rfl⟩ rfl rfl (by assumption) (Nat.le_of_ble_eq_true rfl) ?_
  refine d_know hW hD (fun μ1 hF1 hD1 => ?_)
  have hM1 := h.mid hF1
  have mk1 := hM1.1.1
  refine e_al2 282 rfl dL_law_281 ?_
  refine e_al0 283 rfl dL_law_282 ?_
  refine e_il4 285 rfl dL_law_283 ?_
  refine e_iconst (nI 1) 286 rfl dL_law_285 ic_1 ?_
  first | refine e_iaddN 287 rfl dL_law_286 rfl rfl ?_ | refine e_iadd 287 rfl dL_law_286 ?_
  refine e_ialdLow 288 rfl dL_law_287 hSc rfl (by omega) (by omega) ?_
  refine e_al0 289 rfl dL_law_288 ?_
  refine e_il4 291 rfl dL_law_289 ?_
  refine e_iconst (nI 2) 292 rfl dL_law_291 ic_2 ?_
  first | refine e_iaddN 293 rfl dL_law_292 rfl rfl ?_ | refine e_iadd 293 rfl dL_law_292 ?_
  refine e_ialdLow 294 rfl dL_law_293 hSc rfl (by omega) (by omega) ?_
  refine e_al0 295 rfl dL_law_294 ?_
  refine e_il4 297 rfl dL_law_295 ?_
  refine e_iconst (nI 3) 298 rfl dL_law_297 ic_3 ?_
  first | refine e_iaddN 299 rfl dL_law_298 rfl rfl ?_ | refine e_iadd 299 rfl dL_law_298 ?_
  refine e_ialdLow 300 rfl dL_law_299 hSc rfl (by omega) (by omega) ?_
  refine e_invV0 [_, _, _] 303 rfl dL_law_300 k_L_39 mo_X10_know ⟨by decide, by decide⟩ ⟨rfl, rfl⟩ rfl rfl (by assumption) (Nat.le_of_ble_eq_true rfl) ?_
  refine m_know hW hM1 (fun μ2 hF2 hM2 => ?_)
  refine e_cmp_eq 808 306 (by decide) rfl dL_law_303 (fun _ => ?_) (fun q => absurd rfl q)
  exact hN _ μ2 (h.step (wf_know hW) hF1 hD1 hF2 hM2)
theorem law_forget (hSc : ∀ U : State, xP E U → va_T .int b L (fun j => .int (xs j)) (aE E) U (xH E)) (hL : L ≤ 3072) (hiL : i + 6 ≤ L) (h : LwS d S μ) (hN : ∀ S' μ', LwS d S' μ' → Ev E M_law kc ks 808 (lwL b d i l5 l6) [] μ' K) : Ev E M_law kc ks 308 (lwL b d i l5 l6) [] μ K := by
  have hW := h.1
  have hD := h.2.1
  have hM := h.2.2.1
  have gk := hD.1.1.1
  have mk := hM.1.1
  refine e_al1 309 rfl dL_law_308 ?_
  refine e_al0 310 rfl dL_law_309 ?_
  refine e_il4 312 rfl dL_law_310 ?_
  refine e_iconst (nI 1) 313 rfl dL_law_312 ic_1 ?_
  first | refine e_iaddN 314 rfl dL_law_313 rfl rfl ?_ | refine e_iadd 314 rfl dL_law_313 ?_
  refine e_ialdLow 315 rfl dL_law_314 hSc rfl (by omega) (by omega) ?_
  refine e_al0 316 rfl dL_law_315 ?_
  refine e_il4 318 rfl dL_law_316 ?_
  refine e_iconst (nI 2) 319 rfl dL_law_318 ic_2 ?_
  first | refine e_iaddN 320 rfl dL_law_319 rfl rfl ?_ | refine e_iadd 320 rfl dL_law_319 ?_
  refine e_ialdLow 321 rfl dL_law_320 hSc rfl (by omega) (by omega) ?_
  refine e_al0 322 rfl dL_law_321 ?_
  refine e_il4 324 rfl dL_law_322 ?_
  refine e_iconst (nI 3) 325 rfl dL_law_324 ic_3 ?_
  first | refine e_iaddN 326 rfl dL_law_325 rfl rfl ?_ | refine e_iadd 326 rfl dL_law_325 ?_
  refine e_ialdLow 327 rfl dL_law_326 hSc rfl (by omega) (by omega) ?_
  refine e_invV0 [_, _, _] 330 rfl dL_law_327 k_L_40 mo_X9_forget ⟨by decide, by decide⟩ ⟨rfl, rfl⟩ rfl rfl (by assumption) (Nat.le_of_ble_eq_true rfl) ?_
  refine d_forget hW hD (fun μ1 hF1 hD1 => ?_)
  have hM1 := h.mid hF1
  have mk1 := hM1.1.1
  refine e_al2 331 rfl dL_law_330 ?_
  refine e_al0 332 rfl dL_law_331 ?_
  refine e_il4 334 rfl dL_law_332 ?_
  refine e_iconst (nI 1) 335 rfl dL_law_334 ic_1 ?_
  first | refine e_iaddN 336 rfl dL_law_335 rfl rfl ?_ | refine e_iadd 336 rfl dL_law_335 ?_
  refine e_ialdLow 337 rfl dL_law_336 hSc rfl (by omega) (by omega) ?_
  refine e_al0 338 rfl dL_law_337 ?_
  refine e_il4 340 rfl dL_law_338 ?_
  refine e_iconst (nI 2) 341 rfl dL_law_340 ic_2 ?_
  first | refine e_iaddN 342 rfl dL_law_341 rfl rfl ?_ | refine e_iadd 342 rfl dL_law_341 ?_
  refine e_ialdLow 343 rfl dL_law_342 hSc rfl (by omega) (by omega) ?_
  refine e_al0 344 rfl dL_law_343 ?_
  refine e_il4 346 rfl dL_law_344 ?_
  refine e_iconst (nI 3) 347 rfl dL_law_346 ic_3 ?_
  first | refine e_iaddN 348 rfl dL_law_347 rfl rfl ?_ | refine e_iadd 348 rfl dL_law_347 ?_
  refine e_ialdLow 349 rfl dL_law_348 hSc rfl (by omega) (by omega) ?_
  refine e_invV0 [_, _, _] 352 rfl dL_law_349 k_L_44 mo_X10_forget ⟨by decide, by decide⟩ ⟨rfl, rfl⟩ rfl rfl (by assumption) (Nat.le_of_ble_eq_true rfl) ?_
  refine m_forget hW hM1 (fun μ2 hF2 hM2 => ?_)
  refine e_cmp_eq 808 355 (by decide) rfl dL_law_352 (fun _ => ?_) (fun q => absurd rfl q)
  exact hN _ μ2 (h.step (wf_forget hW) hF1 hD1 hF2 hM2)
theorem law_name (hSc : ∀ U : State, xP E U → va_T .int b L (fun j => .int (xs j)) (aE E) U (xH E)) (hL : L ≤ 3072) (hiL : i + 6 ≤ L) (h : LwS d S μ) (hN : ∀ S' μ', LwS d S' μ' → Ev E M_law kc ks 808 (lwL b d i l5 l6) [] μ' K) : Ev E M_law kc ks 357 (lwL b d i l5 l6) [] μ K := by
  have hW := h.1
  have hD := h.2.1
  have hM := h.2.2.1
  have gk := hD.1.1.1
  have mk := hM.1.1
  refine e_al1 358 rfl dL_law_357 ?_
  refine e_al0 359 rfl dL_law_358 ?_
  refine e_il4 361 rfl dL_law_359 ?_
  refine e_iconst (nI 1) 362 rfl dL_law_361 ic_1 ?_
  first | refine e_iaddN 363 rfl dL_law_362 rfl rfl ?_ | refine e_iadd 363 rfl dL_law_362 ?_
  refine e_ialdLow 364 rfl dL_law_363 hSc rfl (by omega) (by omega) ?_
  refine e_al0 365 rfl dL_law_364 ?_
  refine e_il4 367 rfl dL_law_365 ?_
  refine e_iconst (nI 2) 368 rfl dL_law_367 ic_2 ?_
  first | refine e_iaddN 369 rfl dL_law_368 rfl rfl ?_ | refine e_iadd 369 rfl dL_law_368 ?_
  refine e_ialdLow 370 rfl dL_law_369 hSc rfl (by omega) (by omega) ?_
  refine e_invV0 [_, _] 373 rfl dL_law_370 k_L_45 mo_X9_name ⟨by decide, by decide⟩ ⟨rfl, rfl⟩ rfl rfl (by assumption) (Nat.le_of_ble_eq_true rfl) ?_
  refine d_name hW hD (fun μ1 hF1 hD1 => ?_)
  have hM1 := h.mid hF1
  have mk1 := hM1.1.1
  refine e_al2 374 rfl dL_law_373 ?_
  refine e_al0 375 rfl dL_law_374 ?_
  refine e_il4 377 rfl dL_law_375 ?_
  refine e_iconst (nI 1) 378 rfl dL_law_377 ic_1 ?_
  first | refine e_iaddN 379 rfl dL_law_378 rfl rfl ?_ | refine e_iadd 379 rfl dL_law_378 ?_
  refine e_ialdLow 380 rfl dL_law_379 hSc rfl (by omega) (by omega) ?_
  refine e_al0 381 rfl dL_law_380 ?_
  refine e_il4 383 rfl dL_law_381 ?_
  refine e_iconst (nI 2) 384 rfl dL_law_383 ic_2 ?_
  first | refine e_iaddN 385 rfl dL_law_384 rfl rfl ?_ | refine e_iadd 385 rfl dL_law_384 ?_
  refine e_ialdLow 386 rfl dL_law_385 hSc rfl (by omega) (by omega) ?_
  refine e_invV0 [_, _] 389 rfl dL_law_386 k_L_48 mo_X10_name ⟨by decide, by decide⟩ ⟨rfl, rfl⟩ rfl rfl (by assumption) (Nat.le_of_ble_eq_true rfl) ?_
  refine m_name hW hM1 (fun μ2 hF2 hM2 => ?_)
  refine e_cmp_eq 808 392 (by decide) rfl dL_law_389 (fun _ => ?_) (fun q => absurd rfl q)
  exact hN _ μ2 (h.step (wf_name hW) hF1 hD1 hF2 hM2)
theorem law_readings (hSc : ∀ U : State, xP E U → va_T .int b L (fun j => .int (xs j)) (aE E) U (xH E)) (hL : L ≤ 3072) (hiL : i + 6 ≤ L) (h : LwS d S μ) (hN : ∀ S' μ', LwS d S' μ' → Ev E M_law kc ks 808 (lwL b d i l5 l6) [] μ' K) : Ev E M_law kc ks 394 (lwL b d i l5 l6) [] μ K := by
  have hW := h.1
  have hD := h.2.1
  have hM := h.2.2.1
  have gk := hD.1.1.1
  have mk := hM.1.1
  refine e_al1 395 rfl dL_law_394 ?_
  refine e_al0 396 rfl dL_law_395 ?_
  refine e_il4 398 rfl dL_law_396 ?_
  refine e_iconst (nI 1) 399 rfl dL_law_398 ic_1 ?_
  first | refine e_iaddN 400 rfl dL_law_399 rfl rfl ?_ | refine e_iadd 400 rfl dL_law_399 ?_
  refine e_ialdLow 401 rfl dL_law_400 hSc rfl (by omega) (by omega) ?_
  refine e_al0 402 rfl dL_law_401 ?_
  refine e_il4 404 rfl dL_law_402 ?_
  refine e_iconst (nI 2) 405 rfl dL_law_404 ic_2 ?_
  first | refine e_iaddN 406 rfl dL_law_405 rfl rfl ?_ | refine e_iadd 406 rfl dL_law_405 ?_
  refine e_ialdLow 407 rfl dL_law_406 hSc rfl (by omega) (by omega) ?_
  refine e_invV0 [_, _] 410 rfl dL_law_407 k_L_49 mo_X9_readings ⟨by decide, by decide⟩ ⟨rfl, rfl⟩ rfl rfl (by assumption) (Nat.le_of_ble_eq_true rfl) ?_
  refine d_readings hW hD (fun μ1 hF1 hD1 => ?_)
  have hM1 := h.mid hF1
  have mk1 := hM1.1.1
  refine e_al2 411 rfl dL_law_410 ?_
  refine e_al0 412 rfl dL_law_411 ?_
  refine e_il4 414 rfl dL_law_412 ?_
  refine e_iconst (nI 1) 415 rfl dL_law_414 ic_1 ?_
  first | refine e_iaddN 416 rfl dL_law_415 rfl rfl ?_ | refine e_iadd 416 rfl dL_law_415 ?_
  refine e_ialdLow 417 rfl dL_law_416 hSc rfl (by omega) (by omega) ?_
  refine e_al0 418 rfl dL_law_417 ?_
  refine e_il4 420 rfl dL_law_418 ?_
  refine e_iconst (nI 2) 421 rfl dL_law_420 ic_2 ?_
  first | refine e_iaddN 422 rfl dL_law_421 rfl rfl ?_ | refine e_iadd 422 rfl dL_law_421 ?_
  refine e_ialdLow 423 rfl dL_law_422 hSc rfl (by omega) (by omega) ?_
  refine e_invV0 [_, _] 426 rfl dL_law_423 k_L_52 mo_X10_readings ⟨by decide, by decide⟩ ⟨rfl, rfl⟩ rfl rfl (by assumption) (Nat.le_of_ble_eq_true rfl) ?_
  refine m_readings hW hM1 (fun μ2 hF2 hM2 => ?_)
  refine e_cmp_eq 808 429 (by decide) rfl dL_law_426 (fun _ => ?_) (fun q => absurd rfl q)
  exact hN _ μ2 (h.step hW hF1 hD1 hF2 hM2)
theorem law_cost (hSc : ∀ U : State, xP E U → va_T .int b L (fun j => .int (xs j)) (aE E) U (xH E)) (hL : L ≤ 3072) (hiL : i + 6 ≤ L) (h : LwS d S μ) (hN : ∀ S' μ', LwS d S' μ' → Ev E M_law kc ks 808 (lwL b d i l5 l6) [] μ' K) : Ev E M_law kc ks 431 (lwL b d i l5 l6) [] μ K := by
  have hW := h.1
  have hD := h.2.1
  have hM := h.2.2.1
  have gk := hD.1.1.1
  have mk := hM.1.1
  refine e_al1 432 rfl dL_law_431 ?_
  refine e_al0 433 rfl dL_law_432 ?_
  refine e_il4 435 rfl dL_law_433 ?_
  refine e_iconst (nI 1) 436 rfl dL_law_435 ic_1 ?_
  first | refine e_iaddN 437 rfl dL_law_436 rfl rfl ?_ | refine e_iadd 437 rfl dL_law_436 ?_
  refine e_ialdLow 438 rfl dL_law_437 hSc rfl (by omega) (by omega) ?_
  refine e_al0 439 rfl dL_law_438 ?_
  refine e_il4 441 rfl dL_law_439 ?_
  refine e_iconst (nI 2) 442 rfl dL_law_441 ic_2 ?_
  first | refine e_iaddN 443 rfl dL_law_442 rfl rfl ?_ | refine e_iadd 443 rfl dL_law_442 ?_
  refine e_ialdLow 444 rfl dL_law_443 hSc rfl (by omega) (by omega) ?_
  refine e_invV0 [_, _] 447 rfl dL_law_444 k_L_53 mo_X9_cost ⟨by decide, by decide⟩ ⟨rfl, rfl⟩ rfl rfl (by assumption) (Nat.le_of_ble_eq_true rfl) ?_
  refine d_cost hW hD (fun μ1 hF1 hD1 => ?_)
  have hM1 := h.mid hF1
  have mk1 := hM1.1.1
  refine e_al2 448 rfl dL_law_447 ?_
  refine e_al0 449 rfl dL_law_448 ?_
  refine e_il4 451 rfl dL_law_449 ?_
  refine e_iconst (nI 1) 452 rfl dL_law_451 ic_1 ?_
  first | refine e_iaddN 453 rfl dL_law_452 rfl rfl ?_ | refine e_iadd 453 rfl dL_law_452 ?_
  refine e_ialdLow 454 rfl dL_law_453 hSc rfl (by omega) (by omega) ?_
  refine e_al0 455 rfl dL_law_454 ?_
  refine e_il4 457 rfl dL_law_455 ?_
  refine e_iconst (nI 2) 458 rfl dL_law_457 ic_2 ?_
  first | refine e_iaddN 459 rfl dL_law_458 rfl rfl ?_ | refine e_iadd 459 rfl dL_law_458 ?_
  refine e_ialdLow 460 rfl dL_law_459 hSc rfl (by omega) (by omega) ?_
  refine e_invV0 [_, _] 463 rfl dL_law_460 k_L_56 mo_X10_cost ⟨by decide, by decide⟩ ⟨rfl, rfl⟩ rfl rfl (by assumption) (Nat.le_of_ble_eq_true rfl) ?_
  refine m_cost hW hM1 (fun μ2 hF2 hM2 => ?_)
  refine e_cmp_eq 808 466 (by decide) rfl dL_law_463 (fun _ => ?_) (fun q => absurd rfl q)
  exact hN _ μ2 (h.step hW hF1 hD1 hF2 hM2)
theorem law_kind (hSc : ∀ U : State, xP E U → va_T .int b L (fun j => .int (xs j)) (aE E) U (xH E)) (hL : L ≤ 3072) (hiL : i + 6 ≤ L) (h : LwS d S μ) (hN : ∀ S' μ', LwS d S' μ' → Ev E M_law kc ks 808 (lwL b d i l5 l6) [] μ' K) : Ev E M_law kc ks 468 (lwL b d i l5 l6) [] μ K := by
  have hW := h.1
  have hD := h.2.1
  have hM := h.2.2.1
  have gk := hD.1.1.1
  have mk := hM.1.1
  refine e_al1 469 rfl dL_law_468 ?_
  refine e_al0 470 rfl dL_law_469 ?_
  refine e_il4 472 rfl dL_law_470 ?_
  refine e_iconst (nI 1) 473 rfl dL_law_472 ic_1 ?_
  first | refine e_iaddN 474 rfl dL_law_473 rfl rfl ?_ | refine e_iadd 474 rfl dL_law_473 ?_
  refine e_ialdLow 475 rfl dL_law_474 hSc rfl (by omega) (by omega) ?_
  refine e_al0 476 rfl dL_law_475 ?_
  refine e_il4 478 rfl dL_law_476 ?_
  refine e_iconst (nI 2) 479 rfl dL_law_478 ic_2 ?_
  first | refine e_iaddN 480 rfl dL_law_479 rfl rfl ?_ | refine e_iadd 480 rfl dL_law_479 ?_
  refine e_ialdLow 481 rfl dL_law_480 hSc rfl (by omega) (by omega) ?_
  refine e_al0 482 rfl dL_law_481 ?_
  refine e_il4 484 rfl dL_law_482 ?_
  refine e_iconst (nI 3) 485 rfl dL_law_484 ic_3 ?_
  first | refine e_iaddN 486 rfl dL_law_485 rfl rfl ?_ | refine e_iadd 486 rfl dL_law_485 ?_
  refine e_ialdLow 487 rfl dL_law_486 hSc rfl (by omega) (by omega) ?_
  refine e_invV0 [_, _, _] 490 rfl dL_law_487 k_L_57 mo_X9_kind ⟨by decide, by decide⟩ ⟨rfl, rfl⟩ rfl rfl (by assumption) (Nat.le_of_ble_eq_true rfl) ?_
  refine d_kind hW hD (fun μ1 hF1 hD1 => ?_)
  have hM1 := h.mid hF1
  have mk1 := hM1.1.1
  refine e_al2 491 rfl dL_law_490 ?_
  refine e_al0 492 rfl dL_law_491 ?_
  refine e_il4 494 rfl dL_law_492 ?_
  refine e_iconst (nI 1) 495 rfl dL_law_494 ic_1 ?_
  first | refine e_iaddN 496 rfl dL_law_495 rfl rfl ?_ | refine e_iadd 496 rfl dL_law_495 ?_
  refine e_ialdLow 497 rfl dL_law_496 hSc rfl (by omega) (by omega) ?_
  refine e_al0 498 rfl dL_law_497 ?_
  refine e_il4 500 rfl dL_law_498 ?_
  refine e_iconst (nI 2) 501 rfl dL_law_500 ic_2 ?_
  first | refine e_iaddN 502 rfl dL_law_501 rfl rfl ?_ | refine e_iadd 502 rfl dL_law_501 ?_
  refine e_ialdLow 503 rfl dL_law_502 hSc rfl (by omega) (by omega) ?_
  refine e_al0 504 rfl dL_law_503 ?_
  refine e_il4 506 rfl dL_law_504 ?_
  refine e_iconst (nI 3) 507 rfl dL_law_506 ic_3 ?_
  first | refine e_iaddN 508 rfl dL_law_507 rfl rfl ?_ | refine e_iadd 508 rfl dL_law_507 ?_
  refine e_ialdLow 509 rfl dL_law_508 hSc rfl (by omega) (by omega) ?_
  refine e_invV0 [_, _, _] 512 rfl dL_law_509 k_L_60 mo_X10_kind ⟨by decide, by decide⟩ ⟨rfl, rfl⟩ rfl rfl (by assumption) (Nat.le_of_ble_eq_true rfl) ?_
  refine m_kind hW hM1 (fun μ2 hF2 hM2 => ?_)
  refine e_cmp_eq 808 515 (by decide) rfl dL_law_512 (fun _ => ?_) (fun q => absurd rfl q)
  exact hN _ μ2 (h.step hW hF1 hD1 hF2 hM2)
theorem law_order (hSc : ∀ U : State, xP E U → va_T .int b L (fun j => .int (xs j)) (aE E) U (xH E)) (hL : L ≤ 3072) (hiL : i + 6 ≤ L) (h : LwS d S μ) (hN : ∀ S' μ', LwS d S' μ' → Ev E M_law kc ks 808 (lwL b d i l5 l6) [] μ' K) : Ev E M_law kc ks 585 (lwL b d i l5 l6) [] μ K := by
  have hW := h.1
  have hD := h.2.1
  have hM := h.2.2.1
  have gk := hD.1.1.1
  have mk := hM.1.1
  refine e_al1 586 rfl dL_law_585 ?_
  refine e_al0 587 rfl dL_law_586 ?_
  refine e_il4 589 rfl dL_law_587 ?_
  refine e_iconst (nI 1) 590 rfl dL_law_589 ic_1 ?_
  first | refine e_iaddN 591 rfl dL_law_590 rfl rfl ?_ | refine e_iadd 591 rfl dL_law_590 ?_
  refine e_ialdLow 592 rfl dL_law_591 hSc rfl (by omega) (by omega) ?_
  refine e_invV0 [_] 595 rfl dL_law_592 k_L_71 mo_X9_order ⟨by decide, by decide⟩ ⟨rfl, rfl⟩ rfl rfl (by assumption) (Nat.le_of_ble_eq_true rfl) ?_
  refine d_order hW hD (fun μ1 hF1 hD1 => ?_)
  have hM1 := h.mid hF1
  have mk1 := hM1.1.1
  refine e_al2 596 rfl dL_law_595 ?_
  refine e_al0 597 rfl dL_law_596 ?_
  refine e_il4 599 rfl dL_law_597 ?_
  refine e_iconst (nI 1) 600 rfl dL_law_599 ic_1 ?_
  first | refine e_iaddN 601 rfl dL_law_600 rfl rfl ?_ | refine e_iadd 601 rfl dL_law_600 ?_
  refine e_ialdLow 602 rfl dL_law_601 hSc rfl (by omega) (by omega) ?_
  refine e_invV0 [_] 605 rfl dL_law_602 k_L_74 mo_X10_order ⟨by decide, by decide⟩ ⟨rfl, rfl⟩ rfl rfl (by assumption) (Nat.le_of_ble_eq_true rfl) ?_
  refine m_order hW hM1 (fun μ2 hF2 hM2 => ?_)
  refine e_cmp_eq 808 608 (by decide) rfl dL_law_605 (fun _ => ?_) (fun q => absurd rfl q)
  exact hN _ μ2 (h.step hW hF1 hD1 hF2 hM2)
theorem law_sign (hSc : ∀ U : State, xP E U → va_T .int b L (fun j => .int (xs j)) (aE E) U (xH E)) (hL : L ≤ 3072) (hiL : i + 6 ≤ L) (h : LwS d S μ) (hN : ∀ S' μ', LwS d S' μ' → Ev E M_law kc ks 808 (lwL b d i l5 l6) [] μ' K) : Ev E M_law kc ks 610 (lwL b d i l5 l6) [] μ K := by
  have hW := h.1
  have hD := h.2.1
  have hM := h.2.2.1
  have gk := hD.1.1.1
  have mk := hM.1.1
  refine e_al1 611 rfl dL_law_610 ?_
  refine e_al0 612 rfl dL_law_611 ?_
  refine e_il4 614 rfl dL_law_612 ?_
  refine e_iconst (nI 1) 615 rfl dL_law_614 ic_1 ?_
  first | refine e_iaddN 616 rfl dL_law_615 rfl rfl ?_ | refine e_iadd 616 rfl dL_law_615 ?_
  refine e_ialdLow 617 rfl dL_law_616 hSc rfl (by omega) (by omega) ?_
  refine e_al0 618 rfl dL_law_617 ?_
  refine e_il4 620 rfl dL_law_618 ?_
  refine e_iconst (nI 2) 621 rfl dL_law_620 ic_2 ?_
  first | refine e_iaddN 622 rfl dL_law_621 rfl rfl ?_ | refine e_iadd 622 rfl dL_law_621 ?_
  refine e_ialdLow 623 rfl dL_law_622 hSc rfl (by omega) (by omega) ?_
  refine e_al0 624 rfl dL_law_623 ?_
  refine e_il4 626 rfl dL_law_624 ?_
  refine e_iconst (nI 3) 627 rfl dL_law_626 ic_3 ?_
  first | refine e_iaddN 628 rfl dL_law_627 rfl rfl ?_ | refine e_iadd 628 rfl dL_law_627 ?_
  refine e_ialdLow 629 rfl dL_law_628 hSc rfl (by omega) (by omega) ?_
  refine e_invV0 [_, _, _] 632 rfl dL_law_629 k_L_75 mo_X9_sign ⟨by decide, by decide⟩ ⟨rfl, rfl⟩ rfl rfl (by assumption) (Nat.le_of_ble_eq_true rfl) ?_
  refine d_sign hW hD (fun μ1 hF1 hD1 => ?_)
  have hM1 := h.mid hF1
  have mk1 := hM1.1.1
  refine e_al2 633 rfl dL_law_632 ?_
  refine e_al0 634 rfl dL_law_633 ?_
  refine e_il4 636 rfl dL_law_634 ?_
  refine e_iconst (nI 1) 637 rfl dL_law_636 ic_1 ?_
  first | refine e_iaddN 638 rfl dL_law_637 rfl rfl ?_ | refine e_iadd 638 rfl dL_law_637 ?_
  refine e_ialdLow 639 rfl dL_law_638 hSc rfl (by omega) (by omega) ?_
  refine e_al0 640 rfl dL_law_639 ?_
  refine e_il4 642 rfl dL_law_640 ?_
  refine e_iconst (nI 2) 643 rfl dL_law_642 ic_2 ?_
  first | refine e_iaddN 644 rfl dL_law_643 rfl rfl ?_ | refine e_iadd 644 rfl dL_law_643 ?_
  refine e_ialdLow 645 rfl dL_law_644 hSc rfl (by omega) (by omega) ?_
  refine e_al0 646 rfl dL_law_645 ?_
  refine e_il4 648 rfl dL_law_646 ?_
  refine e_iconst (nI 3) 649 rfl dL_law_648 ic_3 ?_
  first | refine e_iaddN 650 rfl dL_law_649 rfl rfl ?_ | refine e_iadd 650 rfl dL_law_649 ?_
  refine e_ialdLow 651 rfl dL_law_650 hSc rfl (by omega) (by omega) ?_
  refine e_invV0 [_, _, _] 654 rfl dL_law_651 k_L_78 mo_X10_sign ⟨by decide, by decide⟩ ⟨rfl, rfl⟩ rfl rfl (by assumption) (Nat.le_of_ble_eq_true rfl) ?_
  refine m_sign hW hM1 (fun μ2 hF2 hM2 => ?_)
  refine e_cmp_eq 808 657 (by decide) rfl dL_law_654 (fun _ => ?_) (fun q => absurd rfl q)
  exact hN _ μ2 (h.step hW hF1 hD1 hF2 hM2)
theorem law_agree (hSc : ∀ U : State, xP E U → va_T .int b L (fun j => .int (xs j)) (aE E) U (xH E)) (hL : L ≤ 3072) (hiL : i + 6 ≤ L) (h : LwS d S μ) (hN : ∀ S' μ', LwS d S' μ' → Ev E M_law kc ks 808 (lwL b d i l5 l6) [] μ' K) : Ev E M_law kc ks 659 (lwL b d i l5 l6) [] μ K := by
  have hW := h.1
  have hD := h.2.1
  have hM := h.2.2.1
  have gk := hD.1.1.1
  have mk := hM.1.1
  refine e_al1 660 rfl dL_law_659 ?_
  refine e_al0 661 rfl dL_law_660 ?_
  refine e_il4 663 rfl dL_law_661 ?_
  refine e_iconst (nI 1) 664 rfl dL_law_663 ic_1 ?_
  first | refine e_iaddN 665 rfl dL_law_664 rfl rfl ?_ | refine e_iadd 665 rfl dL_law_664 ?_
  refine e_ialdLow 666 rfl dL_law_665 hSc rfl (by omega) (by omega) ?_
  refine e_al0 667 rfl dL_law_666 ?_
  refine e_il4 669 rfl dL_law_667 ?_
  refine e_iconst (nI 2) 670 rfl dL_law_669 ic_2 ?_
  first | refine e_iaddN 671 rfl dL_law_670 rfl rfl ?_ | refine e_iadd 671 rfl dL_law_670 ?_
  refine e_ialdLow 672 rfl dL_law_671 hSc rfl (by omega) (by omega) ?_
  refine e_invV0 [_, _] 675 rfl dL_law_672 k_L_79 mo_X9_agree ⟨by decide, by decide⟩ ⟨rfl, rfl⟩ rfl rfl (by assumption) (Nat.le_of_ble_eq_true rfl) ?_
  refine d_agree hW hD (fun μ1 hF1 hD1 => ?_)
  have hM1 := h.mid hF1
  have mk1 := hM1.1.1
  refine e_al2 676 rfl dL_law_675 ?_
  refine e_al0 677 rfl dL_law_676 ?_
  refine e_il4 679 rfl dL_law_677 ?_
  refine e_iconst (nI 1) 680 rfl dL_law_679 ic_1 ?_
  first | refine e_iaddN 681 rfl dL_law_680 rfl rfl ?_ | refine e_iadd 681 rfl dL_law_680 ?_
  refine e_ialdLow 682 rfl dL_law_681 hSc rfl (by omega) (by omega) ?_
  refine e_al0 683 rfl dL_law_682 ?_
  refine e_il4 685 rfl dL_law_683 ?_
  refine e_iconst (nI 2) 686 rfl dL_law_685 ic_2 ?_
  first | refine e_iaddN 687 rfl dL_law_686 rfl rfl ?_ | refine e_iadd 687 rfl dL_law_686 ?_
  refine e_ialdLow 688 rfl dL_law_687 hSc rfl (by omega) (by omega) ?_
  refine e_invV0 [_, _] 691 rfl dL_law_688 k_L_82 mo_X10_agree ⟨by decide, by decide⟩ ⟨rfl, rfl⟩ rfl rfl (by assumption) (Nat.le_of_ble_eq_true rfl) ?_
  refine m_agree hW hM1 (fun μ2 hF2 hM2 => ?_)
  refine e_cmp_eq 808 694 (by decide) rfl dL_law_691 (fun _ => ?_) (fun q => absurd rfl q)
  exact hN _ μ2 (h.step hW hF1 hD1 hF2 hM2)
theorem law_father (hSc : ∀ U : State, xP E U → va_T .int b L (fun j => .int (xs j)) (aE E) U (xH E)) (hL : L ≤ 3072) (hiL : i + 6 ≤ L) (h : LwS d S μ) (hN : ∀ S' μ', LwS d S' μ' → Ev E M_law kc ks 808 (lwL b d i l5 l6) [] μ' K) : Ev E M_law kc ks 696 (lwL b d i l5 l6) [] μ K := by
  have hW := h.1
  have hD := h.2.1
  have hM := h.2.2.1
  have gk := hD.1.1.1
  have mk := hM.1.1
  refine e_al1 697 rfl dL_law_696 ?_
  refine e_al0 698 rfl dL_law_697 ?_
  refine e_il4 700 rfl dL_law_698 ?_
  refine e_iconst (nI 1) 701 rfl dL_law_700 ic_1 ?_
  first | refine e_iaddN 702 rfl dL_law_701 rfl rfl ?_ | refine e_iadd 702 rfl dL_law_701 ?_
  refine e_ialdLow 703 rfl dL_law_702 hSc rfl (by omega) (by omega) ?_
  refine e_al0 704 rfl dL_law_703 ?_
  refine e_il4 706 rfl dL_law_704 ?_
  refine e_iconst (nI 2) 707 rfl dL_law_706 ic_2 ?_
  first | refine e_iaddN 708 rfl dL_law_707 rfl rfl ?_ | refine e_iadd 708 rfl dL_law_707 ?_
  refine e_ialdLow 709 rfl dL_law_708 hSc rfl (by omega) (by omega) ?_
  refine e_invV0 [_, _] 712 rfl dL_law_709 k_L_83 mo_X9_father ⟨by decide, by decide⟩ ⟨rfl, rfl⟩ rfl rfl (by assumption) (Nat.le_of_ble_eq_true rfl) ?_
  refine d_father hW hD (fun μ1 hF1 hD1 => ?_)
  have hM1 := h.mid hF1
  have mk1 := hM1.1.1
  refine e_al2 713 rfl dL_law_712 ?_
  refine e_al0 714 rfl dL_law_713 ?_
  refine e_il4 716 rfl dL_law_714 ?_
  refine e_iconst (nI 1) 717 rfl dL_law_716 ic_1 ?_
  first | refine e_iaddN 718 rfl dL_law_717 rfl rfl ?_ | refine e_iadd 718 rfl dL_law_717 ?_
  refine e_ialdLow 719 rfl dL_law_718 hSc rfl (by omega) (by omega) ?_
  refine e_al0 720 rfl dL_law_719 ?_
  refine e_il4 722 rfl dL_law_720 ?_
  refine e_iconst (nI 2) 723 rfl dL_law_722 ic_2 ?_
  first | refine e_iaddN 724 rfl dL_law_723 rfl rfl ?_ | refine e_iadd 724 rfl dL_law_723 ?_
  refine e_ialdLow 725 rfl dL_law_724 hSc rfl (by omega) (by omega) ?_
  refine e_invV0 [_, _] 728 rfl dL_law_725 k_L_86 mo_X10_father ⟨by decide, by decide⟩ ⟨rfl, rfl⟩ rfl rfl (by assumption) (Nat.le_of_ble_eq_true rfl) ?_
  refine m_father hW hM1 (fun μ2 hF2 hM2 => ?_)
  refine e_cmp_eq 808 731 (by decide) rfl dL_law_728 (fun _ => ?_) (fun q => absurd rfl q)
  exact hN _ μ2 (h.step hW hF1 hD1 hF2 hM2)
theorem law_table (hSc : ∀ U : State, xP E U → va_T .int b L (fun j => .int (xs j)) (aE E) U (xH E)) (hL : L ≤ 3072) (hiL : i + 6 ≤ L) (h : LwS d S μ) (hN : ∀ S' μ', LwS d S' μ' → Ev E M_law kc ks 808 (lwL b d i l5 l6) [] μ' K) : Ev E M_law kc ks 733 (lwL b d i l5 l6) [] μ K := by
  have hW := h.1
  have hD := h.2.1
  have hM := h.2.2.1
  have gk := hD.1.1.1
  have mk := hM.1.1
  refine e_al1 734 rfl dL_law_733 ?_
  refine e_al0 735 rfl dL_law_734 ?_
  refine e_il4 737 rfl dL_law_735 ?_
  refine e_iconst (nI 1) 738 rfl dL_law_737 ic_1 ?_
  first | refine e_iaddN 739 rfl dL_law_738 rfl rfl ?_ | refine e_iadd 739 rfl dL_law_738 ?_
  refine e_ialdLow 740 rfl dL_law_739 hSc rfl (by omega) (by omega) ?_
  refine e_al0 741 rfl dL_law_740 ?_
  refine e_il4 743 rfl dL_law_741 ?_
  refine e_iconst (nI 2) 744 rfl dL_law_743 ic_2 ?_
  first | refine e_iaddN 745 rfl dL_law_744 rfl rfl ?_ | refine e_iadd 745 rfl dL_law_744 ?_
  refine e_ialdLow 746 rfl dL_law_745 hSc rfl (by omega) (by omega) ?_
  refine e_invV0 [_, _] 749 rfl dL_law_746 k_L_87 mo_X9_table ⟨by decide, by decide⟩ ⟨rfl, rfl⟩ rfl rfl (by assumption) (Nat.le_of_ble_eq_true rfl) ?_
  refine d_table hW hD (fun μ1 hF1 hD1 => ?_)
  have hM1 := h.mid hF1
  have mk1 := hM1.1.1
  refine e_al2 750 rfl dL_law_749 ?_
  refine e_al0 751 rfl dL_law_750 ?_
  refine e_il4 753 rfl dL_law_751 ?_
  refine e_iconst (nI 1) 754 rfl dL_law_753 ic_1 ?_
  first | refine e_iaddN 755 rfl dL_law_754 rfl rfl ?_ | refine e_iadd 755 rfl dL_law_754 ?_
  refine e_ialdLow 756 rfl dL_law_755 hSc rfl (by omega) (by omega) ?_
  refine e_al0 757 rfl dL_law_756 ?_
  refine e_il4 759 rfl dL_law_757 ?_
  refine e_iconst (nI 2) 760 rfl dL_law_759 ic_2 ?_
  first | refine e_iaddN 761 rfl dL_law_760 rfl rfl ?_ | refine e_iadd 761 rfl dL_law_760 ?_
  refine e_ialdLow 762 rfl dL_law_761 hSc rfl (by omega) (by omega) ?_
  refine e_invV0 [_, _] 765 rfl dL_law_762 k_L_91 mo_X10_table ⟨by decide, by decide⟩ ⟨rfl, rfl⟩ rfl rfl (by assumption) (Nat.le_of_ble_eq_true rfl) ?_
  refine m_table hW hM1 (fun μ2 hF2 hM2 => ?_)
  refine e_cmp_eq 808 768 (by decide) rfl dL_law_765 (fun _ => ?_) (fun q => absurd rfl q)
  exact hN _ μ2 (h.step (wf_table hW) hF1 hD1 hF2 hM2)
theorem law_fallen (hSc : ∀ U : State, xP E U → va_T .int b L (fun j => .int (xs j)) (aE E) U (xH E)) (hL : L ≤ 3072) (hiL : i + 6 ≤ L) (h : LwS d S μ) (hN : ∀ S' μ', LwS d S' μ' → Ev E M_law kc ks 808 (lwL b d i l5 l6) [] μ' K) : Ev E M_law kc ks 770 (lwL b d i l5 l6) [] μ K := by
  have hW := h.1
  have hD := h.2.1
  have hM := h.2.2.1
  have gk := hD.1.1.1
  have mk := hM.1.1
  refine e_al1 771 rfl dL_law_770 ?_
  refine e_invV0 [] 774 rfl dL_law_771 k_L_92 mo_X9_fallen ⟨by decide, by decide⟩ ⟨rfl, rfl⟩ rfl rfl (by assumption) (Nat.le_of_ble_eq_true rfl) ?_
  refine d_fallen hW hD (fun μ1 hF1 hD1 => ?_)
  have hM1 := h.mid hF1
  have mk1 := hM1.1.1
  refine e_al2 775 rfl dL_law_774 ?_
  refine e_invV0 [] 778 rfl dL_law_775 k_L_95 mo_X10_fallen ⟨by decide, by decide⟩ ⟨rfl, rfl⟩ rfl rfl (by assumption) (Nat.le_of_ble_eq_true rfl) ?_
  refine m_fallen hW hM1 (fun μ2 hF2 hM2 => ?_)
  refine e_cmp_eq 808 781 (by decide) rfl dL_law_778 (fun _ => ?_) (fun q => absurd rfl q)
  exact hN _ μ2 (h.step hW hF1 hD1 hF2 hM2)
theorem law_count (hSc : ∀ U : State, xP E U → va_T .int b L (fun j => .int (xs j)) (aE E) U (xH E)) (hL : L ≤ 3072) (hiL : i + 6 ≤ L) (h : LwS d S μ) (hN : ∀ S' μ', LwS d S' μ' → Ev E M_law kc ks 808 (lwL b d i l5 l6) [] μ' K) : Ev E M_law kc ks 783 (lwL b d i l5 l6) [] μ K := by
  have hW := h.1
  have hD := h.2.1
  have hM := h.2.2.1
  have gk := hD.1.1.1
  have mk := hM.1.1
  refine e_al1 784 rfl dL_law_783 ?_
  refine e_al0 785 rfl dL_law_784 ?_
  refine e_il4 787 rfl dL_law_785 ?_
  refine e_iconst (nI 1) 788 rfl dL_law_787 ic_1 ?_
  first | refine e_iaddN 789 rfl dL_law_788 rfl rfl ?_ | refine e_iadd 789 rfl dL_law_788 ?_
  refine e_ialdLow 790 rfl dL_law_789 hSc rfl (by omega) (by omega) ?_
  refine e_invV0 [_] 793 rfl dL_law_790 k_L_96 mo_X9_count ⟨by decide, by decide⟩ ⟨rfl, rfl⟩ rfl rfl (by assumption) (Nat.le_of_ble_eq_true rfl) ?_
  refine d_count hW hD ?_
  refine e_al2 794 rfl dL_law_793 ?_
  refine e_al0 795 rfl dL_law_794 ?_
  refine e_il4 797 rfl dL_law_795 ?_
  refine e_iconst (nI 1) 798 rfl dL_law_797 ic_1 ?_
  first | refine e_iaddN 799 rfl dL_law_798 rfl rfl ?_ | refine e_iadd 799 rfl dL_law_798 ?_
  refine e_ialdLow 800 rfl dL_law_799 hSc rfl (by omega) (by omega) ?_
  refine e_invV0 [_] 803 rfl dL_law_800 k_L_99 mo_X10_count ⟨by decide, by decide⟩ ⟨rfl, rfl⟩ rfl rfl (by assumption) (Nat.le_of_ble_eq_true rfl) ?_
  refine m_count hW hM (fun μ2 hF2 hM2 => ?_)
  refine e_cmp_eq 808 806 (by decide) rfl dL_law_803 (fun _ => ?_) (fun q => absurd rfl q)
  exact hN _ μ2 (h.step hW Fx.rf hD hF2 hM2)
end LAWC
