/-! rows of the judgement that read and write cells -/
section CELLS
def CI (ci : Nat) (C : String) (T : u_T) (N : Nat) (ty : Nat → FieldType) : Prop := vwCl[ci]? = some (C, T, N) ∧ (∀ w ∈ u_ws C T N, w ∈ wtab) ∧ (∀ k, k < N → parseFieldDescriptor (T k).2.2.1 = some (ty k)) ∧ (∀ a, a < N → ∀ b, b < N → a ≠ b → (T a).2.1 ≠ (T b).2.1) ∧ (fty ci).length = N ∧ ci < 11
/-- entry idx of the pool of class own is field k (of type t, a reference or not, final or not) of class ci -/
def GF (own : String) (idx ci k : Nat) (t : FieldType) (r fin : Bool) : Prop := ∃ (C : String) (T : u_T) (N : Nat) (ty : Nat → FieldType), CI ci C T N ty ∧ k < N ∧ Cond.fieldLink own idx (T k).1 (T k).2.1 (T k).2.2.1 ∈ wtab ∧ (fty ci)[k]? = some r ∧ ty k = t ∧ (T k).2.2.2 = fin ∧ (T k).1 = C
variable {E : En} {M : Mt} {kc ks pc : Nat} {ls : List (Option Value)} {st : List Value} {μ : Mm} {Q : Option Value → Mm → Prop}
theorem e_getI {idx ci k a : Nat} {t : FieldType} {fin : Bool} (n : Nat) (hp : pc + 3 = n) (hd : decode M.2.1 pc = .ok (.getfield idx, 3)) (hG : GF M.1.cls idx ci k t false fin) (hk : mK μ a = ci + 1) (kk : Ev E M kc ks n ls (.int (mF μ a k) :: st) μ Q) : Ev E M kc ks pc ls (.ref a :: st) μ Q := by
  subst hp
  obtain ⟨C', T, N, ty, ⟨h1, h2, h3, h4, h5, h6⟩, hkN, hl, hr, -⟩ := hG
  refine Ev.step (fun p e s m args below meth c H locs cells slots lsA Z C R hL k2 => ?_) kk
  exact va_get (D := xD E) (ci := ci) C.1 C.2.1 C.2.2.2.2.1 h2 C.2.2.2.1 C.2.2.2.2.2.1.1 (R.at (cell_obj hk h6)) 0 rfl h1 k hkN (C.2.2.2.2.1 _ hl) (fun _ h9 => h9) (by rw [flds_get, hr, Nat.zero_add]; rfl) hd (k2 lsA hL)
theorem e_getR {idx ci k a b : Nat} {t : FieldType} {fin : Bool} (n : Nat) (hp : pc + 3 = n) (hd : decode M.2.1 pc = .ok (.getfield idx, 3)) (hG : GF M.1.cls idx ci k t true fin) (hk : mK μ a = ci + 1) (hv : mP μ a k = some b) (kk : Ev E M kc ks n ls (.ref b :: st) μ Q) : Ev E M kc ks pc ls (.ref a :: st) μ Q := by
  subst hp
  obtain ⟨C', T, N, ty, ⟨h1, h2, h3, h4, h5, h6⟩, hkN, hl, hr, -⟩ := hG
  refine Ev.step (fun p e s m args below meth c H locs cells slots lsA Z C R hL k2 => ?_) kk
  exact va_get (D := xD E) (ci := ci) C.1 C.2.1 C.2.2.2.2.1 h2 C.2.2.2.1 C.2.2.2.2.2.1.1 (R.at (cell_obj hk h6)) 0 rfl h1 k hkN (C.2.2.2.2.1 _ hl) (fun _ h9 => h9) (by rw [flds_get, hr, Nat.zero_add]; simp [hv, va_rf]) hd (k2 lsA hL)
theorem w_put {p : Program} {e : Env} {s : State} {m : MethodId} {args : Array Value} {below : List Frame} {meth : Method} {c : Code} {H : Heap} {locs : List Loc} {cells slots : Nat} {lsA : Array Slot} {Z : State → Prop} {idx ci k a : Nat} {t : FieldType} {r fin : Bool} {v : Value} (C : Cx E M p s m args meth c) (R : Rl E μ H) (hd : decode M.2.1 pc = .ok (.putfield idx, 3)) (hG : GF M.1.cls idx ci k t r fin) (hk : mK μ a = ci + 1) (hn : narrow t v = v) (hfit : fits t v = true) (hfin : fin = true → M.1.name = "<init>" ∧ (vwCl[ci]?).map (fun q => q.1) = some M.1.cls)
    (kk : ∀ (H' : Heap) (i : Nat), H'.size = H.size → (∀ q, q ≠ a → H'[q]? = H[q]?) → va_at (xD E) vwCl (a, .inr (ci, (flds μ a 0 (fty ci)).set k v)) H' → W p (xl E) e M.2.2.2.2 s m args below meth c H' (locs ++ [⟨a, i⟩]) cells slots Z (F0 m (pc + 3) lsA st)) : W p (xl E) e M.2.2.2.2 s m args below meth c H locs cells slots Z (F0 m pc lsA (v :: .ref a :: st)) := by
  obtain ⟨C', T, N, ty, ⟨hc, hin, hty, hnm, h5, h6⟩, hkN, hl, hr, ht, hf, hcl⟩ := hG
  obtain ⟨hx, hb, hml, hown, hts, hS, hmn⟩ := C
  have hK := hS.1
  have hlink := hts _ hl
  have hdd := hty k hkN
  rw [ht] at hdd
  have hap := va_apart (own := M.1.cls) hts hin ty hty hnm hK hc
  obtain ⟨r', h1, cell, q1, q2, q3, q4⟩ := R.at (cell_obj hk h6) 0 _ rfl
  have hr' : r' = (C', T, N) := Option.some.inj (h1.symm.trans hc)
  subst hr'
  obtain ⟨hSl, hfc, kC, hkC, hkind⟩ := hK.1 ci _ hc
  obtain ⟨cf, kf, fi, f, hi, hsl⟩ := hSl k hkN
  have hlay := hts _ (hin _ (u_in_lay hkN))
  have hst := (u_facts hfc hkC (u_lays hts hin hkN) hi).1
  have hlen : k < (flds μ a 0 (fty ci)).length := by rw [flds_len, h5]; exact hkN
  have hend : ∀ H' : Heap, H'[a]? = some (cell.setSlot f.slot v) → va_at (xD E) vwCl (a, .inr (ci, (flds μ a 0 (fty ci)).set k v)) H' := by
    intro H' e1
    rw [hsl] at e1
    exact ⟨_, hc, t_OB.to (V := updV (vp_V (flds μ a 0 (fty ci))) k v) ⟨_, e1, q2, q3, t_set q4 hap hkN v⟩ (fun j _ => vp_updV_set hlen v j)⟩
  unfold u_lay at hlay
  cases fin with
  | false =>
    rw [if_neg (by rw [hf]; decide)] at hlay
    have h6 := u_store hfc hkC hkind hlay hi hdd hn hfit
    exact W.putK hx hb (f := f) ⟨hown, hlink, ⟨_, _, _, hi⟩, hst⟩ (by rw [q2]; exact h6) q1 q3 (by rw [hsl]; exact k2_hasslot (q4 k hkN)) rfl rfl hd fun H' e1 e2 e3 => kk H' _ e2 e3 (hend H' e1)
  | true =>
    rw [if_pos hf] at hlay
    obtain ⟨f1, f2⟩ := hfin rfl
    rw [hc] at f2
    have hdecl : C' = M.1.cls := Option.some.inj f2
    have hcf : m.cls = cf := by
      obtain ⟨_, _, c', _, _, _, -, -, hf', -, -, -, hown2, -⟩ := Cond.laysFinal_spec hlay
      have e1 : c' = cf := by have := hi.symm.trans hf'; simp at this; exact this.1.symm
      rw [hcl, hdecl] at hown2
      rw [← e1]; exact Option.some.inj (hown.symm.trans hown2)
    have h6 := u_fits hfc hkC hkind (Or.inr hlay) hi hdd hn hfit
    exact W.putFinK hx hb hown hlink hi hst hcf (hmn.trans f1) (by rw [q2]; exact h6) q1 q3 (by rw [hsl]; exact k2_hasslot (q4 k hkN)) rfl rfl hd fun H' e1 e2 e3 => kk H' _ e2 e3 (hend H' e1)
theorem Rl.lo {E : En} {μ : Mm} {H : Heap} {a : Nat} {e : va_E} (h : Rl E μ H) (he : cellOf E μ a = some e) : xo E ≤ a := (h.2.2.2.2 a e he).1
/-- a write off a leaves the other cells -/
theorem cell_sF {a b k : Nat} {v : Int32} (h : b ≠ a) : cellOf E (sF μ a k v) b = cellOf E μ b := cell_congr rfl rfl (up2_a h) rfl rfl rfl rfl rfl
theorem cell_sB {a b k : Nat} {v : Int32} (h : b ≠ a) : cellOf E (sB μ a k v) b = cellOf E μ b := cell_congr rfl rfl rfl (up2_a h) rfl rfl rfl rfl
theorem cell_sA {a b k : Nat} {v : Int32} (h : b ≠ a) : cellOf E (sA μ a k v) b = cellOf E μ b := cell_congr rfl rfl rfl rfl (up2_a h) rfl rfl rfl
theorem cell_sJ {a b k : Nat} {v : Int64} (h : b ≠ a) : cellOf E (sJ μ a k v) b = cellOf E μ b := cell_congr rfl rfl rfl rfl rfl (up2_a h) rfl rfl
theorem cell_sP {a b k : Nat} {v : Option Nat} (h : b ≠ a) : cellOf E (sP μ a k v) b = cellOf E μ b := cell_congr rfl rfl rfl rfl rfl rfl (up2_a h) rfl
theorem cell_sO {a b k : Nat} {v : Option Nat} (h : b ≠ a) : cellOf E (sO μ a k v) b = cellOf E μ b := cell_congr rfl rfl rfl rfl rfl rfl rfl (up2_a h)
theorem e_putX {idx ci k a : Nat} {t : FieldType} {fin : Bool} {v : Int32} (n : Nat) (hp : pc + 3 = n) (hd : decode M.2.1 pc = .ok (.putfield idx, 3)) (hG : GF M.1.cls idx ci k t false fin) (hk : mK μ a = ci + 1) (hn : narrow t (.int v) = .int v) (hfit : fits t (.int v) = true) (hfin : fin = true → M.1.name = "<init>" ∧ (vwCl[ci]?).map (fun q => q.1) = some M.1.cls) (kk : Ev E M kc ks n ls st (sF μ a k v) Q) : Ev E M kc ks pc ls (.int v :: .ref a :: st) μ Q := by
  subst hp
  have hci : ci < 11 := by obtain ⟨_, _, _, _, ⟨-, -, -, -, -, h6⟩, -⟩ := hG; exact h6
  have hr : (fty ci)[k]? = some false := by obtain ⟨_, _, _, _, -, -, -, h, -⟩ := hG; exact h
  refine Ev.store (a := a) (μ' := sF μ a k v) (fun p e s m args below meth c H locs cells slots lsA Z C R k2 => ?_) (fun H R => R.lo (cell_obj hk hci)) kk
  refine w_put C R hd hG hk hn hfit hfin (fun H' i e2 e3 hat => k2 H' i ?_)
  refine R.put e2 e3 rfl rfl (fun b hb => cell_sF hb) (cell_obj (c := ci) hk hci) (R.lo (cell_obj hk hci)) ?_
  rw [flds_setF μ a k v _ hr]
  exact hat
theorem e_putI {idx ci k a : Nat} {v : Int32} (n : Nat) (hp : pc + 3 = n) (hd : decode M.2.1 pc = .ok (.putfield idx, 3)) (hG : GF M.1.cls idx ci k .int false false) (hk : mK μ a = ci + 1) (kk : Ev E M kc ks n ls st (sF μ a k v) Q) : Ev E M kc ks pc ls (.int v :: .ref a :: st) μ Q := e_putX n hp hd hG hk rfl rfl (fun h => by cases h) kk
theorem nar_bool {v : Int32} (h : v = 0 ∨ v = 1) : narrow .boolean (.int v) = .int v ∧ fits .boolean (.int v) = true := by rcases h with rfl | rfl <;> exact ⟨by decide, by decide⟩
theorem e_putZ {idx ci k a : Nat} {v : Int32} (n : Nat) (hp : pc + 3 = n) (hd : decode M.2.1 pc = .ok (.putfield idx, 3)) (hG : GF M.1.cls idx ci k .boolean false false) (hk : mK μ a = ci + 1) (hv : v = 0 ∨ v = 1) (kk : Ev E M kc ks n ls st (sF μ a k v) Q) : Ev E M kc ks pc ls (.int v :: .ref a :: st) μ Q := e_putX n hp hd hG hk (nar_bool hv).1 (nar_bool hv).2 (fun h => by cases h) kk
theorem e_putR {idx ci k a b : Nat} {t : FieldType} {fin : Bool} (n : Nat) (hp : pc + 3 = n) (hd : decode M.2.1 pc = .ok (.putfield idx, 3)) (hG : GF M.1.cls idx ci k t true fin) (hk : mK μ a = ci + 1) (hn : narrow t (.ref b) = .ref b) (hfit : fits t (.ref b) = true) (hfin : fin = true → M.1.name = "<init>" ∧ (vwCl[ci]?).map (fun q => q.1) = some M.1.cls) (kk : Ev E M kc ks n ls st (sP μ a k (some b)) Q) : Ev E M kc ks pc ls (.ref b :: .ref a :: st) μ Q := by
  subst hp
  have hci : ci < 11 := by obtain ⟨_, _, _, _, ⟨-, -, -, -, -, h6⟩, -⟩ := hG; exact h6
  have hr : (fty ci)[k]? = some true := by obtain ⟨_, _, _, _, -, -, -, h, -⟩ := hG; exact h
  refine Ev.store (a := a) (μ' := sP μ a k (some b)) (fun p e s m args below meth c H locs cells slots lsA Z C R k2 => ?_) (fun H R => R.lo (cell_obj hk hci)) kk
  refine w_put C R hd hG hk hn hfit hfin (fun H' i e2 e3 hat => k2 H' i ?_)
  refine R.put e2 e3 rfl rfl (fun b hb => cell_sP hb) (cell_obj (c := ci) hk hci) (R.lo (cell_obj hk hci)) ?_
  rw [flds_setP μ a k (some b) _ hr]
  exact hat
/-! arrays -/
theorem e_alen {a j : Nat} (n : Nat) (hp : pc + 1 = n) (hd : decode M.2.1 pc = .ok (.arraylength, 1)) (hk : mK μ a = 12 ∨ mK μ a = 13 ∨ mK μ a = 14) (hv : mL μ a = j) (kk : Ev E M kc ks n ls (.int (nI j) :: st) μ Q) : Ev E M kc ks pc ls (.ref a :: st) μ Q := by
  subst hp; subst hv
  refine Ev.step (fun p e s m args below meth c H locs cells slots lsA Z C R hL k2 => ?_) kk
  have hK := C.2.2.2.2.2.1.1
  rcases hk with hk | hk | hk
  · exact va_alen C.1 C.2.1 hK (R.at (cell_B hk)) 0 0 rfl (ty := .byte) rfl rfl hd (k2 lsA hL)
  · exact va_alen C.1 C.2.1 hK (R.at (cell_A hk)) 0 1 rfl (ty := .int) rfl rfl hd (k2 lsA hL)
  · exact va_alen C.1 C.2.1 hK (R.at (cell_J hk)) 0 2 rfl (ty := .long) rfl rfl hd (k2 lsA hL)
theorem e_iald {a j len : Nat} {i : Int32} (n : Nat) (hp : pc + 1 = n) (hd : decode M.2.1 pc = .ok (.iaload, 1)) (hk : mK μ a = 13) (hL : mL μ a = len) (hi : i = nI j) (hj : j < len) (hs : len < 2 ^ 31) (kk : Ev E M kc ks n ls (.int (mA μ a j) :: st) μ Q) : Ev E M kc ks pc ls (.int i :: .ref a :: st) μ Q := by
  subst hp; subst hi; subst hL
  refine Ev.step (fun p e s m args below meth c H locs cells slots lsA Z C R hL k2 => ?_) kk
  have k3 := k2 lsA hL
  refine va_iald C.1 C.2.1 C.2.2.2.2.2.1.1 (R.at (cell_A hk)) 0 1 rfl rfl (vp_in_nI hj hs) hd ?_
  rw [nI_clamp (by omega)]
  exact k3
theorem e_bald {a j len : Nat} {i : Int32} (n : Nat) (hp : pc + 1 = n) (hd : decode M.2.1 pc = .ok (.baload, 1)) (hk : mK μ a = 12) (hL : mL μ a = len) (hi : i = nI j) (hj : j < len) (hs : len < 2 ^ 31) (kk : Ev E M kc ks n ls (.int (mB μ a j) :: st) μ Q) : Ev E M kc ks pc ls (.int i :: .ref a :: st) μ Q := by
  subst hp; subst hi; subst hL
  refine Ev.step (fun p e s m args below meth c H locs cells slots lsA Z C R hL k2 => ?_) kk
  have k3 := k2 lsA hL
  refine va_bald C.1 C.2.1 C.2.2.2.2.2.1.1 (R.at (cell_B hk)) 0 0 rfl rfl (vp_in_nI hj hs) hd ?_
  rw [nI_clamp (by omega)]
  exact k3
theorem e_zald {a j len : Nat} {i : Int32} (n : Nat) (hp : pc + 1 = n) (hd : decode M.2.1 pc = .ok (.baload, 1)) (hk : mK μ a = 15) (hL : mL μ a = len) (hi : i = nI j) (hj : j < len) (hs : len < 2 ^ 31) (kk : Ev E M kc ks n ls (.int (mB μ a j) :: st) μ Q) : Ev E M kc ks pc ls (.int i :: .ref a :: st) μ Q := by
  subst hp; subst hi; subst hL
  refine Ev.step (fun p e s m args below meth c H locs cells slots lsA Z C R hL k2 => ?_) kk
  have k3 := k2 lsA hL
  refine va_zald C.1 C.2.1 C.2.2.2.2.2.1.1 (R.at (cell_Z hk)) 0 3 rfl rfl (vp_in_nI hj hs) hd ?_
  rw [nI_clamp (by omega)]
  exact k3
theorem e_lald {a j len : Nat} {i : Int32} (n : Nat) (hp : pc + 1 = n) (hd : decode M.2.1 pc = .ok (.laload, 1)) (hk : mK μ a = 14) (hL : mL μ a = len) (hi : i = nI j) (hj : j < len) (hs : len < 2 ^ 31) (kk : Ev E M kc ks n ls (.long (mJ μ a j) :: st) μ Q) : Ev E M kc ks pc ls (.int i :: .ref a :: st) μ Q := by
  subst hp; subst hi; subst hL
  refine Ev.step (fun p e s m args below meth c H locs cells slots lsA Z C R hL k2 => ?_) kk
  have k3 := k2 lsA hL
  refine va_lald C.1 C.2.1 C.2.2.2.2.2.1.1 (R.at (cell_J hk)) 0 2 rfl rfl (vp_in_nI hj hs) hd ?_
  rw [nI_clamp (by omega)]
  exact k3
end CELLS
