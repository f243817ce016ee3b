/-! the desk's constructor -/
section CTOR4
variable {E : En} {μ : Mm} {K : Option Value → Mm → Prop}
/-- what the reader's constructor does -/
def IRd (E : En) : Prop := ∀ {K : Option Value → Mm → Prop} {ν μ0 : Mm} {t : Nat}, Ob ν μ0 t 4 [] (fun _ => none) (fun _ => 0) → (∀ μ', mN μ' = t + 31 → Rg μ' t → (∃ ra sa, Rp μ' t ra sa) → (∀ q, q < t → same q ν μ') → K none μ') → Cl E M_X3_init [.ref t] μ0 K
theorem TI.sm {μ' : Mm} {d : Nat} {l : List Nat} (h : TI μ d l) (s : ∀ q, d + 1 ≤ q → q < d + 3 → same q μ μ') : TI μ' d l := by
  have a := s (d + 1) (by omega) (by omega)
  have b : same (d + 1 + 1) μ μ' := s (d + 2) (by omega) (by omega)
  unfold TI Tp Tc
  rw [a.1, a.2.2.2.2.2.2.1, b.1, b.2.1, a.2.2.1, b.2.2.2.1]
  exact h
theorem XI.sm {μ' : Mm} {d g : Nat} {p : Int32} (h : XI μ d g p) (s : same (d + 4) μ μ') : XI μ' d g p := by
  unfold XI; rw [s.1, s.2.2.1]; exact h
theorem Sg.sm {μ' : Mm} {a : Nat} (h : Sg μ a) (s : ∀ q, a ≤ q → q < a + 9 → same q μ μ') : Sg μ' a := by
  unfold Sg
  rw [(s a (by omega) (by omega)).1, (s a (by omega) (by omega)).2.2.2.2.2.2.1, (s (a + 1) (by omega) (by omega)).1, (s (a + 1) (by omega) (by omega)).2.1, (s (a + 2) (by omega) (by omega)).1, (s (a + 2) (by omega) (by omega)).2.1, (s (a + 3) (by omega) (by omega)).1, (s (a + 3) (by omega) (by omega)).2.1, (s (a + 4) (by omega) (by omega)).1, (s (a + 4) (by omega) (by omega)).2.1, (s (a + 5) (by omega) (by omega)).1, (s (a + 5) (by omega) (by omega)).2.1, (s (a + 6) (by omega) (by omega)).1, (s (a + 6) (by omega) (by omega)).2.1, (s (a + 7) (by omega) (by omega)).1, (s (a + 7) (by omega) (by omega)).2.1, (s (a + 8) (by omega) (by omega)).1, (s (a + 8) (by omega) (by omega)).2.1]
  exact h
theorem ShM.sm0 {μ' : Mm} {a : Nat} (h : ShM μ a none) (s : ∀ q, a ≤ q → q < a + 9 → same q μ μ') : ShM μ' a none := by
  obtain ⟨⟨h1, h2, h3, h4, h5, h6⟩, h7, h8⟩ := h
  have fm := (s a (by omega) (by omega)).2.2.1
  refine ⟨⟨h1.sm s, ⟨by rw [fm]; exact h2.1, h2.2.1, fun i x hi => by simp [slO] at hi⟩, by rw [fm]; exact h3, h4, ⟨fun i hi => by simp [slO] at hi, ?_⟩, ?_⟩, ?_, ?_⟩
  · rw [(s (a + 5) (by omega) (by omega)).2.2.2.2.1]; exact h5.2
  · unfold Se; rw [fm, (s (a + 8) (by omega) (by omega)).2.2.2.1]; exact h6
  · unfold Sl; rw [fm, (s (a + 6) (by omega) (by omega)).2.2.2.2.1]; exact h7
  · unfold Sl; rw [fm, (s (a + 7) (by omega) (by omega)).2.2.2.2.1]; exact h8
theorem Bk.sm {μ' : Mm} {b : Nat} (h : Bk μ b) (s : ∀ q, b ≤ q → q < b + 244 → same q μ μ') : Bk μ' b := by
  have a := s b (by omega) (by omega)
  refine ⟨?_, fun j hj => (h.2 j hj).sm (fun q x y => s q (by omega) (by omega))⟩
  rw [a.1, a.2.2.2.2.2.2.1, (s (b + 1) (by omega) (by omega)).1, (s (b + 1) (by omega) (by omega)).2.1, (s (b + 2) (by omega) (by omega)).1, (s (b + 2) (by omega) (by omega)).2.1, (s (b + 3) (by omega) (by omega)).1, (s (b + 3) (by omega) (by omega)).2.1]
  exact h.1
theorem Bc.sm0 {μ' : Mm} {b : Nat} (h : Bc μ b []) (s : ∀ q, b ≤ q → q < b + 244 → same q μ μ') : Bc μ' b [] := by
  obtain ⟨h1, h2, π, h3, h4, h5⟩ := h
  refine ⟨by rw [(s b (by omega) (by omega)).2.2.1]; exact h1, h2, π, fun i hi => ?_, h4, fun i e he => by simp at he⟩
  rw [(s (b + 1) (by omega) (by omega)).2.2.2.2.2.2.2]; exact h3 i hi
theorem Rg.sm {μ' : Mm} {r : Nat} (h : Rg μ r) (s : ∀ q, r ≤ q → q < r + 31 → same q μ μ') : Rg μ' r := by
  have a := s r (by omega) (by omega)
  obtain ⟨hg, gw⟩ := h
  refine ⟨?_, fun w hw => ?_⟩
  · rw [a.1, a.2.2.2.2.2.2.1, (s (r + 10) (by omega) (by omega)).1, (s (r + 10) (by omega) (by omega)).2.1, (s (r + 19) (by omega) (by omega)).1, (s (r + 19) (by omega) (by omega)).2.1, (s (r + 28) (by omega) (by omega)).1, (s (r + 28) (by omega) (by omega)).2.1, (s (r + 29) (by omega) (by omega)).1, (s (r + 29) (by omega) (by omega)).2.1, (s (r + 30) (by omega) (by omega)).1, (s (r + 30) (by omega) (by omega)).2.1]
    exact hg
  · rw [(s (r + 10) (by omega) (by omega)).2.2.2.2.2.2.2, (s (r + 19) (by omega) (by omega)).2.2.2.2.2.2.2, (s (r + 11 + w) (by omega) (by omega)).1, (s (r + 11 + w) (by omega) (by omega)).2.1, (s (r + 20 + w) (by omega) (by omega)).1, (s (r + 20 + w) (by omega) (by omega)).2.1]
    exact gw w hw
theorem Tt.sm {μ' : Mm} {a : Nat} {tb : Nat → List Nat} (h : Tt μ a tb) (s : ∀ q, a ≤ q → q < a + 3 → same q μ μ') : Tt μ' a tb := by
  unfold Tt; rw [(s (a + 1) (by omega) (by omega)).2.2.2.1, (s (a + 2) (by omega) (by omega)).2.2.2.2.1]; exact h
theorem Tg.sm {μ' : Mm} {a : Nat} (h : Tg μ a) (s : ∀ q, a ≤ q → q < a + 3 → same q μ μ') : Tg μ' a := by
  have b := s a (by omega) (by omega)
  unfold Tg
  rw [b.1, b.2.2.2.2.2.2.1, (s (a + 1) (by omega) (by omega)).1, (s (a + 1) (by omega) (by omega)).2.1, (s (a + 2) (by omega) (by omega)).1, (s (a + 2) (by omega) (by omega)).2.1]
  exact h
theorem Ng.sm {μ' : Mm} {a : Nat} (h : Ng μ a) (s : ∀ q, a ≤ q → q < a + 30 → same q μ μ') : Ng μ' a := by
  have b := s a (by omega) (by omega)
  refine ⟨?_, h.2.1.sm (fun q x y => s q (by omega) (by omega)), fun w hw => ⟨?_, (h.2.2 w hw).2.sm (fun q x y => s q (by omega) (by omega))⟩⟩
  · rw [b.1, b.2.2.2.2.2.2.1, (s (a + 1) (by omega) (by omega)).1, (s (a + 1) (by omega) (by omega)).2.1, (s (a + 2) (by omega) (by omega)).1, (s (a + 2) (by omega) (by omega)).2.1, (s (a + 3) (by omega) (by omega)).1, (s (a + 3) (by omega) (by omega)).2.1]
    exact h.1
  · rw [(s (a + 1) (by omega) (by omega)).2.2.2.2.2.2.2]; exact (h.2.2 w hw).1
theorem Ob.sg {ν : Mm} {t : Nat} {P : Nat → Option Nat} {F : Nat → Int32} (h : Ob ν μ t 5 [(13, 8), (15, 8), (15, 8), (13, 8), (13, 7), (13, 7), (13, 7), (12, 6)] P F) (hP : P 1 = some (t + 1) ∧ P 2 = some (t + 2) ∧ P 3 = some (t + 3) ∧ P 5 = some (t + 4) ∧ P 6 = some (t + 5) ∧ P 7 = some (t + 6) ∧ P 9 = some (t + 7) ∧ P 11 = some (t + 8)) : Sg μ t := by
  obtain ⟨g1, g2, g3, g4, g5, g6⟩ := h
  exact ⟨⟨g2, by rw [g3]; exact hP⟩, (g5 0 _ rfl).1, (g5 0 _ rfl).2.1, (g5 1 _ rfl).1, (g5 1 _ rfl).2.1, (g5 2 _ rfl).1, (g5 2 _ rfl).2.1, (g5 3 _ rfl).1, (g5 3 _ rfl).2.1, (g5 4 _ rfl).1, (g5 4 _ rfl).2.1, (g5 5 _ rfl).1, (g5 5 _ rfl).2.1, (g5 6 _ rfl).1, (g5 6 _ rfl).2.1, (g5 7 _ rfl).1, (g5 7 _ rfl).2.1⟩
theorem Ob.sh0 {ν : Mm} {t : Nat} {P : Nat → Option Nat} {F : Nat → Int32} (h : Ob ν μ t 5 [(13, 8), (15, 8), (15, 8), (13, 8), (13, 7), (13, 7), (13, 7), (12, 6)] P F) (hP : P 1 = some (t + 1) ∧ P 2 = some (t + 2) ∧ P 3 = some (t + 3) ∧ P 5 = some (t + 4) ∧ P 6 = some (t + 5) ∧ P 7 = some (t + 6) ∧ P 9 = some (t + 7) ∧ P 11 = some (t + 8)) (hF : F 0 = nI 0 ∧ F 4 = nI 0 ∧ F 8 = nI 0 ∧ F 10 = nI 0 ∧ F 12 = nI 0) : ShM μ t none := by
  have hs := h.sg hP
  obtain ⟨g1, g2, g3, g4, g5, g6⟩ := h
  have c5 : mA μ (t + 5) = fun _ => 0 := (g5 4 _ rfl).2.2.2.2.1
  refine ⟨⟨hs, ⟨by rw [g4]; exact hF.1, Nat.zero_le _, fun i x hi => by simp [slO] at hi⟩, by rw [g4]; exact hF.2.1, ⟨by decide, fun q hq => by have hq' : (0 : Nat).testBit q = true := hq; rw [Nat.zero_testBit] at hq'; cases hq'⟩, ⟨fun i hi => by simp [slO] at hi, fun c hc => ⟨0, by rw [c5]; rfl, by decide, fun q => ?_⟩⟩, ⟨by rw [g4]; exact hF.2.2.2.2, Nat.zero_le _, Hd.nil, fun c hc => by simp [enO] at hc⟩⟩, ⟨by rw [g4]; exact hF.2.2.1, Nat.zero_le _, Hd.nil, List.nodup_nil, fun k hk => by simp [soO] at hk⟩, ⟨by rw [g4]; exact hF.2.2.2.1, Nat.zero_le _, Hd.nil, List.nodup_nil, fun k hk => by simp [caO] at hk⟩⟩
  rw [Nat.zero_testBit]
  constructor
  · intro h; cases h
  · rintro ⟨x, hx, _⟩; simp [slO] at hx
/-- the desk, while it is made -/
def Dk (ν μ : Mm) (d n : Nat) (P : Nat → Option Nat) (F : Nat → Int32) : Prop := mN μ = n ∧ mK μ d = 10 ∧ mP μ d = P ∧ mF μ d = F ∧ ∀ q, q < d → same q ν μ
def Sm (d n : Nat) (μ μ' : Mm) : Prop := ∀ q, q < n → q ≠ d → same q μ μ'
theorem Sm.trans {d n n' : Nat} {μ' μ'' : Mm} (h : Sm d n μ μ') (g : Sm d n' μ' μ'') (hn : n ≤ n') : Sm d n μ μ'' := fun q a b => (h q a b).trans (g q (by omega) b)
theorem Dk.sF {ν : Mm} {d n : Nat} {P : Nat → Option Nat} {F : Nat → Int32} (h : Dk ν μ d n P F) (f : Nat) (v : Int32) : Dk ν (sF μ d f v) d n P (up1 F f v) ∧ Sm d n μ (sF μ d f v) := by
  obtain ⟨h1, h2, h3, h4, h6⟩ := h
  exact ⟨⟨h1, h2, h3, by rw [← h4]; exact up2_1, fun q hq => (h6 q hq).trans (sF_same (by omega))⟩, fun q _ b => sF_same b⟩
theorem Dk.mkN {ν : Mm} {d n : Nat} {P : Nat → Option Nat} {F : Nat → Int32} (h : Dk ν μ d n P F) (hd : d < n) (k l : Nat) : mK (sN μ k l) d = 10 := by
  rw [(sN_same (by rw [h.1]; omega)).1]; exact h.2.1
theorem Dk.na {ν : Mm} {d n : Nat} {P : Nat → Option Nat} {F : Nat → Int32} (h : Dk ν μ d n P F) (hd : d < n) (k l f : Nat) : Dk ν (sP (sN μ k l) d f (some n)) d (n + 1) (up1 P f (some n)) F ∧ Sm d n μ (sP (sN μ k l) d f (some n)) ∧ cell0 (sP (sN μ k l) d f (some n)) n k l := by
  obtain ⟨h1, h2, h3, h4, h6⟩ := h
  have st := sN_same (μ := μ) (k := k) (l := l) (q := d) (by rw [h1]; omega)
  refine ⟨⟨by show mN μ + 1 = _; rw [h1], st.1.trans h2, ?_, st.2.2.1.trans h4, fun q hq => ((h6 q hq).trans (sN_same (by rw [h1]; omega))).trans (sP_same (by omega))⟩, fun q a b => (sN_same (by rw [h1]; omega)).trans (sP_same b), ?_⟩
  · rw [← h3, ← st.2.2.2.2.2.2.1]; exact up2_1
  · have := sN_cell (μ := μ) (k := k) (l := l)
    rw [h1] at this
    exact this.of (sP_same (by omega))
theorem Dk.sub {ν : Mm} {d n s : Nat} {P : Nat → Option Nat} {F : Nat → Int32} {μ' : Mm} (h : Dk ν μ d n P F) (hd : d < n) (hn : mN μ' = n + s) (hs : ∀ q, q < n → same q μ μ') (f : Nat) : Dk ν (sP μ' d f (some n)) d (n + s) (up1 P f (some n)) F ∧ Sm d n μ (sP μ' d f (some n)) := by
  obtain ⟨h1, h2, h3, h4, h6⟩ := h
  have st := hs d hd
  refine ⟨⟨hn, st.1.trans h2, ?_, st.2.2.1.trans h4, fun q hq => ((h6 q hq).trans (hs q (by omega))).trans (sP_same (by omega))⟩, fun q a b => (hs q a).trans (sP_same b)⟩
  rw [← h3, ← st.2.2.2.2.2.2.1]; exact up2_1
theorem i_desk (IR : IRd E) {ν μ0 : Mm} {d : Nat} (o0 : Dk ν μ0 d (d + 1) (fun _ => none) (fun _ => 0)) (k : ∀ μ', mN μ' = d + 1255 → DI d S0 μ' → (∀ q, q < d → same q ν μ') → K none μ') : Cl E M_X9_init [.ref d] μ0 K := by
  refine Cl.of (nn := 1) pn_X9 (Nat.le_of_ble_eq_true rfl) rfl ?_
  refine e_al0 1 rfl dX9_init_0 ?_
  refine e_obj 4 rfl dX9_init_1 k_X9_3 (Nat.le_of_ble_eq_true rfl) (Nat.le_of_ble_eq_true rfl) ?_
  refine e_al0 5 rfl dX9_init_4 ?_
  refine e_newB 1253 45115 8 rfl dX9_init_5 nc_X9_9 rfl rfl ?_
  refine e_dup 9 rfl dX9_init_8 rfl ?_
  refine e_invINB [] 1252 44715 12 rfl dX9_init_9 k_X9_11 mo_X7_init rm_X9_init_X7_init rfl rfl rfl rfl (Nat.le_of_ble_eq_true rfl) ?_
  refine i_tape Ob.start (fun μa oba => ?_)
  have ha : mN μa = d + 1 + 2 := by rw [oba.1, o0.1]; rfl
  have hsa : ∀ q, q < d + 1 → same q μ0 μa := fun q hq => (sN_same (by rw [o0.1]; omega)).trans (oba.2.2.2.2.2 q (by rw [o0.1]; exact hq))
  rw [o0.1] at oba ⊢
  have gk : mK μa d = 10 := by rw [(hsa d (by omega)).1]; exact o0.2.1
  refine e_putR 15 rfl dX9_init_12 f_X9_12 (by assumption) rfl rfl (fun _ => ⟨rfl, rfl⟩) ?_
  obtain ⟨o1, s1⟩ := o0.sub (by omega) ha hsa 0
  have F1 : TI (sP μa d 0 (some (d + 1))) d [] := TI.sm ⟨⟨oba.2.1, by rw [oba.2.2.1]; rfl, (oba.2.2.2.2.1 0 _ rfl).1, (oba.2.2.2.2.1 0 _ rfl).2.1⟩, by rw [oba.2.2.2.1]; rfl, fun i c hc => by simp at hc, Nat.zero_le _, fun c hc => by simp at hc, fun i _ => ⟨0, by decide, by rw [(oba.2.2.2.2.1 0 _ rfl).2.2.2.1]; rfl⟩⟩ (fun q _ _ => sP_same (by omega))
  generalize sP μa d 0 (some (d + 1)) = μ1 at o1 s1 F1 ⊢
  clear gk hsa ha
  have mk := o1.2.1
  refine e_al0 16 rfl dX9_init_15 ?_
  refine e_bipush (nI 6) 18 rfl dX9_init_16 bc_6 ?_
  refine e_newqB 1251 44709 21 rfl dX9_init_18 (Or.inr (Or.inl ⟨rfl, rfl⟩)) cl_X9_16 rfl (by decide) rfl rfl ?_
  rw [o1.1]
  have gk := o1.mkN (by omega) 17 6
  refine e_putR 24 rfl dX9_init_21 f_X9_18 (by assumption) rfl rfl (fun _ => ⟨rfl, rfl⟩) ?_
  obtain ⟨o2, s2, F2⟩ := o1.na (by omega) 17 6 1
  generalize sP (sN μ1 17 6) d 1 (some (d + 3)) = μ2 at o2 s2 F2 ⊢
  clear gk mk
  refine e_al0 25 rfl dX9_init_24 ?_
  refine e_newB 1250 44704 28 rfl dX9_init_25 nc_X9_22 rfl rfl ?_
  refine e_dup 29 rfl dX9_init_28 rfl ?_
  refine e_invINB [] 1249 44704 32 rfl dX9_init_29 k_X9_24 mo_X5_init rm_X9_init_X5_init rfl rfl rfl rfl (Nat.le_of_ble_eq_true rfl) ?_
  refine i_text Ob.start (fun μa oba => ?_)
  have ha : mN μa = d + 4 + 2 := by rw [oba.1, o2.1]; rfl
  have hsa : ∀ q, q < d + 4 → same q μ2 μa := fun q hq => (sN_same (by rw [o2.1]; omega)).trans (oba.2.2.2.2.2 q (by rw [o2.1]; exact hq))
  rw [o2.1] at oba ⊢
  have gk : mK μa d = 10 := by rw [(hsa d (by omega)).1]; exact o2.2.1
  refine e_putR 35 rfl dX9_init_32 f_X9_25 (by assumption) rfl rfl (fun _ => ⟨rfl, rfl⟩) ?_
  obtain ⟨o3, s3⟩ := o2.sub (by omega) ha hsa 2
  have F3 : XI (sP μa d 2 (some (d + 4))) d 0 (-1) := XI.sm ⟨oba.2.1, by rw [oba.2.2.2.1]; rfl, by rw [oba.2.2.2.1]; rfl⟩ (sP_same (by omega))
  generalize sP μa d 2 (some (d + 4)) = μ3 at o3 s3 F3 ⊢
  clear gk hsa ha
  refine e_al0 36 rfl dX9_init_35 ?_
  refine e_newB 1248 44691 39 rfl dX9_init_36 nc_X9_16 rfl rfl ?_
  refine e_dup 40 rfl dX9_init_39 rfl ?_
  refine e_invINB [] 1240 44632 43 rfl dX9_init_40 k_X9_29 mo_X4_init rm_X9_init_X4_init rfl rfl rfl rfl (Nat.le_of_ble_eq_true rfl) ?_
  refine i_shape Ob.start (fun μa oba => ?_)
  have ha : mN μa = d + 6 + 9 := by rw [oba.1, o3.1]; rfl
  have hsa : ∀ q, q < d + 6 → same q μ3 μa := fun q hq => (sN_same (by rw [o3.1]; omega)).trans (oba.2.2.2.2.2 q (by rw [o3.1]; exact hq))
  rw [o3.1] at oba ⊢
  have gk : mK μa d = 10 := by rw [(hsa d (by omega)).1]; exact o3.2.1
  refine e_putR 46 rfl dX9_init_43 f_X9_30 (by assumption) rfl rfl (fun h => by cases h) ?_
  obtain ⟨o4, s4⟩ := o3.sub (by omega) ha hsa 3
  have F4 : Sg (sP μa d 3 (some (d + 6))) (d + 6) := (oba.sg ⟨rfl, rfl, rfl, rfl, rfl, rfl, rfl, rfl⟩).sm (fun q _ _ => sP_same (by omega))
  generalize sP μa d 3 (some (d + 6)) = μ4 at o4 s4 F4 ⊢
  clear gk hsa ha
  refine e_al0 47 rfl dX9_init_46 ?_
  refine e_newB 1239 44628 50 rfl dX9_init_47 nc_X9_34 rfl rfl ?_
  refine e_dup 51 rfl dX9_init_50 rfl ?_
  refine e_invIB [] 996 40788 54 rfl dX9_init_51 k_X9_36 mo_X0_init rm_X9_init_X0_init rfl rfl rfl rfl (Nat.le_of_ble_eq_true rfl) ?_
  refine i_book Ob.start (fun μa na b1 b2 b3 => ?_)
  have ha : mN μa = d + 15 + 244 := by rw [na, o4.1]
  have hsa : ∀ q, q < d + 15 → same q μ4 μa := fun q hq => (sN_same (by rw [o4.1]; omega)).trans (b3 q (by rw [o4.1]; exact hq))
  rw [o4.1] at b1 b2 ⊢
  have gk : mK μa d = 10 := by rw [(hsa d (by omega)).1]; exact o4.2.1
  refine e_putR 57 rfl dX9_init_54 f_X9_37 (by assumption) rfl rfl (fun _ => ⟨rfl, rfl⟩) ?_
  obtain ⟨o5, s5⟩ := o4.sub (by omega) ha hsa 4
  have F5 : Bk (sP μa d 4 (some (d + 15))) (d + 15) ∧ Bc (sP μa d 4 (some (d + 15))) (d + 15) [] := ⟨b1.sm (fun q _ _ => sP_same (by omega)), b2.sm0 (fun q _ _ => sP_same (by omega))⟩
  generalize sP μa d 4 (some (d + 15)) = μ5 at o5 s5 F5 ⊢
  clear gk hsa ha
  refine e_al0 58 rfl dX9_init_57 ?_
  refine e_newB 995 40784 61 rfl dX9_init_58 nc_X9_41 rfl rfl ?_
  refine e_dup 62 rfl dX9_init_61 rfl ?_
  refine e_invINB [] 993 40743 65 rfl dX9_init_62 k_X9_43 mo_X8_init rm_X9_init_X8_init rfl rfl rfl rfl (Nat.le_of_ble_eq_true rfl) ?_
  refine i_word Ob.start (fun μa oba => ?_)
  have ha : mN μa = d + 259 + 3 := by rw [oba.1, o5.1]; rfl
  have hsa : ∀ q, q < d + 259 → same q μ5 μa := fun q hq => (sN_same (by rw [o5.1]; omega)).trans (oba.2.2.2.2.2 q (by rw [o5.1]; exact hq))
  rw [o5.1] at oba ⊢
  have gk : mK μa d = 10 := by rw [(hsa d (by omega)).1]; exact o5.2.1
  refine e_putR 68 rfl dX9_init_65 f_X9_44 (by assumption) rfl rfl (fun _ => ⟨rfl, rfl⟩) ?_
  obtain ⟨o6, s6⟩ := o5.sub (by omega) ha hsa 5
  have F6 : Wd (sP μa d 5 (some (d + 259))) (d + 259) := (oba.wd rfl rfl).sm (fun q _ _ => sP_same (by omega))
  generalize sP μa d 5 (some (d + 259)) = μ6 at o6 s6 F6 ⊢
  clear gk hsa ha
  have mk := o6.2.1
  refine e_al0 69 rfl dX9_init_68 ?_
  refine e_bipush (nI 30) 71 rfl dX9_init_69 bc_30 ?_
  refine e_newqB 992 40713 74 rfl dX9_init_71 (Or.inl ⟨rfl, rfl⟩) cl_X9_48 rfl (by decide) rfl rfl ?_
  rw [o6.1]
  have gk := o6.mkN (by omega) 16 30
  refine e_putR 77 rfl dX9_init_74 f_X9_50 (by assumption) rfl rfl (fun _ => ⟨rfl, rfl⟩) ?_
  obtain ⟨o7, s7, F7⟩ := o6.na (by omega) 16 30 6
  generalize sP (sN μ6 16 30) d 6 (some (d + 262)) = μ7 at o7 s7 F7 ⊢
  clear gk mk
  have mk := o7.2.1
  refine e_al0 78 rfl dX9_init_77 ?_
  refine e_iconst (nI 0) 79 rfl dX9_init_78 ic_0 ?_
  refine e_putI 82 rfl dX9_init_79 f_X9_54 (by assumption) ?_
  obtain ⟨o8, s8⟩ := o7.sF 7 (nI 0)
  generalize sF μ7 d 7 (nI 0) = μ8 at o8 s8 ⊢
  clear mk
  refine e_al0 83 rfl dX9_init_82 ?_
  refine e_newB 991 40705 86 rfl dX9_init_83 nc_X9_58 rfl rfl ?_
  refine e_dup 87 rfl dX9_init_86 rfl ?_
  refine e_invINB [] 961 27586 90 rfl dX9_init_87 k_X9_60 mo_X3_init rm_X9_init_X3_init rfl rfl rfl rfl (Nat.le_of_ble_eq_true rfl) ?_
  refine IR Ob.start (fun μa na b1 b2 b3 => ?_)
  have ha : mN μa = d + 263 + 31 := by rw [na, o8.1]
  have hsa : ∀ q, q < d + 263 → same q μ8 μa := fun q hq => (sN_same (by rw [o8.1]; omega)).trans (b3 q (by rw [o8.1]; exact hq))
  rw [o8.1] at b1 b2 ⊢
  have gk : mK μa d = 10 := by rw [(hsa d (by omega)).1]; exact o8.2.1
  refine e_putR 93 rfl dX9_init_90 f_X9_61 (by assumption) rfl rfl (fun _ => ⟨rfl, rfl⟩) ?_
  obtain ⟨o9, s9⟩ := o8.sub (by omega) ha hsa 8
  have F9 : Rg (sP μa d 8 (some (d + 263))) (d + 263) ∧ ∃ ra sa, Rp (sP μa d 8 (some (d + 263))) (d + 263) ra sa := ⟨b1.sm (fun q _ _ => sP_same (by omega)), by obtain ⟨ra, sa, h⟩ := b2; refine ⟨ra, sa, ?_⟩; unfold Rp; rw [(sP_same (μ := μa) (a := d) (f := 8) (v := some (d + 263)) (q := d + 263) (by omega)).2.2.2.2.2.2.1]; exact h⟩
  generalize sP μa d 8 (some (d + 263)) = μ9 at o9 s9 F9 ⊢
  clear gk hsa ha
  have mk := o9.2.1
  refine e_al0 94 rfl dX9_init_93 ?_
  refine e_iconst (-1) 95 rfl dX9_init_94 ic_m1 ?_
  refine e_putI 98 rfl dX9_init_95 f_X9_65 (by assumption) ?_
  obtain ⟨o10, s10⟩ := o9.sF 9 (-1)
  generalize sF μ9 d 9 (-1) = μ10 at o10 s10 ⊢
  clear mk
  have mk := o10.2.1
  refine e_al0 99 rfl dX9_init_98 ?_
  refine e_bipush (nI 30) 101 rfl dX9_init_99 bc_30 ?_
  refine e_newaB 960 27556 103 rfl dX9_init_101 (Or.inr (Or.inl ⟨rfl, rfl⟩)) ac_int rfl (by decide) rfl rfl ?_
  rw [o10.1]
  have gk := o10.mkN (by omega) 13 30
  refine e_putR 106 rfl dX9_init_103 f_X9_68 (by assumption) rfl rfl (fun _ => ⟨rfl, rfl⟩) ?_
  obtain ⟨o11, s11, F11⟩ := o10.na (by omega) 13 30 10
  generalize sP (sN μ10 13 30) d 10 (some (d + 294)) = μ11 at o11 s11 F11 ⊢
  clear gk mk
  have mk := o11.2.1
  refine e_al0 107 rfl dX9_init_106 ?_
  refine e_iconst (nI 0) 108 rfl dX9_init_107 ic_0 ?_
  refine e_putZ 111 rfl dX9_init_108 f_X9_72 (by assumption) (by first | exact z0 | exact z1 | exact bI01 _ | assumption) ?_
  obtain ⟨o12, s12⟩ := o11.sF 11 (nI 0)
  generalize sF μ11 d 11 (nI 0) = μ12 at o12 s12 ⊢
  clear mk
  refine e_al0 112 rfl dX9_init_111 ?_
  refine e_newB 959 27554 115 rfl dX9_init_112 nc_X9_76 rfl rfl ?_
  refine e_dup 116 rfl dX9_init_115 rfl ?_
  refine e_invIB [] 957 27450 119 rfl dX9_init_116 k_X9_78 mo_X6_init rm_X9_init_X6_init rfl rfl rfl rfl (Nat.le_of_ble_eq_true rfl) ?_
  refine i_table Ob.start (fun μa na b1 b2 b3 => ?_)
  have ha : mN μa = d + 295 + 3 := by rw [na, o12.1]
  have hsa : ∀ q, q < d + 295 → same q μ12 μa := fun q hq => (sN_same (by rw [o12.1]; omega)).trans (b3 q (by rw [o12.1]; exact hq))
  rw [o12.1] at b1 b2 ⊢
  have gk : mK μa d = 10 := by rw [(hsa d (by omega)).1]; exact o12.2.1
  refine e_putR 122 rfl dX9_init_119 f_X9_79 (by assumption) rfl rfl (fun _ => ⟨rfl, rfl⟩) ?_
  obtain ⟨o13, s13⟩ := o12.sub (by omega) ha hsa 12
  have F13 : Tg (sP μa d 12 (some (d + 295))) (d + 295) ∧ Tt (sP μa d 12 (some (d + 295))) (d + 295) (fun i => [97 + i]) := ⟨b1.sm (fun q _ _ => sP_same (by omega)), b2.sm (fun q _ _ => sP_same (by omega))⟩
  generalize sP μa d 12 (some (d + 295)) = μ13 at o13 s13 F13 ⊢
  clear gk hsa ha
  refine e_al0 123 rfl dX9_init_122 ?_
  refine e_newB 956 27448 126 rfl dX9_init_123 nc_X9_83 rfl rfl ?_
  refine e_dup 127 rfl dX9_init_126 rfl ?_
  refine e_invINB [] 955 26960 130 rfl dX9_init_127 k_X9_85 mo_X1_init rm_X9_init_X1_init rfl rfl rfl rfl (Nat.le_of_ble_eq_true rfl) ?_
  refine i_line Ob.start (fun μa oba => ?_)
  have ha : mN μa = d + 298 + 2 := by rw [oba.1, o13.1]; rfl
  have hsa : ∀ q, q < d + 298 → same q μ13 μa := fun q hq => (sN_same (by rw [o13.1]; omega)).trans (oba.2.2.2.2.2 q (by rw [o13.1]; exact hq))
  rw [o13.1] at oba ⊢
  have gk : mK μa d = 10 := by rw [(hsa d (by omega)).1]; exact o13.2.1
  refine e_putR 133 rfl dX9_init_130 f_X9_86 (by assumption) rfl rfl (fun _ => ⟨rfl, rfl⟩) ?_
  obtain ⟨o14, s14⟩ := o13.sub (by omega) ha hsa 13
  have F14 : Ln (sP μa d 13 (some (d + 298))) (d + 298) := (oba.ln rfl).sm (fun q _ _ => sP_same (by omega))
  generalize sP μa d 13 (some (d + 298)) = μ14 at o14 s14 F14 ⊢
  clear gk hsa ha
  have mk := o14.2.1
  refine e_al0 134 rfl dX9_init_133 ?_
  refine e_bipush (nI 8) 136 rfl dX9_init_134 bc_8 ?_
  refine e_newaB 954 26952 138 rfl dX9_init_136 (Or.inr (Or.inl ⟨rfl, rfl⟩)) ac_int rfl (by decide) rfl rfl ?_
  rw [o14.1]
  have gk := o14.mkN (by omega) 13 8
  refine e_putR 141 rfl dX9_init_138 f_X9_90 (by assumption) rfl rfl (fun _ => ⟨rfl, rfl⟩) ?_
  obtain ⟨o15, s15, F15⟩ := o14.na (by omega) 13 8 14
  generalize sP (sN μ14 13 8) d 14 (some (d + 300)) = μ15 at o15 s15 F15 ⊢
  clear gk mk
  have e15 : Sm d (d + 301) μ15 μ15 := fun q _ _ => same.rf
  have e14 : Sm d (d + 300) μ14 μ15 := s15.trans e15 (by omega)
  have e13 : Sm d (d + 298) μ13 μ15 := s14.trans e14 (by omega)
  have e12 : Sm d (d + 295) μ12 μ15 := s13.trans e13 (by omega)
  have e11 : Sm d (d + 295) μ11 μ15 := s12.trans e12 (by omega)
  have e10 : Sm d (d + 294) μ10 μ15 := s11.trans e11 (by omega)
  have e9 : Sm d (d + 294) μ9 μ15 := s10.trans e10 (by omega)
  have e8 : Sm d (d + 263) μ8 μ15 := s9.trans e9 (by omega)
  have e7 : Sm d (d + 263) μ7 μ15 := s8.trans e8 (by omega)
  have e6 : Sm d (d + 262) μ6 μ15 := s7.trans e7 (by omega)
  have e5 : Sm d (d + 259) μ5 μ15 := s6.trans e6 (by omega)
  have e4 : Sm d (d + 15) μ4 μ15 := s5.trans e5 (by omega)
  have e3 : Sm d (d + 6) μ3 μ15 := s4.trans e4 (by omega)
  have e2 : Sm d (d + 4) μ2 μ15 := s3.trans e3 (by omega)
  have e1 : Sm d (d + 3) μ1 μ15 := s2.trans e2 (by omega)
  have qT : TI μ15 d [] := F1.sm (fun q a b => e1 q (by omega) (by omega))
  have qA : cell0 μ15 (d + 3) 17 6 := F2.of (e2 _ (by omega) (by omega))
  have qX : XI μ15 d 0 (-1) := F3.sm (e3 _ (by omega) (by omega))
  have qD : Sg μ15 (d + 6) := F4.sm (fun q a b => e4 q (by omega) (by omega))
  have qB : Bk μ15 (d + 15) ∧ Bc μ15 (d + 15) [] := ⟨F5.1.sm (fun q a b => e5 q (by omega) (by omega)), F5.2.sm0 (fun q a b => e5 q (by omega) (by omega))⟩
  have qW : Wd μ15 (d + 259) := F6.sm (fun q a b => e6 q (by omega) (by omega))
  have qN : cell0 μ15 (d + 262) 16 30 := F7.of (e7 _ (by omega) (by omega))
  have qR : RI μ15 d := ⟨F9.1.sm (fun q a b => e9 q (by omega) (by omega)), by obtain ⟨ra, sa, h⟩ := F9.2; refine ⟨ra, sa, ?_⟩; unfold Rp; rw [(e9 (d + 263) (by omega) (by omega)).2.2.2.2.2.2.1]; exact h⟩
  have qK : cell0 μ15 (d + 294) 13 30 := F11.of (e11 _ (by omega) (by omega))
  have qL : Tg μ15 (d + 295) ∧ Tt μ15 (d + 295) (fun i => [97 + i]) := ⟨F13.1.sm (fun q a b => e13 q (by omega) (by omega)), F13.2.sm (fun q a b => e13 q (by omega) (by omega))⟩
  have qI : Ln μ15 (d + 298) := F14.sm (fun q a b => e14 q (by omega) (by omega))
  have qC : cell0 μ15 (d + 300) 13 8 := F15
  obtain ⟨u1, u2, u3, u4, u5⟩ := o15
  have hP : mP μ15 d 0 = some (d + 1) ∧ mP μ15 d 1 = some (d + 3) ∧ mP μ15 d 2 = some (d + 4) ∧ mP μ15 d 4 = some (d + 15) ∧ mP μ15 d 5 = some (d + 259) ∧ mP μ15 d 6 = some (d + 262) ∧ mP μ15 d 8 = some (d + 263) ∧ mP μ15 d 10 = some (d + 294) ∧ mP μ15 d 12 = some (d + 295) ∧ mP μ15 d 13 = some (d + 298) ∧ mP μ15 d 14 = some (d + 300) := by rw [u3]; exact ⟨rfl, rfl, rfl, rfl, rfl, rfl, rfl, rfl, rfl, rfl, rfl⟩
  have hP3 : mP μ15 d 3 = some (d + 6) := by rw [u3]; rfl
  have hF7 : mF μ15 d 7 = nI 0 ∧ mF μ15 d 9 = -1 ∧ mF μ15 d 11 = nI 0 := by rw [u4]; exact ⟨rfl, rfl, rfl⟩
  clear s1 s2 s3 s4 s5 s6 s7 s8 s9 s10 s11 s12 s13 s14 s15 e1 e2 e3 e4 e5 e6 e7 e8 e9 e10 e11 e12 e13 e14 e15 o0 o1 o2 o3 o4 o5 o6 o7 o8 o9 o10 o11 o12 o13 o14 u3 u4
  generalize μ15 = μz at *
  refine e_iconst (nI 0) 142 rfl dX9_init_141 ic_0 ?_
  refine e_is1 143 rfl dX9_init_142 (by decide) rfl ?_
  -- the names
  have loop2 : ∀ (fu i : Nat), i + fu = 30 → ∀ μ', mN μ' = d + 355 + 30 * i → (∀ q, q < d + 301 → q ≠ d + 3 → q ≠ d + 262 → same q μz μ') → mK μ' (d + 262) = 16 ∧ mL μ' (d + 262) = 30 → (mK μ' (d + 3) = 17 ∧ mL μ' (d + 3) = 6) → (∀ j, j < 6 → mO μ' (d + 3) j = some (d + 301 + 9 * j) ∧ ShM μ' (d + 301 + 9 * j) none) → (∀ j, j < i → mO μ' (d + 262) j = some (nA d j) ∧ Ng μ' (nA d j)) → Ev E M_X9_init (30 * fu) (884 * fu) 170 [some (.ref d), some (.int (nI i))] [] μ' K := by
    intro fu
    induction fu with
    | zero =>
      intro i hi μ' hn hs hk hk3 hsh hnm
      refine e_il1 171 rfl dX9_init_170 ?_
      refine e_bipush (nI 30) 173 rfl dX9_init_171 bc_30 ?_
      first | refine e_cmp_geN 195 176 (by decide) rfl dX9_init_173 rfl rfl (by omega) (by omega) (fun y1 => ?_) (fun y1 => ?_) | refine e_cmp_ge 195 176 (by decide) rfl dX9_init_173 (fun y1 => ?_) (fun y1 => ?_)
      rotate_left
      · omega
      refine e_ret dX9_init_195 rfl ?_
      have st := hs d (by omega) (by omega) (by omega)
      have sP := st.2.2.2.2.2.2.1
      refine k μ' (by rw [hn]; omega) ⟨⟨⟨by rw [st.1]; exact u2, by rw [sP]; exact hP⟩, ⟨hk3.1, hk3.2, hk.1, hk.2, by rw [(hs (d + 294) (by omega) (by omega) (by omega)).1]; exact qK.1, by rw [(hs (d + 294) (by omega) (by omega) (by omega)).2.1]; exact qK.2.1, by rw [(hs (d + 300) (by omega) (by omega) (by omega)).1]; exact qC.1, by rw [(hs (d + 300) (by omega) (by omega) (by omega)).2.1]; exact qC.2.1⟩, fun j hj => (hnm j (by omega)).1⟩, qT.sm (fun q a b => hs q (by omega) (by omega) (by omega)), qX.sm (hs _ (by omega) (by omega) (by omega)), ⟨qB.1.sm (fun q a b => hs q (by omega) (by omega) (by omega)), qB.2.sm0 (fun q a b => hs q (by omega) (by omega) (by omega))⟩, qW.sm (fun q a b => hs q (by omega) (by omega) (by omega)), ⟨qR.1.sm (fun q a b => hs q (by omega) (by omega) (by omega)), by obtain ⟨ra, sa, h⟩ := qR.2; refine ⟨ra, sa, ?_⟩; unfold Rp; rw [(hs (d + 263) (by omega) (by omega) (by omega)).2.2.2.2.2.2.1]; exact h⟩, ⟨qL.1.sm (fun q a b => hs q (by omega) (by omega) (by omega)), qL.2.sm (fun q a b => hs q (by omega) (by omega) (by omega))⟩, qI.sm (fun q a b => hs q (by omega) (by omega) (by omega)), ⟨fun j hj => ?_, fun i => i, fun i hi => hi, fun i j _ _ h => h, by rw [sP, hP3]; rfl, fun i hi => ?_⟩, ⟨by rw [st.2.2.1]; exact hF7.1, fun j hj => (hnm j (by omega)).2, fun j nm hj => by have hj' : ([] : List Nm)[j]? = some nm := hj; simp at hj'⟩, Or.inl (by rw [st.2.2.1]; exact hF7.2.1), false, by rw [st.2.2.1]; exact hF7.2.2, fun h => by cases h⟩ (fun q hq => (u5 q hq).trans (hs q (by omega) (by omega) (by omega)))
      · by_cases c : j = 6
        · have e : shA d j = d + 6 := by unfold shA; rw [if_pos c]
          rw [e]; exact qD.sm (fun q a b => hs q (by omega) (by omega) (by omega))
        · have e : shA d j = d + 301 + 9 * j := by unfold shA; rw [if_neg c]
          rw [e]; exact (hsh j (by omega)).2.1.1
      · have e : shA d i = d + 301 + 9 * i := by unfold shA; rw [if_neg (by omega)]
        show mO μ' (d + 3) i = some (shA d i) ∧ ShM μ' (shA d i) none
        rw [e]; exact hsh i hi
    | succ fu ih =>
      intro i hi μ' hn hs hk hk3 hsh hnm
      have st := hs d (by omega) (by omega) (by omega)
      have gk : mK μ' d = 10 := by rw [st.1]; exact u2
      have g6 : mP μ' d 6 = some (d + 262) := by rw [st.2.2.2.2.2.2.1]; exact hP.2.2.2.2.2.1
      refine e_il1 171 rfl dX9_init_170 ?_
      refine e_bipush (nI 30) 173 rfl dX9_init_171 bc_30 ?_
      first | refine e_cmp_geN 195 176 (by decide) rfl dX9_init_173 rfl rfl (by omega) (by omega) (fun y1 => ?_) (fun y1 => ?_) | refine e_cmp_ge 195 176 (by decide) rfl dX9_init_173 (fun y1 => ?_) (fun y1 => ?_)
      · omega
      refine e_al0 177 rfl dX9_init_176 ?_
      refine e_getR 180 rfl dX9_init_177 f_X9_50 (by assumption) (by assumption) ?_
      refine e_il1 181 rfl dX9_init_180 ?_
      refine e_newB (30 * fu + 29) (884 * fu + 874) 184 rfl dX9_init_181 nc_X9_48 (by omega) (by omega) ?_
      refine e_dup 185 rfl dX9_init_184 rfl ?_
      refine e_invIB [] (30 * fu) (884 * fu) 188 rfl dX9_init_185 k_X9_93 mo_X2_init rm_X9_init_X2_init rfl rfl rfl rfl (Nat.le_of_ble_eq_true rfl) ?_
      refine i_name Ob.start (fun μ2 hn2 hNg hs2' => ?_)
      have hs2 : ∀ q, q < d + 355 + 30 * i → same q μ' μ2 := fun q hq => (sN_same (by rw [hn]; omega)).trans (hs2' q (by rw [hn]; exact hq))
      rw [hn] at hNg hn2 ⊢
      have k1 : mK μ2 (d + 262) = 16 := by rw [(hs2 (d + 262) (by omega)).1]; exact hk.1
      have l1 : mL μ2 (d + 262) = 30 := by rw [(hs2 (d + 262) (by omega)).2.1]; exact hk.2
      have wk := hNg.1.1
      refine e_aast 189 rfl dX9_init_188 (by assumption) (by first | exact Or.inl ⟨rfl, rfl⟩ | exact Or.inr (Or.inl ⟨rfl, rfl⟩) | exact Or.inr (Or.inr ⟨rfl, rfl⟩)) (by assumption) (by first | rfl | simp only [pk_mul, nI_add]) (by omega) (by omega) (by assumption) ?_
      refine e_ii1 (nI (_ + 1)) 192 rfl dX9_init_189 (ii1 _) rfl ?_
      refine e_goto 170 (by decide) dX9_init_192 ?_
      have eN : nA d i = d + 355 + 30 * i := rfl
      refine ih (i + 1) (by omega) _ (by show mN μ2 = _; rw [hn2]; omega) (fun q a b c => ((hs q a b c).trans (hs2 q (by omega))).trans (sO_same c)) ⟨k1, l1⟩ ⟨by show mK μ2 (d + 3) = _; rw [(hs2 (d + 3) (by omega)).1]; exact hk3.1, by show mL μ2 (d + 3) = _; rw [(hs2 (d + 3) (by omega)).2.1]; exact hk3.2⟩ (fun j hj => ⟨?_, ((hsh j hj).2.sm0 (fun q a b => hs2 q (by omega))).sm0 (fun q a b => sO_same (by omega))⟩) (fun j hj => ?_)
      · show up2 _ (d + 262) _ _ (d + 3) _ = _
        rw [up2_a (by omega), (hs2 (d + 3) (by omega)).2.2.2.2.2.2.2]; exact (hsh j hj).1
      · by_cases c : j = i
        · subst c
          refine ⟨?_, hNg.sm (fun q _ _ => sO_same (by omega))⟩
          show up2 _ (d + 262) _ _ (d + 262) _ = _
          rw [up2_s, eN]
        · have hjA : nA d j = d + 355 + 30 * j := rfl
          refine ⟨?_, ((hnm j (by omega)).2.sm (fun q a b => hs2 q (by omega))).sm (fun q _ _ => sO_same (by omega))⟩
          show up2 _ (d + 262) _ _ (d + 262) _ = _
          rw [up2_k c, (hs2 (d + 262) (by omega)).2.2.2.2.2.2.2]
          exact (hnm j (by omega)).1
  have loop1 : ∀ (fu i : Nat), i + fu = 6 → ∀ μ', mN μ' = d + 301 + 9 * i → (∀ q, q < d + 301 → q ≠ d + 3 → same q μz μ') → (mK μ' (d + 3) = 17 ∧ mL μ' (d + 3) = 6) → (∀ j, j < i → mO μ' (d + 3) j = some (d + 301 + 9 * j) ∧ ShM μ' (d + 301 + 9 * j) none) → Ev E M_X9_init (26520 / 884 * 30 + 9 * fu) (26520 + 72 * fu) 143 [some (.ref d), some (.int (nI i))] [] μ' K := by
    intro fu
    induction fu with
    | zero =>
      intro i hi μ' hn hs hk3 hsh
      refine e_il1 144 rfl dX9_init_143 ?_
      refine e_bipush (nI 6) 146 rfl dX9_init_144 bc_6 ?_
      first | refine e_cmp_geN 168 149 (by decide) rfl dX9_init_146 rfl rfl (by omega) (by omega) (fun y1 => ?_) (fun y1 => ?_) | refine e_cmp_ge 168 149 (by decide) rfl dX9_init_146 (fun y1 => ?_) (fun y1 => ?_)
      rotate_left
      · omega
      refine e_iconst (nI 0) 169 rfl dX9_init_168 ic_0 ?_
      refine e_is1 170 rfl dX9_init_169 (by decide) rfl ?_
      have sn := hs (d + 262) (by omega) (by omega)
      refine loop2 30 0 (by omega) μ' (by rw [hn]; omega) (fun q a b c => hs q a b) ⟨by rw [sn.1]; exact qN.1, by rw [sn.2.1]; exact qN.2.1⟩ hk3 (fun j hj => hsh j (by omega)) (fun j hj => by omega)
    | succ fu ih =>
      intro i hi μ' hn hs hk3 hsh
      have st := hs d (by omega) (by omega)
      have gk : mK μ' d = 10 := by rw [st.1]; exact u2
      have g6 : mP μ' d 1 = some (d + 3) := by rw [st.2.2.2.2.2.2.1]; exact hP.2.1
      obtain ⟨k31, l31⟩ := hk3
      refine e_il1 144 rfl dX9_init_143 ?_
      refine e_bipush (nI 6) 146 rfl dX9_init_144 bc_6 ?_
      first | refine e_cmp_geN 168 149 (by decide) rfl dX9_init_146 rfl rfl (by omega) (by omega) (fun y1 => ?_) (fun y1 => ?_) | refine e_cmp_ge 168 149 (by decide) rfl dX9_init_146 (fun y1 => ?_) (fun y1 => ?_)
      · omega
      refine e_al0 150 rfl dX9_init_149 ?_
      refine e_getR 153 rfl dX9_init_150 f_X9_18 (by assumption) (by assumption) ?_
      refine e_il1 154 rfl dX9_init_153 ?_
      refine e_newB (26520 / 884 * 30 + 9 * fu + 8) (26520 + 72 * fu + 59) 157 rfl dX9_init_154 nc_X9_16 (by omega) (by omega) ?_
      refine e_dup 158 rfl dX9_init_157 rfl ?_
      refine e_invINB [] (26520 / 884 * 30 + 9 * fu) (26520 + 72 * fu) 161 rfl dX9_init_158 k_X9_29 mo_X4_init rm_X9_init_X4_init rfl rfl rfl rfl (Nat.le_of_ble_eq_true rfl) ?_
      refine i_shape Ob.start (fun μ2 oba => ?_)
      have hS := oba.sh0 ⟨rfl, rfl, rfl, rfl, rfl, rfl, rfl, rfl⟩ ⟨rfl, rfl, rfl, rfl, rfl⟩
      have hn2 := oba.1
      have hs2 : ∀ q, q < d + 301 + 9 * i → same q μ' μ2 := fun q hq => (sN_same (by rw [hn]; omega)).trans (oba.2.2.2.2.2 q (by rw [hn]; exact hq))
      rw [hn] at hS hn2 ⊢
      have k1 : mK μ2 (d + 3) = 17 := by rw [(hs2 (d + 3) (by omega)).1]; exact k31
      have l1 : mL μ2 (d + 3) = 6 := by rw [(hs2 (d + 3) (by omega)).2.1]; exact l31
      have wk := hS.1.1.1.1
      refine e_aast 162 rfl dX9_init_161 (by assumption) (by first | exact Or.inl ⟨rfl, rfl⟩ | exact Or.inr (Or.inl ⟨rfl, rfl⟩) | exact Or.inr (Or.inr ⟨rfl, rfl⟩)) (by assumption) (by first | rfl | simp only [pk_mul, nI_add]) (by omega) (by omega) (by assumption) ?_
      refine e_ii1 (nI (_ + 1)) 165 rfl dX9_init_162 (ii1 _) rfl ?_
      refine e_goto 143 (by decide) dX9_init_165 ?_
      refine ih (i + 1) (by omega) _ (by show mN μ2 = _; rw [hn2]; simp; omega) (fun q a b => ((hs q a b).trans (hs2 q (by omega))).trans (sO_same b)) ⟨k1, l1⟩ (fun j hj => ?_)
      by_cases c : j = i
      · subst c
        refine ⟨?_, hS.sm0 (fun q _ _ => sO_same (by omega))⟩
        show up2 _ (d + 3) _ _ (d + 3) _ = _
        rw [up2_s]
      · refine ⟨?_, ((hsh j (by omega)).2.sm0 (fun q a b => hs2 q (by omega))).sm0 (fun q _ _ => sO_same (by omega))⟩
        show up2 _ (d + 3) _ _ (d + 3) _ = _
        rw [up2_k c, (hs2 (d + 3) (by omega)).2.2.2.2.2.2.2]
        exact (hsh j (by omega)).1
  exact loop1 6 0 (by omega) μz u1 (fun q _ _ => same.rf) ⟨qA.1, qA.2.1⟩ (fun j hj => by omega)
end CTOR4
