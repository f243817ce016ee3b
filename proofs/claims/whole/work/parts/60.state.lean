/-! the desk: what it holds -/
section STATE
variable {E : En} {μ : Mm} {K : Option Value → Mm → Prop}
abbrev Nm : Type := Nat × List (List Nat)
/-- tape, shapes, book, names, table, fault and its place -/
abbrev Ast : Type := List Nat × (Nat → Option Shp) × List Ent × List Nm × (Nat → List Nat) × Nat × Int32
abbrev aT (S : Ast) : List Nat := S.1
abbrev aS (S : Ast) : Nat → Option Shp := S.2.1
abbrev aB (S : Ast) : List Ent := S.2.2.1
abbrev aN (S : Ast) : List Nm := S.2.2.2.1
abbrev aL (S : Ast) : Nat → List Nat := S.2.2.2.2.1
abbrev aF (S : Ast) : Nat := S.2.2.2.2.2.1
abbrev aP (S : Ast) : Int32 := S.2.2.2.2.2.2
/-- a shape, or none -/
def slO (o : Option Shp) : List Slot0 := match o with
  | none => []
  | some x => x.1
noncomputable def fmO (o : Option Shp) : Nat := match o with
  | none => 0
  | some x => msk (Opn x.1 0)
def soO (o : Option Shp) : List Nat := match o with
  | none => []
  | some x => x.2.1
def caO (o : Option Shp) : List Nat := match o with
  | none => []
  | some x => x.2.2.1
def enO (o : Option Shp) : List Nat := match o with
  | none => []
  | some x => x.2.2.2
def fsN (nm : Nm) : List (List Nat) := nm.2.map foldL
theorem fsN_len (nm : Nm) : (fsN nm).length = nm.2.length := by simp [fsN]
/-- its readings -/
noncomputable def rdT (o : Option Shp) (es : List Ent) (nm : Nm) : List Rw := PRr (slO o) (costW es nm.1 (enO o) (fsN nm)) nm.2.length (fmO o) nm.2.length
def fr1 (T : List Rw) : Option Rw := (SRr T 41)[0]?
noncomputable def rdB (o : Option Shp) (es : List Ent) (nm : Nm) : Bool := (fr1 (rdT o es nm)).isSome
def fr1m (T : List Rw) : Nat := match fr1 T with
  | none => 0
  | some y => y.2.1
noncomputable def rdK (o : Option Shp) (es : List Ent) (nm : Nm) : List Nat := (List.range nm.2.length).map (dg nm.2.length (fr1m (rdT o es nm)))
theorem rdK_len (o : Option Shp) (es : List Ent) (nm : Nm) : (rdK o es nm).length = nm.2.length := by simp [rdK]
noncomputable def kyP (o : Option Shp) (es : List Ent) (nm : Nm) : List Nat := chL (rdB o es nm) (soO o) (rdK o es nm)
noncomputable def caP (o : Option Shp) (es : List Ent) (nm : Nm) : List Nat := chL (rdB o es nm) (caO o) (rdK o es nm)
noncomputable def kyW (o : Option Shp) (es : List Ent) (nm : Nm) : List (List Nat) := (kyP o es nm).map (fun p => (fsN nm).getD p [])
noncomputable def caW (o : Option Shp) (es : List Ent) (nm : Nm) : List (List Nat) := (caP o es nm).map (fun p => nm.2.getD p [])
/-- words with blanks between them: the first n -/
def jn (ws : List (List Nat)) : Nat → List Nat
  | 0 => []
  | n + 1 => jn ws n ++ bl n ++ ws.getD n []
def pln (tb : Nat → List Nat) (nm : Nm) : List Nat := jn ((fsN nm).map (putL tb)) nm.2.length
/-- what is well made -/
def wfN (nm : Nm) : Prop := nm.1 < 6 ∧ 1 ≤ nm.2.length ∧ nm.2.length ≤ 8 ∧ ∀ w ∈ nm.2, isWordL w = true
def wfShp (x : Shp) : Prop := (1 ≤ x.1.length ∧ x.1.length ≤ 8 ∧ ∀ s ∈ x.1, s.1 < 7 ∧ s.2 < 4) ∧ (x.2.1.length ≤ 7 ∧ x.2.1.Nodup ∧ ∀ k ∈ x.2.1, k < 7) ∧ (x.2.2.1.length ≤ 7 ∧ x.2.2.1.Nodup ∧ ∀ k ∈ x.2.2.1, k < 7) ∧ x.2.2.2.length ≤ 6 ∧ ∀ c ∈ x.2.2.2, 97 ≤ c ∧ c ≤ 122
def wfE (e : Ent) : Prop := e.1 < 6 ∧ e.2.1 < 5 ∧ 1 ≤ e.2.2.length ∧ e.2.2.length ≤ 20 ∧ ∀ c ∈ e.2.2, 97 ≤ c ∧ c ≤ 122
def WF (S : Ast) : Prop := ((aT S).length ≤ 400 ∧ ∀ c ∈ aT S, c < 256) ∧ (∀ i x, aS S i = some x → wfShp x) ∧ ((aB S).length ≤ 80 ∧ (aB S).Nodup ∧ ∀ e ∈ aB S, wfE e) ∧ ((aN S).length ≤ 30 ∧ ∀ nm ∈ aN S, wfN nm) ∧ ∀ i, i < 26 → (aL S i).length ≤ 3 ∧ ∀ c ∈ aL S i, 97 ≤ c ∧ c ≤ 122
theorem fld_r {c : Nat} (h : isLt c = true) : 97 ≤ fld c ∧ fld c ≤ 122 := by
  unfold isLt isSm isBg at h
  unfold fld
  simp at h
  split <;> omega
theorem foldL_r {l : List Nat} : ∀ c ∈ foldL l, 97 ≤ c ∧ c ≤ 122 := by
  intro c hc
  unfold foldL at hc
  obtain ⟨b, hb, e⟩ := List.mem_map.mp hc
  rw [← e]
  exact fld_r (List.mem_filter.mp hb).2
theorem okS_lt {c : Nat} (h : okS c = true) : c < 128 := by
  unfold okS isLt isSm isBg at h
  simp at h
  omega
theorem wordL {w : List Nat} (h : isWordL w = true) : (∀ c ∈ w, c < 128) ∧ w.length ≤ 21 ∧ 1 ≤ (foldL w).length ∧ (foldL w).length ≤ 20 ∧ 32 ∉ w := by
  unfold isWordL at h
  simp only [Bool.and_eq_true, decide_eq_true_eq] at h
  obtain ⟨⟨⟨h1, h2⟩, h3⟩, h4⟩ := h
  have h4' : ∀ c ∈ coreL w, okS c = true := by simpa using h4
  have hf : 1 ≤ (foldL (coreL w)).length := by
    cases e : coreL w with
    | nil => rw [e] at h1; simp at h1
    | cons c r =>
      rw [e] at h3
      have h3' : isLt c = true := by simpa using h3
      unfold foldL
      rw [List.filter_cons, if_pos h3']
      simp
  have hs32 : ∀ c ∈ coreL w, c ≠ 32 := fun c hc q => by have := h4' c hc; rw [q] at this; revert this; decide
  by_cases e : w.getLast? = some 46
  · have hw : w = coreL w ++ [46] := by
      unfold coreL
      rw [if_pos e]
      have hne : w ≠ [] := fun q => by rw [q] at e; simp at e
      rw [List.getLast?_eq_some_getLast hne] at e
      have := List.dropLast_concat_getLast hne
      rw [Option.some.inj e] at this
      exact this.symm
    have hfl : foldL w = foldL (coreL w) := by
      rw [hw, foldL_app]
      conv => rhs; rw [← hw]
      have : foldL [46] = [] := by decide
      rw [this, List.append_nil]
    refine ⟨fun c hc => ?_, by rw [hw]; simp; omega, by rw [hfl]; exact hf, by rw [hfl]; exact Nat.le_trans (foldL_len _) h2, fun q => ?_⟩
    · rw [hw] at hc
      rcases List.mem_append.mp hc with q | q
      · exact okS_lt (h4' c q)
      · simp at q; omega
    · rw [hw] at q
      rcases List.mem_append.mp q with z | z
      · exact hs32 _ z rfl
      · simp at z
  · have hw : coreL w = w := by unfold coreL; rw [if_neg e]
    rw [hw] at h2 h4' hf hs32
    exact ⟨fun c hc => okS_lt (h4' c hc), by omega, hf, Nat.le_trans (foldL_len _) h2, fun q => hs32 _ q rfl⟩
theorem fsN_ok {nm : Nm} (h : wfN nm) : ∀ w ∈ fsN nm, (1 ≤ w.length ∧ w.length ≤ 20) ∧ ∀ c ∈ w, 97 ≤ c ∧ c ≤ 122 := by
  intro w hw
  obtain ⟨v, hv, e⟩ := List.mem_map.mp hw
  have := wordL (h.2.2.2 v hv)
  rw [← e]
  exact ⟨⟨this.2.2.1, this.2.2.2.1⟩, foldL_r⟩
/-- the places -/
def nA (d i : Nat) : Nat := d + 355 + 30 * i
def shA (d j : Nat) : Nat := if j = 6 then d + 6 else d + 301 + 9 * j
theorem shA_in {d j : Nat} (h : j ≤ 6) : shA d j = d + 6 ∨ (d + 301 ≤ shA d j ∧ shA d j + 9 ≤ d + 355) := by
  unfold shA; split <;> omega
theorem shA_ne {d i j : Nat} (hi : i ≤ 6) (hj : j ≤ 6) (h : i ≠ j) : shA d i + 9 ≤ shA d j ∨ shA d j + 9 ≤ shA d i := by
  unfold shA; split <;> split <;> omega
def GD (μ : Mm) (d : Nat) : Prop := (mK μ d = 10 ∧ mP μ d 0 = some (d + 1) ∧ mP μ d 1 = some (d + 3) ∧ mP μ d 2 = some (d + 4) ∧ mP μ d 4 = some (d + 15) ∧ mP μ d 5 = some (d + 259) ∧ mP μ d 6 = some (d + 262) ∧ mP μ d 8 = some (d + 263) ∧ mP μ d 10 = some (d + 294) ∧ mP μ d 12 = some (d + 295) ∧ mP μ d 13 = some (d + 298) ∧ mP μ d 14 = some (d + 300)) ∧ (mK μ (d + 3) = 17 ∧ mL μ (d + 3) = 6 ∧ mK μ (d + 262) = 16 ∧ mL μ (d + 262) = 30 ∧ mK μ (d + 294) = 13 ∧ mL μ (d + 294) = 30 ∧ mK μ (d + 300) = 13 ∧ mL μ (d + 300) = 8) ∧ ∀ i, i < 30 → mO μ (d + 262) i = some (nA d i)
theorem GD.fx {S : Nat → Prop} {μ' : Mm} {d : Nat} (h : GD μ d) (f : Fx S μ μ') (hP : ∀ g, g ≠ 3 → mP μ' d g = mP μ d g) (hS : ¬ S (d + 262)) : GD μ' d := by
  obtain ⟨h1, h2, h3⟩ := h
  refine ⟨?_, by rw [f.2.1, f.2.2.1]; exact h2, fun i hi => by rw [(f.2.2.2 _ hS).2.2.2.2.2]; exact h3 i hi⟩
  rw [f.2.1, hP 0 (by decide), hP 1 (by decide), hP 2 (by decide), hP 4 (by decide), hP 5 (by decide), hP 6 (by decide), hP 8 (by decide), hP 10 (by decide), hP 12 (by decide), hP 13 (by decide), hP 14 (by decide)]
  exact h1
def TI (μ : Mm) (d : Nat) (l : List Nat) : Prop := Tp μ (d + 1) ∧ Tc μ (d + 1) l
theorem TI.fx {S : Nat → Prop} {μ' : Mm} {d : Nat} {l : List Nat} (h : TI μ d l) (f : Fx S μ μ') (h1 : ¬ S (d + 1)) (h2 : ¬ S (d + 2)) : TI μ' d l := by
  have f1 := f.2.2.2 _ h1
  have f2 : ¬ S (d + 1 + 1) := h2
  refine ⟨?_, ?_⟩
  · unfold Tp; rw [f.2.1, f.2.2.1, f1.2.2.2.2.1]; exact h.1
  · unfold Tc; rw [f1.1, (f.2.2.2 _ f2).2.1]; exact h.2
def XI (μ : Mm) (d f : Nat) (p : Int32) : Prop := mK μ (d + 4) = 6 ∧ mF μ (d + 4) 3 = nI f ∧ mF μ (d + 4) 4 = p
theorem XI.fx {S : Nat → Prop} {μ' : Mm} {d g : Nat} {p : Int32} (h : XI μ d g p) (f : Fx S μ μ') (h1 : ¬ S (d + 4)) : XI μ' d g p := by
  unfold XI; rw [f.2.1, (f.2.2.2 _ h1).1]; exact h
def BI (μ : Mm) (d : Nat) (es : List Ent) : Prop := Bk μ (d + 15) ∧ Bc μ (d + 15) es
theorem BI.fx {S : Nat → Prop} {μ' : Mm} {d : Nat} {es : List Ent} (h : BI μ d es) (f : Fx S μ μ') (hS : ∀ q, d + 15 ≤ q → q < d + 259 → ¬ S q) : BI μ' d es := ⟨h.1.fx f (fun q a b => hS q a (by omega)), h.2.fx f (fun q a b => hS q a (by omega))⟩
def RI (μ : Mm) (d : Nat) : Prop := Rg μ (d + 263) ∧ ∃ ra sa, Rp μ (d + 263) ra sa
theorem Rg.fx {S : Nat → Prop} {μ' : Mm} {r : Nat} (h : Rg μ r) (f : Fx S μ μ') (hP : ∀ g, g ≠ 0 → g ≠ 4 → g ≠ 5 → mP μ' r g = mP μ r g) (h10 : ¬ S (r + 10)) (h19 : ¬ S (r + 19)) : Rg μ' r := by
  obtain ⟨hg, gw⟩ := h
  refine ⟨by rw [f.2.1, f.2.2.1, hP 2 (by decide) (by decide) (by decide), hP 3 (by decide) (by decide) (by decide), hP 7 (by decide) (by decide) (by decide)]; exact hg, fun w hw => ?_⟩
  rw [(f.2.2.2 _ h10).2.2.2.2.2, (f.2.2.2 _ h19).2.2.2.2.2, f.2.1, f.2.2.1]
  exact gw w hw
theorem RI.fx {S : Nat → Prop} {μ' : Mm} {d : Nat} (h : RI μ d) (f : Fx S μ μ') (hS : ∀ q, d + 263 ≤ q → q < d + 294 → ¬ S q) : RI μ' d := by
  obtain ⟨h1, ra, sa, h2⟩ := h
  have f0 := f.2.2.2 (d + 263) (hS _ (by omega) (by omega))
  exact ⟨h1.fx f (fun g _ _ _ => by rw [f0.2.2.2.2.1]) (hS _ (by omega) (by omega)) (hS _ (by omega) (by omega)), ra, sa, by unfold Rp; rw [f0.2.2.2.2.1]; exact h2⟩
def TbI (μ : Mm) (d : Nat) (tb : Nat → List Nat) : Prop := Tg μ (d + 295) ∧ Tt μ (d + 295) tb
theorem TbI.fx {S : Nat → Prop} {μ' : Mm} {d : Nat} {tb : Nat → List Nat} (h : TbI μ d tb) (f : Fx S μ μ') (hS : ∀ q, d + 295 ≤ q → q < d + 298 → ¬ S q) : TbI μ' d tb := by
  refine ⟨?_, ?_⟩
  · unfold Tg; rw [f.2.1, f.2.2.1, (f.2.2.2 _ (hS (d + 295) (by omega) (by omega))).2.2.2.2.1]; exact h.1
  · unfold Tt; rw [(f.2.2.2 _ (hS (d + 295 + 1) (by omega) (by omega))).2.1, (f.2.2.2 _ (hS (d + 295 + 2) (by omega) (by omega))).2.2.1]; exact h.2
theorem Ln.fx {S : Nat → Prop} {μ' : Mm} {a : Nat} (h : Ln μ a) (f : Fx S μ μ') (h1 : ¬ S a) : Ln μ' a := by
  unfold Ln; rw [f.2.1, f.2.2.1, (f.2.2.2 _ h1).2.2.2.2.1]; exact h
theorem Lc.fx {S : Nat → Prop} {μ' : Mm} {a : Nat} {l : List Nat} (h : Lc μ a l) (f : Fx S μ μ') (h1 : ¬ S a) (h2 : ¬ S (a + 1)) : Lc μ' a l := by
  unfold Lc; rw [(f.2.2.2 _ h1).1, (f.2.2.2 _ h2).2.1]; exact h
/-- a shape, or none, at s -/
def ShM (μ : Mm) (s : Nat) (o : Option Shp) : Prop := Vs μ s (fmO o) (slO o) (enO o) ∧ Sl μ s (s + 6) 8 (soO o) ∧ Sl μ s (s + 7) 10 (caO o)
theorem ShM.fx {S : Nat → Prop} {μ' : Mm} {s : Nat} {o : Option Shp} (h : ShM μ s o) (f : Fx S μ μ') (hS : ∀ q, s ≤ q → q < s + 9 → ¬ S q) : ShM μ' s o := by
  refine ⟨h.1.fx f (fun q a b => hS q a (by omega)), ?_, ?_⟩
  · unfold Sl; rw [(f.2.2.2 _ (hS s (by omega) (by omega))).1, (f.2.2.2 _ (hS (s + 6) (by omega) (by omega))).2.2.1]; exact h.2.1
  · unfold Sl; rw [(f.2.2.2 _ (hS s (by omega) (by omega))).1, (f.2.2.2 _ (hS (s + 7) (by omega) (by omega))).2.2.1]; exact h.2.2
theorem Sf.shm {s : Nat} {x : Shp} (hg : Sg μ s) (h : Sf μ s x) : ShM μ s (some x) := by
  obtain ⟨h1, ⟨⟨v, v1, v2, v3⟩, h22, h23⟩, h3, h4, h5⟩ := h
  have e : v = msk (Opn x.1 0) := msk_of v2 v3
  refine ⟨⟨hg, h1, by rw [v1, e]; rfl, ⟨msk_lt _, fun q hq => ?_⟩, ⟨h22, h23⟩, h5⟩, h3, h4⟩
  have hq' : (msk (Opn x.1 0)).testBit q = true := hq
  rw [msk_bit] at hq'
  rcases Opn_lt hq'.2 with g | g
  · exact Or.inl g.2
  · exact Or.inr g
def SM (μ : Mm) (d : Nat) (sh : Nat → Option Shp) : Prop := (∀ j, j ≤ 6 → Sg μ (shA d j)) ∧ ∃ π : Nat → Nat, (∀ i, i ≤ 6 → π i ≤ 6) ∧ (∀ i j, i ≤ 6 → j ≤ 6 → π i = π j → i = j) ∧ mP μ d 3 = some (shA d (π 6)) ∧ ∀ i, i < 6 → mO μ (d + 3) i = some (shA d (π i)) ∧ ShM μ (shA d (π i)) (sh i)
theorem SM.fx {S : Nat → Prop} {μ' : Mm} {d : Nat} {sh : Nat → Option Shp} (h : SM μ d sh) (f : Fx S μ μ') (hP : mP μ' d 3 = mP μ d 3) (h3 : ¬ S (d + 3)) (hS : ∀ q, (d + 6 ≤ q ∧ q < d + 15) ∨ (d + 301 ≤ q ∧ q < d + 355) → ¬ S q) : SM μ' d sh := by
  obtain ⟨h1, π, h4, h5, h6, h7⟩ := h
  refine ⟨fun j hj => (h1 j hj).fx f (hS _ (by have := shA_in (d := d) hj; omega)), π, h4, h5, by rw [hP]; exact h6, fun i hi => ⟨by rw [(f.2.2.2 _ h3).2.2.2.2.2]; exact (h7 i hi).1, (h7 i hi).2.fx f (fun q a b => hS q ?_)⟩⟩
  have := shA_in (d := d) (h4 i (by omega))
  omega
/-- a name with what it keeps -/
def NmC (μ : Mm) (a : Nat) (o : Option Shp) (es : List Ent) (tb : Nat → List Nat) (nm : Nm) : Prop := mF μ a 0 = nI nm.1 ∧ NI μ a nm.2 ∧ (∃ b, mF μ a 3 = bI b ∧ (b = true → Nk μ a (rdB o es nm) (rdK o es nm) ∧ mF μ a 7 = nI (kyP o es nm).length ∧ Hd (mA μ (a + 3)) (kyP o es nm))) ∧ ∃ b, mF μ a 8 = bI b ∧ (b = true → Lc μ (a + 4) (pln tb nm))
theorem WI.fx {S : Nat → Prop} {μ' : Mm} {a : Nat} {l : List Nat} (h : WI μ a l) (f : Fx S μ μ') (h0 : ¬ S a) (h1 : ¬ S (a + 1)) (h2 : ¬ S (a + 2)) : WI μ' a l := by
  unfold WI; rw [(f.2.2.2 _ h0).1, (f.2.2.2 _ h1).2.1, (f.2.2.2 _ h2).2.1]; exact h
theorem NI.fx {S : Nat → Prop} {μ' : Mm} {a : Nat} {ws : List (List Nat)} (h : NI μ a ws) (h8 : ws.length ≤ 8) (f : Fx S μ μ') (h0 : mF μ' a 1 = mF μ a 1) (hS : ∀ q, a + 6 ≤ q → q < a + 30 → ¬ S q) : NI μ' a ws := by
  refine ⟨by rw [h0]; exact h.1, fun i w hi => (h.2 i w hi).fx f ?_ ?_ ?_⟩
  all_goals
    have := (List.getElem?_eq_some_iff.mp hi).1
    exact hS _ (by omega) (by omega)
theorem NmC.fx {S : Nat → Prop} {μ' : Mm} {a : Nat} {o : Option Shp} {es : List Ent} {tb : Nat → List Nat} {nm : Nm} (h : NmC μ a o es tb nm) (h8 : nm.2.length ≤ 8) (f : Fx S μ μ') (hS : ∀ q, nS a q → ¬ S q) : NmC μ' a o es tb nm := by
  obtain ⟨h1, h2, ⟨b, h3, h4⟩, c, h5, h6⟩ := h
  have f0 := f.2.2.2 a (hS _ ⟨by omega, by omega⟩)
  refine ⟨by rw [f0.1]; exact h1, h2.fx h8 f (by rw [f0.1]) (fun q a b => hS q ⟨by omega, b⟩), ⟨b, by rw [f0.1]; exact h3, fun hb => ?_⟩, c, by rw [f0.1]; exact h5, fun hc => (h6 hc).fx f (hS _ ⟨by omega, by omega⟩) (hS _ ⟨by omega, by omega⟩)⟩
  obtain ⟨g1, g2, g3⟩ := h4 hb
  refine ⟨?_, by rw [f0.1]; exact g2, by rw [(f.2.2.2 (a + 3) (hS _ ⟨by omega, by omega⟩)).2.2.1]; exact g3⟩
  unfold Nk
  rw [f0.1, (f.2.2.2 (a + 2) (hS _ ⟨by omega, by omega⟩)).2.2.1]
  exact g1
theorem NI.nf {a : Nat} {nm : Nm} (h : NI μ a nm.2) (hw : wfN nm) : Nf μ a (fsN nm) := by
  refine ⟨by rw [fsN_len]; exact h.1, by rw [fsN_len]; exact hw.2.2.1, fun i w hi => ?_⟩
  have hi' : (nm.2.map foldL)[i]? = some w := hi
  rw [List.getElem?_map] at hi'
  cases e : nm.2[i]? with
  | none => rw [e] at hi'; cases hi'
  | some v =>
    rw [e] at hi'
    cases hi'
    obtain ⟨w1, w2, w3, w4⟩ := h.2 i v e
    have := wordL (hw.2.2.2 v (List.mem_of_getElem? e))
    exact ⟨w2, w4, this.2.2.2.1, fun c hc => by have := foldL_r c hc; omega⟩
def NmI (μ : Mm) (d : Nat) (sh : Nat → Option Shp) (es : List Ent) (tb : Nat → List Nat) (ns : List Nm) : Prop := mF μ d 7 = nI ns.length ∧ (∀ i, i < 30 → Ng μ (nA d i)) ∧ ∀ i nm, ns[i]? = some nm → NmC μ (nA d i) (sh nm.1) es tb nm
def LsI (μ : Mm) (d : Nat) (sh : Nat → Option Shp) (es : List Ent) (ns : List Nm) : Prop := mF μ d 9 = -1 ∨ ∃ i nm, ns[i]? = some nm ∧ mF μ d 9 = nI i ∧ Lst μ (d + 263) nm.2.length (rdT (sh nm.1) es nm)
/-- insertion, the last ones first -/
def insB (bef : Nat → Nat → Bool) (x : Nat) : List Nat → List Nat
  | [] => [x]
  | y :: r => if bef x y then y :: insB bef x r else x :: y :: r
def rnkR (bef : Nat → Nat → Bool) : Nat → List Nat
  | 0 => []
  | n + 1 => insB bef n (rnkR bef n)
noncomputable def befN (sh : Nat → Option Shp) (es : List Ent) (ns : List Nm) (i j : Nat) : Bool := match ns[i]?, ns[j]? with
  | some a, some b => befL (rdB (sh a.1) es a) (kyW (sh a.1) es a) (rdB (sh b.1) es b) (kyW (sh b.1) es b)
  | _, _ => false
noncomputable def rnk (sh : Nat → Option Shp) (es : List Ent) (ns : List Nm) : List Nat := (rnkR (befN sh es ns) ns.length).reverse
def RkI (μ : Mm) (d : Nat) (sh : Nat → Option Shp) (es : List Ent) (ns : List Nm) : Prop := ∃ b, mF μ d 11 = bI b ∧ (b = true → Hd (mA μ (d + 294)) (rnk sh es ns))
def DI (d : Nat) (S : Ast) (μ : Mm) : Prop := GD μ d ∧ TI μ d (aT S) ∧ XI μ d (aF S) (aP S) ∧ BI μ d (aB S) ∧ Wd μ (d + 259) ∧ RI μ d ∧ TbI μ d (aL S) ∧ Ln μ (d + 298) ∧ SM μ d (aS S) ∧ NmI μ d (aS S) (aB S) (aL S) (aN S) ∧ LsI μ d (aS S) (aB S) (aN S) ∧ RkI μ d (aS S) (aB S) (aN S)
theorem NmI.fx {S : Nat → Prop} {μ' : Mm} {d : Nat} {sh : Nat → Option Shp} {es : List Ent} {tb : Nat → List Nat} {ns : List Nm} (h : NmI μ d sh es tb ns) (hw : ns.length ≤ 30 ∧ ∀ nm ∈ ns, wfN nm) (f : Fx S μ μ') (h7 : mF μ' d 7 = mF μ d 7) (hS : ∀ q, d + 355 ≤ q → q < d + 1255 → ¬ S q) : NmI μ' d sh es tb ns := by
  refine ⟨by rw [h7]; exact h.1, fun i hi => (h.2.1 i hi).fx f (fun q hq => hS q ?_ ?_), fun i nm hi => (h.2.2 i nm hi).fx (hw.2 nm (List.mem_of_getElem? hi)).2.2.1 f (fun q hq => hS q ?_ ?_)⟩
  all_goals
    unfold nS nA at hq
    try have := (List.getElem?_eq_some_iff.mp hi).1
    omega
theorem LsI.fx {S : Nat → Prop} {μ' : Mm} {d : Nat} {sh : Nat → Option Shp} {es : List Ent} {ns : List Nm} (h : LsI μ d sh es ns) (f : Fx S μ μ') (h9 : mF μ' d 9 = mF μ d 9) (hS : ∀ q, d + 263 ≤ q → q < d + 294 → ¬ S q) : LsI μ' d sh es ns := by
  unfold LsI
  rw [h9]
  rcases h with h | ⟨i, nm, h1, h2, h3⟩
  · exact Or.inl h
  · exact Or.inr ⟨i, nm, h1, h2, h3.fx f (fun q a b => hS q a (by omega))⟩
theorem RkI.fx {S : Nat → Prop} {μ' : Mm} {d : Nat} {sh : Nat → Option Shp} {es : List Ent} {ns : List Nm} (h : RkI μ d sh es ns) (f : Fx S μ μ') (h11 : mF μ' d 11 = mF μ d 11) (hS : ¬ S (d + 294)) : RkI μ' d sh es ns := by
  obtain ⟨b, h1, h2⟩ := h
  exact ⟨b, by rw [h11]; exact h1, fun q => by rw [(f.2.2.2 _ hS).2.2.1]; exact h2 q⟩
end STATE
