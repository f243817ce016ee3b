/-! NameDesk: agree, father -/
section AGREE
variable {E : En} {μ : Mm} {K : Option Value → Mm → Prop}
/-- the places of the words of these kinds, from place j on -/
def plB (bits : Nat) : List Nat → Nat → List Nat
  | [], _ => []
  | x :: r, j => if bits.testBit x = true then j :: plB bits r (j + 1) else plB bits r (j + 1)
def hd1 : List Nat → Int32
  | [] => -1
  | w :: _ => nI w
theorem plB_drop {bits : Nat} {ks : List Nat} {i : Nat} (h : i < ks.length) : plB bits (ks.drop i) i = if bits.testBit ks[i] = true then i :: plB bits (ks.drop (i + 1)) (i + 1) else plB bits (ks.drop (i + 1)) (i + 1) := by
  rw [List.drop_eq_getElem_cons h]; rfl
theorem plB_skip {bits : Nat} {ks : List Nat} {w : Nat} : ∀ fu f, f + fu = w → w ≤ ks.length → (∀ v, f ≤ v → ∀ h : v < ks.length, v < w → bits.testBit ks[v] = false) → plB bits (ks.drop f) f = plB bits (ks.drop w) w := by
  intro fu
  induction fu with
  | zero => intro f hf _ _; rw [show f = w by omega]
  | succ fu ih =>
    intro f hf hw hno
    rw [plB_drop (by omega), if_neg (by rw [hno f (Nat.le_refl _) (by omega) (by omega)]; decide)]
    exact ih (f + 1) (by omega) hw (fun v h1 h h2 => hno v (by omega) h h2)
theorem plB_end {bits : Nat} {ks : List Nat} {f : Nat} (h : ks.length ≤ f) : plB bits (ks.drop f) f = [] := by rw [List.drop_eq_nil_of_le h]; rfl
theorem plB_len {bits : Nat} : ∀ (ks : List Nat) (j : Nat), (plB bits ks j).length ≤ ks.length := by
  intro ks
  induction ks with
  | nil => intro j; simp [plB]
  | cons x r ih =>
    intro j
    unfold plB
    have := ih (j + 1)
    split
    · simp; omega
    · simp; omega
def pls (rd : Bool) (bits : Nat) (ks : List Nat) (f : Nat) : List Nat := if rd then plB bits (ks.drop f) f else []
theorem pls_cons {rd : Bool} {bits f w : Nat} {ks r : List Nat} (h : pls rd bits ks f = w :: r) : w < ks.length ∧ f ≤ w ∧ r = pls rd bits ks (w + 1) := by
  unfold pls at h ⊢
  cases rd with
  | false => simp at h
  | true =>
    simp only [if_true] at h ⊢
    suffices H : ∀ fu g, g + fu = ks.length → f ≤ g → plB bits (ks.drop g) g = w :: r → w < ks.length ∧ f ≤ w ∧ r = plB bits (ks.drop (w + 1)) (w + 1) by
      by_cases c : f ≤ ks.length
      · exact H (ks.length - f) f (by omega) (Nat.le_refl _) h
      · rw [plB_end (by omega)] at h; cases h
    intro fu
    induction fu with
    | zero => intro g hg _ h; rw [plB_end (by omega)] at h; cases h
    | succ fu ih =>
      intro g hg hfg h
      rw [plB_drop (by omega)] at h
      split at h
      · cases h; exact ⟨by omega, hfg, rfl⟩
      · exact ih (g + 1) (by omega) (by omega) h
theorem c_nextOf2 {a bits f : Nat} {rd : Bool} {ks : List Nat} (hg : Ng μ a) (hk : Nk μ a rd ks) (hb : bits < 128) (hf : f < 2 ^ 30) (k : K (some (.int (hd1 (pls rd bits ks f)))) μ) : Cl E M_X2_nextOf [.ref a, .int (nI bits), .int (nI f)] μ K := by
  refine c_nextOf hg hk hb hf (fun h => ?_) (fun hr w hfw hw hbit hno => ?_)
  · have : pls rd bits ks f = [] := by
      unfold pls
      cases rd with
      | false => rfl
      | true =>
        rcases h with h | h
        · cases h
        · simp only [if_true]
          by_cases c : f ≤ ks.length
          · rw [plB_skip (ks.length - f) f (w := ks.length) (by omega) (Nat.le_refl _) (fun v h1 h' _ => h v h1 h')]
            exact plB_end (Nat.le_refl _)
          · exact plB_end (by omega)
    rw [this] at k
    exact k
  · have : pls rd bits ks f = w :: plB bits (ks.drop (w + 1)) (w + 1) := by
      unfold pls
      rw [if_pos hr, plB_skip (w - f) f (w := w) (by omega) (by omega) (fun v h1 h' h2 => hno v h1 h2), plB_drop hw, if_pos hbit]
    rw [this] at k
    exact k
theorem pls_len {rd : Bool} {bits f : Nat} {ks : List Nat} : (pls rd bits ks f).length ≤ ks.length - f := by
  unfold pls
  split
  · have := plB_len (bits := bits) (ks.drop f) f
    rw [List.length_drop] at this
    exact this
  · simp
theorem Nk.l8 {a : Nat} {rd : Bool} {ks : List Nat} (h : Nk μ a rd ks) : ks.length ≤ 8 := h.2.2.1
/-- the words at these places -/
def wsA (fs : List (List Nat)) (pl : List Nat) : List (List Nat) := pl.map (fun p => fs.getD p [])
def fitA : List (List Nat) → List (List Nat) → Bool
  | x :: r, y :: t => fitL x y && fitA r t
  | _, _ => true
theorem hd1_m1 {l : List Nat} (h : ∀ w ∈ l, w < 8) : hd1 l = -1 ↔ l = [] := by
  cases l with
  | nil => simp [hd1]
  | cons w r =>
    have := h w (by simp)
    constructor
    · intro e; exact absurd e (nI_nm1 (by omega))
    · intro e; cases e
theorem c_sameFamily {a o : Nat} {r1 r2 : Bool} {k1 k2 : List Nat} {f1 f2 : List (List Nat)} (hg : Ng μ a) (ho : Ng μ o) (hk : Nk μ a r1 k1) (hl : Nk μ o r2 k2) (hf : Nf μ a f1) (hh : Nf μ o f2) (e1 : f1.length = k1.length) (e2 : f2.length = k2.length)
    (k : K (some (.int (bI (decide (wsA f1 (pls r1 16 k1 0) = wsA f2 (pls r2 16 k2 0)))))) μ) : Cl E M_X9_sameFamily [.ref a, .ref o] μ K := by
  have g8 := hk.l8
  have h8 := hl.l8
  obtain ⟨⟨kk, p2, p5, p6, p9, kk1, ll1, kk2, ll2, kk3, ll3⟩, hLn, hWs⟩ := id hg
  obtain ⟨⟨ok, o2, o5, o6, o9, ok1, ol1, ok2, ol2, ok3, ol3⟩, oLn, oWs⟩ := id ho
  have no : ¬ (wsA f1 (pls r1 16 k1 0) = wsA f2 (pls r2 16 k2 0)) → K (some (.int (nI 0))) μ := fun h => by rw [← bI_f (b := decide (wsA f1 (pls r1 16 k1 0) = wsA f2 (pls r2 16 k2 0))) (by simp [h])]; exact k
  have ye : (wsA f1 (pls r1 16 k1 0) = wsA f2 (pls r2 16 k2 0)) → K (some (.int (nI 1))) μ := fun h => by rw [← bI_t (b := decide (wsA f1 (pls r1 16 k1 0) = wsA f2 (pls r2 16 k2 0))) (by simp [h])]; exact k
  have loop : ∀ (fu t fa fb : Nat), t + fu = 8 → (pls r1 16 k1 fa).length ≤ fu → (pls r2 16 k2 fb).length ≤ fu → (wsA f1 (pls r1 16 k1 0) = wsA f2 (pls r2 16 k2 0) ↔ wsA f1 (pls r1 16 k1 fa) = wsA f2 (pls r2 16 k2 fb)) → Ev E M_X9_sameFamily 0 0 19 [some (.ref a), some (.ref o), some (.int (hd1 (pls r1 16 k1 fa))), some (.int (hd1 (pls r2 16 k2 fb))), some (.int (nI t))] [] μ K := by
    have fin : ∀ fa fb l4, ((pls r1 16 k1 fa) = [] ∨ (pls r2 16 k2 fb) = []) → (wsA f1 (pls r1 16 k1 0) = wsA f2 (pls r2 16 k2 0) ↔ wsA f1 (pls r1 16 k1 fa) = wsA f2 (pls r2 16 k2 fb)) → Ev E M_X9_sameFamily 0 0 82 [some (.ref a), some (.ref o), some (.int (hd1 (pls r1 16 k1 fa))), some (.int (hd1 (pls r2 16 k2 fb))), l4] [] μ K := by
      intro fa fb l4 hor hiff
      cases eA : pls r1 16 k1 fa with
      | nil =>
        cases eB : pls r2 16 k2 fb with
        | nil =>
          refine e_il2 83 rfl dX9_sameFamily_82 ?_
          refine e_iconst (-1) 84 rfl dX9_sameFamily_83 ic_m1 ?_
          refine e_cmp_ne 96 87 (by decide) rfl dX9_sameFamily_84 (fun y1 => ?_) (fun y1 => ?_)
          · exact absurd rfl y1
          refine e_il3 88 rfl dX9_sameFamily_87 ?_
          refine e_iconst (-1) 89 rfl dX9_sameFamily_88 ic_m1 ?_
          refine e_cmp_ne 96 92 (by decide) rfl dX9_sameFamily_89 (fun y2 => ?_) (fun y2 => ?_)
          · exact absurd rfl y2
          refine e_iconst (nI 1) 93 rfl dX9_sameFamily_92 ic_1 ?_
          refine e_goto 97 (by decide) dX9_sameFamily_93 ?_
          refine e_zret dX9_sameFamily_97 rfl (by first | exact z0 | exact z1 | exact bI01 _ | assumption) ?_
          exact ye (hiff.mpr (by rw [eA, eB]; rfl))
        | cons w r =>
          have hw := (pls_cons eB).1
          refine e_il2 83 rfl dX9_sameFamily_82 ?_
          refine e_iconst (-1) 84 rfl dX9_sameFamily_83 ic_m1 ?_
          refine e_cmp_ne 96 87 (by decide) rfl dX9_sameFamily_84 (fun y1 => ?_) (fun y1 => ?_)
          · exact absurd rfl y1
          refine e_il3 88 rfl dX9_sameFamily_87 ?_
          refine e_iconst (-1) 89 rfl dX9_sameFamily_88 ic_m1 ?_
          refine e_cmp_ne 96 92 (by decide) rfl dX9_sameFamily_89 (fun y2 => ?_) (fun y2 => ?_)
          · refine e_iconst (nI 0) 97 rfl dX9_sameFamily_96 ic_0 ?_
            refine e_zret dX9_sameFamily_97 rfl (by first | exact z0 | exact z1 | exact bI01 _ | assumption) ?_
            exact no (fun q => by have := hiff.mp q; rw [eA, eB] at this; cases this)
          · exact absurd y2 (nI_nm1 (by omega))
      | cons w r =>
        have hw := (pls_cons eA).1
        have eB : pls r2 16 k2 fb = [] := by rcases hor with q | q; rw [eA] at q; cases q; exact q
        refine e_il2 83 rfl dX9_sameFamily_82 ?_
        refine e_iconst (-1) 84 rfl dX9_sameFamily_83 ic_m1 ?_
        refine e_cmp_ne 96 87 (by decide) rfl dX9_sameFamily_84 (fun y1 => ?_) (fun y1 => ?_)
        · refine e_iconst (nI 0) 97 rfl dX9_sameFamily_96 ic_0 ?_
          refine e_zret dX9_sameFamily_97 rfl (by first | exact z0 | exact z1 | exact bI01 _ | assumption) ?_
          exact no (fun q => by have := hiff.mp q; rw [eA, eB] at this; cases this)
        · exact absurd y1 (nI_nm1 (by omega))
    intro fu
    induction fu with
    | zero =>
      intro t fa fb ht la lb hiff
      refine e_il4 21 rfl dX9_sameFamily_19 ?_
      refine e_bipush (nI 8) 23 rfl dX9_sameFamily_21 bc_8 ?_
      first | refine e_cmp_geN 82 26 (by decide) rfl dX9_sameFamily_23 rfl rfl (by omega) (by omega) (fun y1 => ?_) (fun y1 => ?_) | refine e_cmp_ge 82 26 (by decide) rfl dX9_sameFamily_23 (fun y1 => ?_) (fun y1 => ?_)
      rotate_left
      · omega
      exact fin fa fb _ (Or.inl (List.eq_nil_of_length_eq_zero (by omega))) hiff
    | succ fu ih =>
      intro t fa fb ht la lb hiff
      refine e_il4 21 rfl dX9_sameFamily_19 ?_
      refine e_bipush (nI 8) 23 rfl dX9_sameFamily_21 bc_8 ?_
      first | refine e_cmp_geN 82 26 (by decide) rfl dX9_sameFamily_23 rfl rfl (by omega) (by omega) (fun y1 => ?_) (fun y1 => ?_) | refine e_cmp_ge 82 26 (by decide) rfl dX9_sameFamily_23 (fun y1 => ?_) (fun y1 => ?_)
      · omega
      cases eA : pls r1 16 k1 fa with
      | nil =>
        refine e_il2 27 rfl dX9_sameFamily_26 ?_
        refine e_iconst (-1) 28 rfl dX9_sameFamily_27 ic_m1 ?_
        refine e_cmp_eq 82 31 (by decide) rfl dX9_sameFamily_28 (fun y2 => ?_) (fun y2 => ?_)
        · have := fin fa fb (some (.int (nI t))) (Or.inl eA) hiff
          rw [eA] at this
          exact this
        · exact absurd rfl y2
      | cons w r =>
      obtain ⟨hw, hfw, er⟩ := pls_cons eA
      refine e_il2 27 rfl dX9_sameFamily_26 ?_
      refine e_iconst (-1) 28 rfl dX9_sameFamily_27 ic_m1 ?_
      refine e_cmp_eq 82 31 (by decide) rfl dX9_sameFamily_28 (fun y2 => ?_) (fun y2 => ?_)
      · exact absurd y2 (nI_nm1 (by omega))
      cases eB : pls r2 16 k2 fb with
      | nil =>
        refine e_il3 32 rfl dX9_sameFamily_31 ?_
        refine e_iconst (-1) 33 rfl dX9_sameFamily_32 ic_m1 ?_
        refine e_cmp_eq 82 36 (by decide) rfl dX9_sameFamily_33 (fun y3 => ?_) (fun y3 => ?_)
        · have := fin fa fb (some (.int (nI t))) (Or.inr eB) hiff
          rw [eA, eB] at this
          exact this
        · exact absurd rfl y3
      | cons v q =>
      obtain ⟨hv, hfv, eq⟩ := pls_cons eB
      refine e_il3 32 rfl dX9_sameFamily_31 ?_
      refine e_iconst (-1) 33 rfl dX9_sameFamily_32 ic_m1 ?_
      refine e_cmp_eq 82 36 (by decide) rfl dX9_sameFamily_33 (fun y3 => ?_) (fun y3 => ?_)
      · exact absurd y3 (nI_nm1 (by omega))
      have hw1 : w < f1.length := by omega
      have hv1 : v < f2.length := by omega
      have ow := (hWs w (by omega)).1
      have oWd := (hWs w (by omega)).2
      have wk := oWd.1
      have ov := (oWs v (by omega)).1
      have vWd := (oWs v (by omega)).2
      have hwl := hf.2.2 w _ (List.getElem?_eq_getElem hw1)
      have hvl := hh.2.2 v _ (List.getElem?_eq_getElem hv1)
      have x1 : hd1 (w :: r) = nI w := rfl
      have x2 : hd1 (v :: q) = nI v := rfl
      rw [x1, x2]
      refine e_al0 37 rfl dX9_sameFamily_36 ?_
      refine e_getR 40 rfl dX9_sameFamily_37 f_X9_220 (by assumption) (by assumption) ?_
      refine e_il2 41 rfl dX9_sameFamily_40 ?_
      refine e_aald 42 rfl dX9_sameFamily_41 (by assumption) (by decide) (by assumption) (by first | rfl | simp only [pk_mul, nI_add]) (by omega) (by omega) (by assumption) ?_
      refine e_al1 43 rfl dX9_sameFamily_42 ?_
      refine e_getR 46 rfl dX9_sameFamily_43 f_X9_220 (by assumption) (by assumption) ?_
      refine e_il3 47 rfl dX9_sameFamily_46 ?_
      refine e_aald 48 rfl dX9_sameFamily_47 (by assumption) (by decide) (by assumption) (by first | rfl | simp only [pk_mul, nI_add]) (by omega) (by omega) (by assumption) ?_
      refine e_invV0 [_] 51 rfl dX9_sameFamily_48 k_X9_310 mo_X8_alike rm_X9_sameFamily_X8_alike ⟨rfl, rfl⟩ rfl rfl (by assumption) (Nat.le_of_ble_eq_true rfl) ?_
      refine c_alike oWd vWd hwl hvl ?_
      have st : wsA f1 (pls r1 16 k1 fa) = wsA f2 (pls r2 16 k2 fb) ↔ f1[w] = f2[v] ∧ wsA f1 r = wsA f2 q := by
        rw [eA, eB]
        unfold wsA
        rw [List.map_cons, List.map_cons, List.cons.injEq, List.getD_eq_getElem?_getD, List.getD_eq_getElem?_getD, List.getElem?_eq_getElem hw1, List.getElem?_eq_getElem hv1]
        rfl
      first | refine e_if_neB 56 54 (by decide) rfl dX9_sameFamily_51 rfl (fun y4 => ?_) (fun y4 => ?_) | refine e_if_neN 56 54 (by decide) rfl dX9_sameFamily_51 rfl (by omega) (fun y4 => ?_) (fun y4 => ?_) | refine e_if_ne 56 54 (by decide) rfl dX9_sameFamily_51 (fun y4 => ?_) (fun y4 => ?_)
      rotate_left
      · refine e_iconst (nI 0) 55 rfl dX9_sameFamily_54 ic_0 ?_
        refine e_zret dX9_sameFamily_55 rfl (by first | exact z0 | exact z1 | exact bI01 _ | assumption) ?_
        exact no (fun z => by have := (st.mp (hiff.mp z)).1; simp [this] at y4)
      have y4' : f1[w] = f2[v] := of_decide_eq_true y4
      refine e_al0 57 rfl dX9_sameFamily_56 ?_
      refine e_bipush (nI 16) 59 rfl dX9_sameFamily_57 bc_16 ?_
      refine e_il2 60 rfl dX9_sameFamily_59 ?_
      refine e_iconst (nI 1) 61 rfl dX9_sameFamily_60 ic_1 ?_
      first | refine e_iaddN 62 rfl dX9_sameFamily_61 rfl rfl ?_ | refine e_iadd 62 rfl dX9_sameFamily_61 ?_
      refine e_invV0 [_, _] 65 rfl dX9_sameFamily_62 k_X9_217 mo_X2_nextOf rm_X9_sameFamily_X2_nextOf ⟨rfl, rfl⟩ rfl rfl (by assumption) (Nat.le_of_ble_eq_true rfl) ?_
      refine c_nextOf2 hg hk (by decide) (by omega) ?_
      refine e_is2 66 rfl dX9_sameFamily_65 (by decide) rfl ?_
      refine e_al1 67 rfl dX9_sameFamily_66 ?_
      refine e_bipush (nI 16) 69 rfl dX9_sameFamily_67 bc_16 ?_
      refine e_il3 70 rfl dX9_sameFamily_69 ?_
      refine e_iconst (nI 1) 71 rfl dX9_sameFamily_70 ic_1 ?_
      first | refine e_iaddN 72 rfl dX9_sameFamily_71 rfl rfl ?_ | refine e_iadd 72 rfl dX9_sameFamily_71 ?_
      refine e_invV0 [_, _] 75 rfl dX9_sameFamily_72 k_X9_217 mo_X2_nextOf rm_X9_sameFamily_X2_nextOf ⟨rfl, rfl⟩ rfl rfl (by assumption) (Nat.le_of_ble_eq_true rfl) ?_
      refine c_nextOf2 ho hl (by decide) (by omega) ?_
      refine e_is3 76 rfl dX9_sameFamily_75 (by decide) rfl ?_
      refine e_ii4 (nI (_ + 1)) 79 rfl dX9_sameFamily_76 (ii1 _) rfl ?_
      refine e_goto 19 (by decide) dX9_sameFamily_79 ?_
      refine ih (t + 1) (w + 1) (v + 1) (by omega) ?_ ?_ (hiff.trans ?_)
      · rw [← er]; rw [eA] at la; simp at la; exact la
      · rw [← eq]; rw [eB] at lb; simp at lb; exact lb
      · rw [st, ← er, ← eq]
        exact ⟨fun z => z.2, fun z => ⟨y4', z⟩⟩
  refine Cl.of0 3 pn_X9 (Nat.le_of_ble_eq_true rfl) ⟨rfl, rfl⟩ rfl ?_
  refine e_al0 1 rfl dX9_sameFamily_0 ?_
  refine e_bipush (nI 16) 3 rfl dX9_sameFamily_1 bc_16 ?_
  refine e_iconst (nI 0) 4 rfl dX9_sameFamily_3 ic_0 ?_
  refine e_invV0 [_, _] 7 rfl dX9_sameFamily_4 k_X9_217 mo_X2_nextOf rm_X9_sameFamily_X2_nextOf ⟨rfl, rfl⟩ rfl rfl (by assumption) (Nat.le_of_ble_eq_true rfl) ?_
  refine c_nextOf2 hg hk (by decide) (by omega) ?_
  refine e_is2 8 rfl dX9_sameFamily_7 (by decide) rfl ?_
  refine e_al1 9 rfl dX9_sameFamily_8 ?_
  refine e_bipush (nI 16) 11 rfl dX9_sameFamily_9 bc_16 ?_
  refine e_iconst (nI 0) 12 rfl dX9_sameFamily_11 ic_0 ?_
  refine e_invV0 [_, _] 15 rfl dX9_sameFamily_12 k_X9_217 mo_X2_nextOf rm_X9_sameFamily_X2_nextOf ⟨rfl, rfl⟩ rfl rfl (by assumption) (Nat.le_of_ble_eq_true rfl) ?_
  refine c_nextOf2 ho hl (by decide) (by omega) ?_
  refine e_is3 16 rfl dX9_sameFamily_15 (by decide) rfl ?_
  refine e_iconst (nI 0) 17 rfl dX9_sameFamily_16 ic_0 ?_
  refine e_is4 19 rfl dX9_sameFamily_17 (by decide) rfl ?_
  exact loop 8 0 0 0 (by omega) (Nat.le_trans pls_len (by omega)) (Nat.le_trans pls_len (by omega)) Iff.rfl
theorem c_fittingGiven {a o : Nat} {r1 r2 : Bool} {k1 k2 : List Nat} {f1 f2 : List (List Nat)} (hg : Ng μ a) (ho : Ng μ o) (hk : Nk μ a r1 k1) (hl : Nk μ o r2 k2) (hf : Nf μ a f1) (hh : Nf μ o f2) (e1 : f1.length = k1.length) (e2 : f2.length = k2.length)
    (k : K (some (.int (bI (fitA (wsA f1 (pls r1 66 k1 0)) (wsA f2 (pls r2 66 k2 0)))))) μ) : Cl E M_X9_fittingGiven [.ref a, .ref o] μ K := by
  have g8 := hk.l8
  have h8 := hl.l8
  obtain ⟨⟨kk, p2, p5, p6, p9, kk1, ll1, kk2, ll2, kk3, ll3⟩, hLn, hWs⟩ := id hg
  obtain ⟨⟨ok, o2, o5, o6, o9, ok1, ol1, ok2, ol2, ok3, ol3⟩, oLn, oWs⟩ := id ho
  have nil1 : ∀ l, fitA l [] = true := fun l => by cases l <;> rfl
  have loop : ∀ (fu t fa fb : Nat), t + fu = 8 → (pls r1 66 k1 fa).length ≤ fu → (pls r2 66 k2 fb).length ≤ fu → fitA (wsA f1 (pls r1 66 k1 0)) (wsA f2 (pls r2 66 k2 0)) = fitA (wsA f1 (pls r1 66 k1 fa)) (wsA f2 (pls r2 66 k2 fb)) → Ev E M_X9_fittingGiven 0 0 21 [some (.ref a), some (.ref o), some (.int (nI 66)), some (.int (hd1 (pls r1 66 k1 fa))), some (.int (hd1 (pls r2 66 k2 fb))), some (.int (nI t))] [] μ K := by
    have fin : ∀ fa fb l3 l4 l5, ((pls r1 66 k1 fa) = [] ∨ (pls r2 66 k2 fb) = []) → fitA (wsA f1 (pls r1 66 k1 0)) (wsA f2 (pls r2 66 k2 0)) = fitA (wsA f1 (pls r1 66 k1 fa)) (wsA f2 (pls r2 66 k2 fb)) → Ev E M_X9_fittingGiven 0 0 86 [some (.ref a), some (.ref o), some (.int (nI 66)), l3, l4, l5] [] μ K := by
      intro fa fb l3 l4 l5 hor he
      refine e_iconst (nI 1) 87 rfl dX9_fittingGiven_86 ic_1 ?_
      refine e_zret dX9_fittingGiven_87 rfl (by first | exact z0 | exact z1 | exact bI01 _ | assumption) ?_
      have : fitA (wsA f1 (pls r1 66 k1 0)) (wsA f2 (pls r2 66 k2 0)) = true := by
        rw [he]
        rcases hor with q | q
        · rw [q]; rfl
        · rw [q]; exact nil1 _
      rw [this] at k
      exact k
    intro fu
    induction fu with
    | zero =>
      intro t fa fb ht la lb hiff
      refine e_il5 23 rfl dX9_fittingGiven_21 ?_
      refine e_bipush (nI 8) 25 rfl dX9_fittingGiven_23 bc_8 ?_
      first | refine e_cmp_geN 86 28 (by decide) rfl dX9_fittingGiven_25 rfl rfl (by omega) (by omega) (fun y1 => ?_) (fun y1 => ?_) | refine e_cmp_ge 86 28 (by decide) rfl dX9_fittingGiven_25 (fun y1 => ?_) (fun y1 => ?_)
      rotate_left
      · omega
      exact fin fa fb _ _ _ (Or.inl (List.eq_nil_of_length_eq_zero (by omega))) hiff
    | succ fu ih =>
      intro t fa fb ht la lb hiff
      refine e_il5 23 rfl dX9_fittingGiven_21 ?_
      refine e_bipush (nI 8) 25 rfl dX9_fittingGiven_23 bc_8 ?_
      first | refine e_cmp_geN 86 28 (by decide) rfl dX9_fittingGiven_25 rfl rfl (by omega) (by omega) (fun y1 => ?_) (fun y1 => ?_) | refine e_cmp_ge 86 28 (by decide) rfl dX9_fittingGiven_25 (fun y1 => ?_) (fun y1 => ?_)
      · omega
      cases eA : pls r1 66 k1 fa with
      | nil =>
        refine e_il3 29 rfl dX9_fittingGiven_28 ?_
        refine e_iconst (-1) 30 rfl dX9_fittingGiven_29 ic_m1 ?_
        refine e_cmp_eq 86 33 (by decide) rfl dX9_fittingGiven_30 (fun y2 => ?_) (fun y2 => ?_)
        · exact fin fa fb _ _ _ (Or.inl eA) hiff
        · exact absurd rfl y2
      | cons w r =>
      obtain ⟨hw, hfw, er⟩ := pls_cons eA
      refine e_il3 29 rfl dX9_fittingGiven_28 ?_
      refine e_iconst (-1) 30 rfl dX9_fittingGiven_29 ic_m1 ?_
      refine e_cmp_eq 86 33 (by decide) rfl dX9_fittingGiven_30 (fun y2 => ?_) (fun y2 => ?_)
      · exact absurd y2 (nI_nm1 (by omega))
      cases eB : pls r2 66 k2 fb with
      | nil =>
        refine e_il4 35 rfl dX9_fittingGiven_33 ?_
        refine e_iconst (-1) 36 rfl dX9_fittingGiven_35 ic_m1 ?_
        refine e_cmp_eq 86 39 (by decide) rfl dX9_fittingGiven_36 (fun y3 => ?_) (fun y3 => ?_)
        · exact fin fa fb _ _ _ (Or.inr eB) hiff
        · exact absurd rfl y3
      | cons v q =>
      obtain ⟨hv, hfv, eq⟩ := pls_cons eB
      refine e_il4 35 rfl dX9_fittingGiven_33 ?_
      refine e_iconst (-1) 36 rfl dX9_fittingGiven_35 ic_m1 ?_
      refine e_cmp_eq 86 39 (by decide) rfl dX9_fittingGiven_36 (fun y3 => ?_) (fun y3 => ?_)
      · exact absurd y3 (nI_nm1 (by omega))
      have hw1 : w < f1.length := by omega
      have hv1 : v < f2.length := by omega
      have ow := (hWs w (by omega)).1
      have oWd := (hWs w (by omega)).2
      have wk := oWd.1
      have ov := (oWs v (by omega)).1
      have vWd := (oWs v (by omega)).2
      have hwl := hf.2.2 w _ (List.getElem?_eq_getElem hw1)
      have hvl := hh.2.2 v _ (List.getElem?_eq_getElem hv1)
      have x1 : hd1 (w :: r) = nI w := rfl
      have x2 : hd1 (v :: q) = nI v := rfl
      rw [x1, x2]
      refine e_al0 40 rfl dX9_fittingGiven_39 ?_
      refine e_getR 43 rfl dX9_fittingGiven_40 f_X9_220 (by assumption) (by assumption) ?_
      refine e_il3 44 rfl dX9_fittingGiven_43 ?_
      refine e_aald 45 rfl dX9_fittingGiven_44 (by assumption) (by decide) (by assumption) (by first | rfl | simp only [pk_mul, nI_add]) (by omega) (by omega) (by assumption) ?_
      refine e_al1 46 rfl dX9_fittingGiven_45 ?_
      refine e_getR 49 rfl dX9_fittingGiven_46 f_X9_220 (by assumption) (by assumption) ?_
      refine e_il4 51 rfl dX9_fittingGiven_49 ?_
      refine e_aald 52 rfl dX9_fittingGiven_51 (by assumption) (by decide) (by assumption) (by first | rfl | simp only [pk_mul, nI_add]) (by omega) (by omega) (by assumption) ?_
      refine e_invV0 [_] 55 rfl dX9_fittingGiven_52 k_X9_313 mo_X8_fits rm_X9_fittingGiven_X8_fits ⟨rfl, rfl⟩ rfl rfl (by assumption) (Nat.le_of_ble_eq_true rfl) ?_
      refine c_fits oWd vWd hwl hvl ?_
      have st : fitA (wsA f1 (pls r1 66 k1 fa)) (wsA f2 (pls r2 66 k2 fb)) = (fitL f1[w] f2[v] && fitA (wsA f1 r) (wsA f2 q)) := by
        rw [eA, eB]
        unfold wsA
        rw [List.map_cons, List.map_cons, List.getD_eq_getElem?_getD, List.getD_eq_getElem?_getD, List.getElem?_eq_getElem hw1, List.getElem?_eq_getElem hv1]
        rfl
      first | refine e_if_neB 60 58 (by decide) rfl dX9_fittingGiven_55 rfl (fun y4 => ?_) (fun y4 => ?_) | refine e_if_neN 60 58 (by decide) rfl dX9_fittingGiven_55 rfl (by omega) (fun y4 => ?_) (fun y4 => ?_) | refine e_if_ne 60 58 (by decide) rfl dX9_fittingGiven_55 (fun y4 => ?_) (fun y4 => ?_)
      rotate_left
      · refine e_iconst (nI 0) 59 rfl dX9_fittingGiven_58 ic_0 ?_
        refine e_zret dX9_fittingGiven_59 rfl (by first | exact z0 | exact z1 | exact bI01 _ | assumption) ?_
        rw [hiff, st, y4] at k
        exact k
      refine e_al0 61 rfl dX9_fittingGiven_60 ?_
      refine e_il2 62 rfl dX9_fittingGiven_61 ?_
      refine e_il3 63 rfl dX9_fittingGiven_62 ?_
      refine e_iconst (nI 1) 64 rfl dX9_fittingGiven_63 ic_1 ?_
      first | refine e_iaddN 65 rfl dX9_fittingGiven_64 rfl rfl ?_ | refine e_iadd 65 rfl dX9_fittingGiven_64 ?_
      refine e_invV0 [_, _] 68 rfl dX9_fittingGiven_65 k_X9_217 mo_X2_nextOf rm_X9_fittingGiven_X2_nextOf ⟨rfl, rfl⟩ rfl rfl (by assumption) (Nat.le_of_ble_eq_true rfl) ?_
      refine c_nextOf2 hg hk (by decide) (by omega) ?_
      refine e_is3 69 rfl dX9_fittingGiven_68 (by decide) rfl ?_
      refine e_al1 70 rfl dX9_fittingGiven_69 ?_
      refine e_il2 71 rfl dX9_fittingGiven_70 ?_
      refine e_il4 73 rfl dX9_fittingGiven_71 ?_
      refine e_iconst (nI 1) 74 rfl dX9_fittingGiven_73 ic_1 ?_
      first | refine e_iaddN 75 rfl dX9_fittingGiven_74 rfl rfl ?_ | refine e_iadd 75 rfl dX9_fittingGiven_74 ?_
      refine e_invV0 [_, _] 78 rfl dX9_fittingGiven_75 k_X9_217 mo_X2_nextOf rm_X9_fittingGiven_X2_nextOf ⟨rfl, rfl⟩ rfl rfl (by assumption) (Nat.le_of_ble_eq_true rfl) ?_
      refine c_nextOf2 ho hl (by decide) (by omega) ?_
      refine e_is4 80 rfl dX9_fittingGiven_78 (by decide) rfl ?_
      refine e_ii5 (nI (_ + 1)) 83 rfl dX9_fittingGiven_80 (ii1 _) rfl ?_
      refine e_goto 21 (by decide) dX9_fittingGiven_83 ?_
      refine ih (t + 1) (w + 1) (v + 1) (by omega) ?_ ?_ (hiff.trans ?_)
      · rw [← er]; rw [eA] at la; simp at la; exact la
      · rw [← eq]; rw [eB] at lb; simp at lb; exact lb
      · rw [st, ← er, ← eq, y4]; rfl
  refine Cl.of0 4 pn_X9 (Nat.le_of_ble_eq_true rfl) ⟨rfl, rfl⟩ rfl ?_
  refine e_bipush (nI 66) 2 rfl dX9_fittingGiven_0 bc_66 ?_
  refine e_is2 3 rfl dX9_fittingGiven_2 (by decide) rfl ?_
  refine e_al0 4 rfl dX9_fittingGiven_3 ?_
  refine e_il2 5 rfl dX9_fittingGiven_4 ?_
  refine e_iconst (nI 0) 6 rfl dX9_fittingGiven_5 ic_0 ?_
  refine e_invV0 [_, _] 9 rfl dX9_fittingGiven_6 k_X9_217 mo_X2_nextOf rm_X9_fittingGiven_X2_nextOf ⟨rfl, rfl⟩ rfl rfl (by assumption) (Nat.le_of_ble_eq_true rfl) ?_
  refine c_nextOf2 hg hk (by decide) (by omega) ?_
  refine e_is3 10 rfl dX9_fittingGiven_9 (by decide) rfl ?_
  refine e_al1 11 rfl dX9_fittingGiven_10 ?_
  refine e_il2 12 rfl dX9_fittingGiven_11 ?_
  refine e_iconst (nI 0) 13 rfl dX9_fittingGiven_12 ic_0 ?_
  refine e_invV0 [_, _] 16 rfl dX9_fittingGiven_13 k_X9_217 mo_X2_nextOf rm_X9_fittingGiven_X2_nextOf ⟨rfl, rfl⟩ rfl rfl (by assumption) (Nat.le_of_ble_eq_true rfl) ?_
  refine c_nextOf2 ho hl (by decide) (by omega) ?_
  refine e_is4 18 rfl dX9_fittingGiven_16 (by decide) rfl ?_
  refine e_iconst (nI 0) 19 rfl dX9_fittingGiven_18 ic_0 ?_
  refine e_is5 21 rfl dX9_fittingGiven_19 (by decide) rfl ?_
  exact loop 8 0 0 0 (by omega) (Nat.le_trans pls_len (by omega)) (Nat.le_trans pls_len (by omega)) rfl
end AGREE
