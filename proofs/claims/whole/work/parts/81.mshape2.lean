/-! NameDeskModel: shape -/
section MSHAPE2
variable {E : En} {μ : Mm} {K : Option Value → Mm → Prop}
def upR (f : Nat → Int32) (b n : Nat) (g : Nat → Int32) : Nat → Int32 := fun u => if b ≤ u ∧ u < b + n then g (u - b) else f u
theorem upR_0 {f g : Nat → Int32} {b : Nat} : upR f b 0 g = f := funext (fun u => by unfold upR; rw [if_neg (by omega)])
theorem sA_s {a i : Nat} {v : Int32} : mA (sA μ a i v) a = fun u => if u = i then v else mA μ a u := funext (fun u => by
  show up2 _ a i v a u = _
  by_cases c : u = i
  · rw [c, up2_s, if_pos rfl]
  · rw [up2_k c, if_neg c])
theorem sA_o {a b i : Nat} {v : Int32} (h : b ≠ a) : mA (sA μ a i v) b = mA μ b := up2_a h
theorem sB_s {a i : Nat} {v : Int32} : mB (sB μ a i v) a = fun u => if u = i then v else mB μ a u := funext (fun u => by
  show up2 _ a i v a u = _
  by_cases c : u = i
  · rw [c, up2_s, if_pos rfl]
  · rw [up2_k c, if_neg c])
theorem upR_push {f g h : Nat → Int32} {b n : Nat} (hh : h = upR f b n g) {v : Int32} (hv : v = g n) : (fun u => if u = b + n then v else h u) = upR f b (n + 1) g := funext (fun u => by
  rw [hh]
  unfold upR
  by_cases c : u = b + n
  · rw [if_pos c, if_pos (by omega), hv, c, show b + n - b = n by omega]
  · rw [if_neg c]
    by_cases c2 : b ≤ u ∧ u < b + n
    · rw [if_pos c2, if_pos (by omega)]
    · rw [if_neg c2, if_neg (by omega)])
theorem upR_in {f g : Nat → Int32} {b n i : Nat} (h : i < n) : upR f b n g (b + i) = g i := by unfold upR; rw [if_pos (by omega), show b + i - b = i by omega]
theorem upR_out {f g : Nat → Int32} {b n u : Nat} (h : u < b ∨ b + n ≤ u) : upR f b n g u = f u := by unfold upR; rw [if_neg (by omega)]
theorem pShape_t (l : List Nat) : pShape l = match pSl l 8 0 [] with
  | .inl e => .inl e
  | .inr (p1, sl) => match pLt l 7 p1 [] with
    | .inl e => .inl e
    | .inr (p2, so) => match pLt l 7 p2 [] with
      | .inl e => .inl e
      | .inr (p3, ca) => match pTail l p3 with
        | .inl e => .inl e
        | .inr en => .inr (sl, so, ca, en) := by
  unfold pShape
  cases pSl l 8 0 [] with
  | inl e => rfl
  | inr a =>
    obtain ⟨p1, sl⟩ := a
    simp only []
    cases pLt l 7 p1 [] with
    | inl e => rfl
    | inr a =>
      obtain ⟨p2, so⟩ := a
      simp only []
      cases pLt l 7 p2 [] with
      | inl e => rfl
      | inr a =>
        obtain ⟨p3, ca⟩ := a
        simp only []
        unfold pTail
        cases pEnd l p3 with
        | inl e => rfl
        | inr a =>
          obtain ⟨p4, en⟩ := a
          simp only []
          by_cases c : l[p4]? = some 46
          · rw [if_pos c, if_pos c]
            by_cases c2 : p4 + 1 < l.length
            · rw [if_pos c2, if_pos c2]
            · rw [if_neg c2, if_neg c2]
          · rw [if_neg c, if_neg c]
/-- what lies in the rows of the shapes when a shape has been told, l the land -/
def cpB (m l : Nat) (y : Shp) (μ μ' : Mm) : Prop := mB μ' (m + 6) = (fun u => if u = l then nI 1 else mB μ (m + 6) u) ∧ mA μ' (m + 7) = (fun u => if u = l then nI y.1.length else mA μ (m + 7) u)
def cpS (m l : Nat) (y : Shp) (k : Nat) (μ μ' : Mm) : Prop := mA μ' (m + 8) = upR (mA μ (m + 8)) (8 * l) k (mA μ (m + 24)) ∧ mA μ' (m + 9) = upR (mA μ (m + 9)) (8 * l) k (mA μ (m + 25))
def cpM (m l : Nat) (y : Shp) (μ μ' : Mm) : Prop := mA μ' (m + 10) = (fun u => if u = l then nI y.2.1.length else mA μ (m + 10) u) ∧ mA μ' (m + 12) = (fun u => if u = l then nI y.2.2.1.length else mA μ (m + 12) u)
def cpT (m l k : Nat) (μ μ' : Mm) : Prop := mA μ' (m + 11) = upR (mA μ (m + 11)) (7 * l) k (mA μ (m + 26)) ∧ mA μ' (m + 13) = upR (mA μ (m + 13)) (7 * l) k (fun u => mA μ (m + 26) (7 + u))
def cpN (m l : Nat) (y : Shp) (μ μ' : Mm) : Prop := mA μ' (m + 14) = (fun u => if u = l then nI y.2.2.2.length else mA μ (m + 14) u)
def cpE (m l k : Nat) (μ μ' : Mm) : Prop := mA μ' (m + 15) = upR (mA μ (m + 15)) (6 * l) k (mA μ (m + 28))
theorem mSh_new {m ld : Nat} {y : Shp} {sh : Nat → Option Shp} {μ' : Mm} (hw : ∀ i x, sh i = some x → wfShp x) (h : mSh μ m sh) (hl : ld < 6) (hy : y.1.length ≤ 8 ∧ y.2.1.length ≤ 7 ∧ y.2.2.1.length ≤ 7 ∧ y.2.2.2.length ≤ 6) (hs : ∀ i s, y.1[i]? = some s → mA μ (m + 24) i = nI s.1 ∧ mA μ (m + 25) i = nI s.2) (hso : Hd (mA μ (m + 26)) y.2.1) (hca : Hd (fun j => mA μ (m + 26) (7 + j)) y.2.2.1) (hen : Hd (mA μ (m + 28)) y.2.2.2)
    (c1 : cpB m ld y μ μ') (c2 : cpS m ld y y.1.length μ μ') (c3 : cpM m ld y μ μ') (c4 : cpT m ld 7 μ μ') (c5 : cpN m ld y μ μ') (c6 : cpE m ld 6 μ μ') : mSh μ' m (up1 sh ld (some y)) := by
  intro l hl6
  by_cases e : l = ld
  · subst e
    rw [up1_s]
    refine ⟨by rw [c1.1]; simp only [if_true]; rfl, fun x hx => ?_⟩
    have hx' : y = x := Option.some.inj hx
    rw [← hx']
    unfold mShp
    rw [c1.2, c2.1, c2.2, c3.1, c3.2, c4.1, c4.2, c5, c6]
    simp only [if_true]
    refine ⟨trivial, fun i s hi => ?_, ⟨trivial, fun j c hj => ?_⟩, ⟨trivial, fun j c hj => ?_⟩, trivial, fun j c hj => ?_⟩
    · have hil := (List.getElem?_eq_some_iff.mp hi).1
      rw [upR_in hil, upR_in hil]
      exact hs i s hi
    · have hjl := (List.getElem?_eq_some_iff.mp hj).1
      show upR _ (7 * l) 7 _ (7 * l + j) = _
      rw [upR_in (by omega)]
      exact hso j c hj
    · have hjl := (List.getElem?_eq_some_iff.mp hj).1
      show upR _ (7 * l) 7 _ (7 * l + j) = _
      rw [upR_in (by omega)]
      exact hca j c hj
    · have hjl := (List.getElem?_eq_some_iff.mp hj).1
      show upR _ (6 * l) 6 _ (6 * l + j) = _
      rw [upR_in (by omega)]
      exact hen j c hj
  · rw [up1_n e]
    refine ⟨by rw [c1.1]; simp only [if_neg e]; exact (h l hl6).1, fun x hx => ?_⟩
    obtain ⟨⟨_, x1, _⟩, ⟨x2, _⟩, ⟨x3, _⟩, x4, _⟩ := hw l x hx
    obtain ⟨g1, g2, ⟨g3, g4⟩, ⟨g5, g6⟩, g7, g8⟩ := (h l hl6).2 x hx
    unfold mShp
    rw [c1.2, c2.1, c2.2, c3.1, c3.2, c4.1, c4.2, c5, c6]
    simp only [if_neg e]
    refine ⟨g1, fun i s hi => ?_, ⟨g3, g4.of (fun j hj => ?_)⟩, ⟨g5, g6.of (fun j hj => ?_)⟩, g7, g8.of (fun j hj => ?_)⟩
    · have hil := (List.getElem?_eq_some_iff.mp hi).1
      rw [upR_out (by omega), upR_out (by omega)]
      exact g2 i s hi
    · exact upR_out (by omega)
    · exact upR_out (by omega)
    · exact upR_out (by omega)
theorem pSl_ok (l : List Nat) : ∀ f p acc p' sl, pSl l f p acc = .inr (p', sl) → (∀ s ∈ acc, s.1 < 7 ∧ s.2 < 4) → 1 ≤ sl.length ∧ sl.length ≤ acc.length + f ∧ ∀ s ∈ sl, s.1 < 7 ∧ s.2 < 4 := by
  intro f
  induction f with
  | zero =>
    intro p acc p' sl h ha
    rw [pSl_eq] at h
    split at h
    · split at h
      next q => cases h; exact ⟨by cases acc with | nil => exact absurd rfl q.1 | cons => simp, by omega, ha⟩
      next => cases h
    · cases h
  | succ f ih =>
    intro p acc p' sl h ha
    rw [pSl_eq] at h
    split at h
    · split at h
      next q => cases h; exact ⟨by cases acc with | nil => exact absurd rfl q.1 | cons => simp, by omega, ha⟩
      next => cases h
    next k hk =>
      obtain ⟨r1, r2, r3⟩ := ih _ _ _ _ h (fun s hs => by
        rcases List.mem_append.mp hs with q | q
        · exact ha s q
        · simp at q; rw [q]; exact ⟨(kAt_lt hk).1, howOf_lt _⟩)
      exact ⟨r1, by simp at r2; omega, r3⟩
theorem pEn_ok (l : List Nat) : ∀ f p acc p' en, pEn l f p acc = .inr (p', en) → (∀ c ∈ acc, 97 ≤ c ∧ c ≤ 122) → en.length ≤ acc.length + f ∧ ∀ c ∈ en, 97 ≤ c ∧ c ≤ 122 := by
  intro f
  induction f with
  | zero =>
    intro p acc p' en h ha
    rw [pEn_eq] at h
    split at h
    · split at h
      · cases h; exact ⟨by omega, ha⟩
      · cases h
    · cases h
  | succ f ih =>
    intro p acc p' en h ha
    rw [pEn_eq] at h
    split at h
    · split at h
      · cases h; exact ⟨by omega, ha⟩
      · cases h
    next c hc =>
      obtain ⟨r1, r2⟩ := ih _ _ _ _ h (fun s hs => by
        rcases List.mem_append.mp hs with q | q
        · exact ha s q
        · simp at q
          rw [q]
          unfold smAt at hc
          split at hc
          · split at hc
            next z => cases hc; exact of_decide_eq_true z
            next => cases hc
          · cases hc)
      exact ⟨by simp at r1; omega, r2⟩
theorem pTail_ok {l : List Nat} {p : Nat} {en : List Nat} (h : pTail l p = .inr en) : en.length ≤ 6 ∧ ∀ c ∈ en, 97 ≤ c ∧ c ≤ 122 := by
  unfold pTail at h
  split at h
  · cases h
  next p4 en' he =>
    split at h
    · split at h
      · cases h
      · cases h
        unfold pEnd at he
        split at he
        · cases he; simp
        · have := pEn_ok l 6 p [] p4 en he (fun c hc => by simp at hc)
          simpa using this
    · cases h
theorem pShape_wf {l : List Nat} {y : Shp} (h : pShape l = .inr y) : wfShp y := by
  rw [pShape_t] at h
  split at h
  · cases h
  next p1 sl e1 =>
    split at h
    · cases h
    next p2 so e2 =>
      split at h
      · cases h
      next p3 ca e3 =>
        split at h
        · cases h
        next en e4 =>
          cases h
          obtain ⟨a1, a2, a3⟩ := pSl_ok l 8 0 [] p1 sl e1 (fun s hs => by simp at hs)
          obtain ⟨_, b2, b3⟩ := pLt_le l 7 p1 [] p2 so e2
          obtain ⟨_, c2, c3⟩ := pLt_le l 7 p2 [] p3 ca e3
          have b4 := b3 List.nodup_nil (fun k hk => by simp at hk)
          have c4 := c3 List.nodup_nil (fun k hk => by simp at hk)
          simp only [List.length_nil, Nat.zero_add] at a2 b2 c2
          exact ⟨⟨a1, a2, a3⟩, ⟨b2, b4.1, b4.2⟩, ⟨c2, c4.1, c4.2⟩, pTail_ok e4⟩
end MSHAPE2
