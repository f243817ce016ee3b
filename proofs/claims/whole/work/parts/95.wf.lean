/-! what is well made stays so -/
section WELL
theorem by4_lt {x : Int32} {c : Nat} (h : c ∈ by4 x) : c < 256 := by
  unfold by4 at h
  simp at h
  rcases h with e | e | e | e <;> rw [e] <;> exact by8_lt _ _
theorem wf_feed {S : Ast} {a b c e f : Int32} (hW : WF S) : WF (q_feed S a b c e f).2 := by
  unfold q_feed
  by_cases h : (aT S).length + 20 ≤ 400
  · rw [if_pos h]
    refine ⟨⟨?_, fun x hx => ?_⟩, hW.2⟩
    · show ((aT S) ++ by4 a ++ by4 b ++ by4 c ++ by4 e ++ by4 f).length ≤ 400
      simp only [List.length_append]
      have : ∀ x, (by4 x).length = 4 := fun _ => rfl
      rw [this, this, this, this, this]
      omega
    · have hx : x ∈ (aT S) ++ by4 a ++ by4 b ++ by4 c ++ by4 e ++ by4 f := hx
      rcases List.mem_append.mp hx with hx | hx
      · rcases List.mem_append.mp hx with hx | hx
        · rcases List.mem_append.mp hx with hx | hx
          · rcases List.mem_append.mp hx with hx | hx
            · rcases List.mem_append.mp hx with hx | hx
              · exact hW.1.2 x hx
              · exact by4_lt hx
            · exact by4_lt hx
          · exact by4_lt hx
        · exact by4_lt hx
      · exact by4_lt hx
  · rw [if_neg h]; exact hW
theorem wf_nil {l : List Nat} (h : l = []) : l.length ≤ 400 ∧ ∀ c ∈ l, c < 256 := by subst h; simp
theorem wf_shape {S : Ast} {x n : Int32} (hW : WF S) : WF (q_shape S x n).2 := by
  unfold q_shape
  cases okL x with
  | none => exact hW
  | some ld =>
    cases okH (aT S) n with
    | none => exact hW
    | some m =>
      simp only []
      cases e : pShape ((aT S).take m) with
      | inl q => exact ⟨wf_nil rfl, hW.2.1, hW.2.2.1, hW.2.2.2.1, hW.2.2.2.2⟩
      | inr y =>
        refine ⟨wf_nil rfl, fun i z hz => ?_, hW.2.2.1, hW.2.2.2.1, hW.2.2.2.2⟩
        have hz : up1 (aS S) ld (some y) i = some z := hz
        by_cases c : i = ld
        · rw [c, up1_s] at hz
          rw [← Option.some.inj hz]
          exact pShape_wf e
        · rw [up1_n c] at hz
          exact hW.2.1 i z hz
theorem entQ_wf {l : List Nat} {x y n : Int32} {e : Ent} (h : entQ l x y n = some e) : wfE e := by
  unfold entQ at h
  cases eL : okL x with
  | none => rw [eL] at h; cases h
  | some ld =>
    cases eK : okK y with
    | none => rw [eL, eK] at h; cases h
    | some kd =>
      cases eH : okH l n with
      | none => rw [eL, eK, eH] at h; cases h
      | some m =>
        rw [eL, eK, eH] at h
        simp only [] at h
        split at h
        next hw =>
          cases h
          have := wordL hw
          exact ⟨(okL_some eL).1, (okK_some eK).1, this.2.2.1, this.2.2.2.1, foldL_r⟩
        next => cases h
theorem wf_know {S : Ast} {x y n : Int32} (hW : WF S) : WF (q_know S x y n).2 := by
  unfold q_know
  cases e : entQ (aT S) x y n with
  | none => exact hW
  | some en =>
    simp only []
    by_cases c : (aB S).length < 80 ∧ en ∉ aB S
    · rw [if_pos c]
      refine ⟨wf_nil rfl, hW.2.1, ⟨?_, ?_, fun z hz => ?_⟩, hW.2.2.2.1, hW.2.2.2.2⟩
      · show (aB S ++ [en]).length ≤ 80
        rw [List.length_append, List.length_singleton]; omega
      · show (aB S ++ [en]).Nodup
        rw [List.nodup_append]
        exact ⟨hW.2.2.1.2.1, by simp, fun a ha b hb => by simp at hb; rw [hb]; exact fun q => c.2 (q ▸ ha)⟩
      · have hz : z ∈ aB S ++ [en] := hz
        rcases List.mem_append.mp hz with q | q
        · exact hW.2.2.1.2.2 z q
        · simp at q; rw [q]; exact entQ_wf e
    · rw [if_neg c]; exact hW
theorem wf_forget {S : Ast} {x y n : Int32} (hW : WF S) : WF (q_forget S x y n).2 := by
  unfold q_forget
  cases e : entQ (aT S) x y n with
  | none => exact hW
  | some en =>
    simp only []
    by_cases c : en ∈ aB S
    · rw [if_pos c]
      have h1 : fndI (aB S) en < (aB S).length := by
        unfold fndI
        exact List.findIdx_lt_length_of_exists ⟨_, c, by simp⟩
      have hp := remL_perm h1
      refine ⟨wf_nil rfl, hW.2.1, ⟨?_, ?_, fun z hz => ?_⟩, hW.2.2.2.1, hW.2.2.2.2⟩
      · show (remL (aB S) (fndI (aB S) en)).length ≤ 80
        rw [hp.length_eq, List.length_eraseIdx, if_pos h1]
        have := hW.2.2.1.1
        omega
      · show (remL (aB S) (fndI (aB S) en)).Nodup
        rw [hp.nodup_iff]
        exact List.Pairwise.sublist (List.eraseIdx_sublist _ _) hW.2.2.1.2.1
      · have hz : z ∈ remL (aB S) (fndI (aB S) en) := hz
        exact hW.2.2.1.2.2 z (List.mem_of_mem_eraseIdx (hp.mem_iff.mp hz))
    · rw [if_neg c]; exact hW
theorem wf_name {S : Ast} {x n : Int32} (hW : WF S) : WF (q_name S x n).2 := by
  unfold q_name
  cases eL : okL x with
  | none => exact hW
  | some ld =>
    cases eH : okH (aT S) n with
    | none => exact hW
    | some m =>
      simp only []
      by_cases c : (aN S).length < 30 ∧ nameOK ((aT S).take m) = true
      · rw [if_pos c]
        refine ⟨wf_nil rfl, hW.2.1, hW.2.2.1, ⟨?_, fun z hz => ?_⟩, hW.2.2.2.2⟩
        · show (aN S ++ [(ld, splitB ((aT S).take m))]).length ≤ 30
          rw [List.length_append, List.length_singleton]; omega
        · have hz : z ∈ aN S ++ [(ld, splitB ((aT S).take m))] := hz
          rcases List.mem_append.mp hz with q | q
          · exact hW.2.2.2.1.2 z q
          · simp at q
            rw [q]
            have hok := c.2
            unfold nameOK at hok
            simp only [Bool.and_eq_true, decide_eq_true_eq] at hok
            refine ⟨(okL_some eL).1, ?_, hok.1, fun w hw => List.all_eq_true.mp hok.2 w hw⟩
            show 1 ≤ (splitB ((aT S).take m)).length
            have : ∀ l : List Nat, splitB l ≠ [] := by
              intro l
              induction l with
              | nil => simp [splitB]
              | cons a r ih =>
                unfold splitB
                split
                · simp
                · split
                  · simp
                  · simp
            cases e : splitB ((aT S).take m) with
            | nil => exact absurd e (this _)
            | cons => simp
      · rw [if_neg c]; exact hW
theorem wf_table {S : Ast} {x n : Int32} (hW : WF S) : WF (q_table S x n).2 := by
  unfold q_table
  cases eT : okT x with
  | none => exact hW
  | some i =>
    cases eH : okH (aT S) n with
    | none => exact hW
    | some m =>
      simp only []
      by_cases c : m ≤ 3 ∧ ((aT S).take m).all isSm = true
      · rw [if_pos c]
        refine ⟨wf_nil rfl, hW.2.1, hW.2.2.1, hW.2.2.2.1, fun j hj => ?_⟩
        show (up1 (aL S) i ((aT S).take m) j).length ≤ 3 ∧ ∀ c ∈ up1 (aL S) i ((aT S).take m) j, 97 ≤ c ∧ c ≤ 122
        by_cases e : j = i
        · rw [e, up1_s]
          exact ⟨Nat.le_trans (List.length_take_le _ _) c.1, fun z hz => of_decide_eq_true (List.all_eq_true.mp c.2 z hz)⟩
        · rw [up1_n e]; exact hW.2.2.2.2 j hj
      · rw [if_neg c]; exact hW
/-- the state of a new desk -/
def S0 : Ast := ([], fun _ => none, [], [], fun i => [97 + i], 0, -1)
theorem wf_S0 : WF S0 := by
  refine ⟨wf_nil rfl, fun i x h => (by cases h), ⟨Nat.zero_le _, List.nodup_nil, fun e h => by cases h⟩, ⟨Nat.zero_le _, fun n h => by cases h⟩, fun i hi => ?_⟩
  show [97 + i].length ≤ 3 ∧ ∀ c ∈ [97 + i], 97 ≤ c ∧ c ≤ 122
  simp
  omega
end WELL
