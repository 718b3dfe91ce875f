/-! The text, and what its letters are. -/
def Txc (s : Nat) (T : Nat → Nat) (I : dI) : Prop := I 1 1 = nn s ∧ s ≤ 120 ∧ ∀ i, i < s → I 2 i = nn (T i) ∧ 32 ≤ T i ∧ T i ≤ 126
def Txm (s : Nat) (T : Nat → Nat) (I : dI) : Prop := I 92 1 = nn s ∧ s ≤ 120 ∧ ∀ i, i < s → I 93 i = nn (T i) ∧ 32 ≤ T i ∧ T i ≤ 126
def ch (s : Nat) (T : Nat → Nat) (i : Nat) : Nat := if i < s then T i else 0
theorem nar_c : ∀ c : Fin 127, narrow .char (.int (nn c.val)) = .int (nn c.val) := by decide +kernel
theorem ch_in {s : Nat} {T : Nat → Nat} {i : Nat} (h : i < s) : ch s T i = T i := if_pos h
theorem ch_out {s : Nat} {T : Nat → Nat} {i : Nat} (h : s ≤ i) : ch s T i = 0 := if_neg (by omega)
theorem ch_le {s : Nat} {T : Nat → Nat} {I : dI} (h : Txc s T I) (i : Nat) : ch s T i ≤ 126 := by
  by_cases c : i < s
  · rw [ch_in c]; exact (h.2.2 i c).2.2
  · rw [ch_out (by omega)]; omega
theorem m48_eq {s i : Nat} {T : Nat → Nat} {I : dI} {J : dJ} (h : Txc s T I) (hi : i < 1000) : m_48 (nn i) I J = some (nn (ch s T i)) := by
  obtain ⟨h1, h2, h3⟩ := h
  by_cases c : i < s
  · obtain ⟨e1, e2, e3⟩ := h3 i c
    have e4 := nar_c ⟨T i, by omega⟩
    simp only at e4
    rw [ch_in c]
    simp (disch := omega) only [m_48, b_48_0, h1, e1, e4, ↓reduceIte, nn_l, nn_o, nn_lt, nn_le, nn_eq, nn_cl, nn_add, nn_sub, if_pos, if_neg, lt_, Option.bind_some, ↓reduceIte, not_true_eq_false, not_false_eq_true, Nat.add_sub_cancel, Nat.add_zero, Nat.reduceSub, Nat.reduceAdd, Nat.reduceMul, Nat.reduceEqDiff, Nat.reduceLT, Nat.reduceLeDiff, or_false, false_or, Nat.not_lt_zero]
  · rw [ch_out (by omega)]
    simp (disch := omega) only [m_48, b_48_0, h1, nn_l, nn_o, nn_lt, nn_le, nn_eq, nn_cl, nn_add, nn_sub, if_pos, if_neg, lt_, Option.bind_some, ↓reduceIte, not_true_eq_false, not_false_eq_true, Nat.add_sub_cancel, Nat.add_zero, Nat.reduceSub, Nat.reduceAdd, Nat.reduceMul, Nat.reduceEqDiff, Nat.reduceLT, Nat.reduceLeDiff, or_false, false_or, Nat.not_lt_zero]
theorem m101_eq {s i : Nat} {T : Nat → Nat} {I : dI} {J : dJ} (h : Txm s T I) (hi : i < 1000) : m_101 (nn i) I J = some (nn (ch s T i)) := by
  obtain ⟨h1, h2, h3⟩ := h
  by_cases c : i < s
  · obtain ⟨e1, e2, e3⟩ := h3 i c
    rw [ch_in c]
    simp (disch := omega) only [m_101, b_101_0, h1, e1, nn_l, nn_o, nn_lt, nn_le, nn_eq, nn_cl, nn_add, nn_sub, if_pos, if_neg, lt_, Option.bind_some, ↓reduceIte, not_true_eq_false, not_false_eq_true, Nat.add_sub_cancel, Nat.add_zero, Nat.reduceSub, Nat.reduceAdd, Nat.reduceMul, Nat.reduceEqDiff, Nat.reduceLT, Nat.reduceLeDiff, or_false, false_or, Nat.not_lt_zero]
  · rw [ch_out (by omega)]
    simp (disch := omega) only [m_101, b_101_0, h1, nn_l, nn_o, nn_lt, nn_le, nn_eq, nn_cl, nn_add, nn_sub, if_pos, if_neg, lt_, Option.bind_some, ↓reduceIte, not_true_eq_false, not_false_eq_true, Nat.add_sub_cancel, Nat.add_zero, Nat.reduceSub, Nat.reduceAdd, Nat.reduceMul, Nat.reduceEqDiff, Nat.reduceLT, Nat.reduceLeDiff, or_false, false_or, Nat.not_lt_zero]
def Dg (c : Nat) : Prop := 48 ≤ c ∧ c ≤ 57
def Lr (c : Nat) : Prop := (97 ≤ c ∧ c ≤ 122) ∨ (65 ≤ c ∧ c ≤ 90)
def Pl (c : Nat) : Prop := Dg c ∨ Lr c
theorem m49_t {c : Nat} (I : dI) (J : dJ) (h : Dg c) : m_49 (nn c) I J = some (nn 1) := by
  obtain ⟨h1, h2⟩ := h
  simp (disch := omega) only [m_49, b_49_0, nn_l, nn_o, nn_lt, nn_le, nn_eq, nn_cl, nn_add, nn_sub, if_pos, if_neg, lt_, Option.bind_some, ↓reduceIte, not_true_eq_false, not_false_eq_true, Nat.add_sub_cancel, Nat.add_zero, Nat.reduceSub, Nat.reduceAdd, Nat.reduceMul, Nat.reduceEqDiff, Nat.reduceLT, Nat.reduceLeDiff, or_false, false_or, Nat.not_lt_zero]
theorem m49_f {c : Nat} (I : dI) (J : dJ) (hc : c < 1000) (h : ¬ Dg c) : m_49 (nn c) I J = some (nn 0) := by
  unfold Dg at h
  by_cases h1 : c < 48
  · simp (disch := omega) only [m_49, b_49_0, nn_l, nn_o, nn_lt, nn_le, nn_eq, nn_cl, nn_add, nn_sub, if_pos, if_neg, lt_, Option.bind_some, ↓reduceIte, not_true_eq_false, not_false_eq_true, Nat.add_sub_cancel, Nat.add_zero, Nat.reduceSub, Nat.reduceAdd, Nat.reduceMul, Nat.reduceEqDiff, Nat.reduceLT, Nat.reduceLeDiff, or_false, false_or, Nat.not_lt_zero]
  · simp (disch := omega) only [m_49, b_49_0, nn_l, nn_o, nn_lt, nn_le, nn_eq, nn_cl, nn_add, nn_sub, if_pos, if_neg, lt_, Option.bind_some, ↓reduceIte, not_true_eq_false, not_false_eq_true, Nat.add_sub_cancel, Nat.add_zero, Nat.reduceSub, Nat.reduceAdd, Nat.reduceMul, Nat.reduceEqDiff, Nat.reduceLT, Nat.reduceLeDiff, or_false, false_or, Nat.not_lt_zero]
theorem m104_t {c : Nat} (I : dI) (J : dJ) (h : Dg c) : m_104 (nn c) I J = some (nn 1) := by
  obtain ⟨h1, h2⟩ := h
  simp (disch := omega) only [m_104, b_104_0, nn_l, nn_o, nn_lt, nn_le, nn_eq, nn_cl, nn_add, nn_sub, if_pos, if_neg, lt_, Option.bind_some, ↓reduceIte, not_true_eq_false, not_false_eq_true, Nat.add_sub_cancel, Nat.add_zero, Nat.reduceSub, Nat.reduceAdd, Nat.reduceMul, Nat.reduceEqDiff, Nat.reduceLT, Nat.reduceLeDiff, or_false, false_or, Nat.not_lt_zero]
theorem m104_f {c : Nat} (I : dI) (J : dJ) (hc : c < 1000) (h : ¬ Dg c) : m_104 (nn c) I J = some (nn 0) := by
  unfold Dg at h
  by_cases h1 : c < 48
  · simp (disch := omega) only [m_104, b_104_0, nn_l, nn_o, nn_lt, nn_le, nn_eq, nn_cl, nn_add, nn_sub, if_pos, if_neg, lt_, Option.bind_some, ↓reduceIte, not_true_eq_false, not_false_eq_true, Nat.add_sub_cancel, Nat.add_zero, Nat.reduceSub, Nat.reduceAdd, Nat.reduceMul, Nat.reduceEqDiff, Nat.reduceLT, Nat.reduceLeDiff, or_false, false_or, Nat.not_lt_zero]
  · simp (disch := omega) only [m_104, b_104_0, nn_l, nn_o, nn_lt, nn_le, nn_eq, nn_cl, nn_add, nn_sub, if_pos, if_neg, lt_, Option.bind_some, ↓reduceIte, not_true_eq_false, not_false_eq_true, Nat.add_sub_cancel, Nat.add_zero, Nat.reduceSub, Nat.reduceAdd, Nat.reduceMul, Nat.reduceEqDiff, Nat.reduceLT, Nat.reduceLeDiff, or_false, false_or, Nat.not_lt_zero]
theorem m53_t {c : Nat} (I : dI) (J : dJ) (h : Lr c) : m_53 (nn c) I J = some (nn 1) := by
  unfold Lr at h
  by_cases h1 : 97 ≤ c
  · simp (disch := omega) only [m_53, b_53_0, b_53_12, nn_l, nn_o, nn_lt, nn_le, nn_eq, nn_cl, nn_add, nn_sub, if_pos, if_neg, lt_, Option.bind_some, ↓reduceIte, not_true_eq_false, not_false_eq_true, Nat.add_sub_cancel, Nat.add_zero, Nat.reduceSub, Nat.reduceAdd, Nat.reduceMul, Nat.reduceEqDiff, Nat.reduceLT, Nat.reduceLeDiff, or_false, false_or, Nat.not_lt_zero]
  · simp (disch := omega) only [m_53, b_53_0, b_53_12, nn_l, nn_o, nn_lt, nn_le, nn_eq, nn_cl, nn_add, nn_sub, if_pos, if_neg, lt_, Option.bind_some, ↓reduceIte, not_true_eq_false, not_false_eq_true, Nat.add_sub_cancel, Nat.add_zero, Nat.reduceSub, Nat.reduceAdd, Nat.reduceMul, Nat.reduceEqDiff, Nat.reduceLT, Nat.reduceLeDiff, or_false, false_or, Nat.not_lt_zero]
theorem m53_f {c : Nat} (I : dI) (J : dJ) (hc : c < 1000) (h : ¬ Lr c) : m_53 (nn c) I J = some (nn 0) := by
  unfold Lr at h
  by_cases h1 : 97 ≤ c
  · simp (disch := omega) only [m_53, b_53_0, b_53_12, nn_l, nn_o, nn_lt, nn_le, nn_eq, nn_cl, nn_add, nn_sub, if_pos, if_neg, lt_, Option.bind_some, ↓reduceIte, not_true_eq_false, not_false_eq_true, Nat.add_sub_cancel, Nat.add_zero, Nat.reduceSub, Nat.reduceAdd, Nat.reduceMul, Nat.reduceEqDiff, Nat.reduceLT, Nat.reduceLeDiff, or_false, false_or, Nat.not_lt_zero]
  · by_cases h2 : c < 65
    · simp (disch := omega) only [m_53, b_53_0, b_53_12, nn_l, nn_o, nn_lt, nn_le, nn_eq, nn_cl, nn_add, nn_sub, if_pos, if_neg, lt_, Option.bind_some, ↓reduceIte, not_true_eq_false, not_false_eq_true, Nat.add_sub_cancel, Nat.add_zero, Nat.reduceSub, Nat.reduceAdd, Nat.reduceMul, Nat.reduceEqDiff, Nat.reduceLT, Nat.reduceLeDiff, or_false, false_or, Nat.not_lt_zero]
    · simp (disch := omega) only [m_53, b_53_0, b_53_12, nn_l, nn_o, nn_lt, nn_le, nn_eq, nn_cl, nn_add, nn_sub, if_pos, if_neg, lt_, Option.bind_some, ↓reduceIte, not_true_eq_false, not_false_eq_true, Nat.add_sub_cancel, Nat.add_zero, Nat.reduceSub, Nat.reduceAdd, Nat.reduceMul, Nat.reduceEqDiff, Nat.reduceLT, Nat.reduceLeDiff, or_false, false_or, Nat.not_lt_zero]
theorem m52_t {c : Nat} (I : dI) (J : dJ) (h : Pl c) : m_52 (nn c) I J = some (nn 1) := by
  by_cases h1 : Lr c
  · simp (disch := omega) only [m_52, b_52_0, m53_t I J h1, nn_l, nn_o, nn_lt, nn_le, nn_eq, nn_cl, nn_add, nn_sub, if_pos, if_neg, lt_, Option.bind_some, ↓reduceIte, not_true_eq_false, not_false_eq_true, Nat.add_sub_cancel, Nat.add_zero, Nat.reduceSub, Nat.reduceAdd, Nat.reduceMul, Nat.reduceEqDiff, Nat.reduceLT, Nat.reduceLeDiff, or_false, false_or, Nat.not_lt_zero]
  · have h2 : Dg c := by
      rcases h with h | h
      · exact h
      · exact absurd h h1
    have h3 : c < 1000 := by unfold Dg at h2; omega
    simp (disch := omega) only [m_52, b_52_0, m53_f I J h3 h1, m49_t I J h2, nn_l, nn_o, nn_lt, nn_le, nn_eq, nn_cl, nn_add, nn_sub, if_pos, if_neg, lt_, Option.bind_some, ↓reduceIte, not_true_eq_false, not_false_eq_true, Nat.add_sub_cancel, Nat.add_zero, Nat.reduceSub, Nat.reduceAdd, Nat.reduceMul, Nat.reduceEqDiff, Nat.reduceLT, Nat.reduceLeDiff, or_false, false_or, Nat.not_lt_zero]
theorem m52_f {c : Nat} (I : dI) (J : dJ) (hc : c < 1000) (h : ¬ Pl c) : m_52 (nn c) I J = some (nn 0) := by
  have h1 : ¬ Lr c := fun x => h (Or.inr x)
  have h2 : ¬ Dg c := fun x => h (Or.inl x)
  simp (disch := omega) only [m_52, b_52_0, m53_f I J hc h1, m49_f I J hc h2, nn_l, nn_o, nn_lt, nn_le, nn_eq, nn_cl, nn_add, nn_sub, if_pos, if_neg, lt_, Option.bind_some, ↓reduceIte, not_true_eq_false, not_false_eq_true, Nat.add_sub_cancel, Nat.add_zero, Nat.reduceSub, Nat.reduceAdd, Nat.reduceMul, Nat.reduceEqDiff, Nat.reduceLT, Nat.reduceLeDiff, or_false, false_or, Nat.not_lt_zero]
theorem m103_t {c : Nat} (I : dI) (J : dJ) (h : Pl c) : m_103 (nn c) I J = some (nn 1) := by
  by_cases h1 : Dg c
  · simp (disch := omega) only [m_103, b_103_0, m104_t I J h1, nn_l, nn_o, nn_lt, nn_le, nn_eq, nn_cl, nn_add, nn_sub, if_pos, if_neg, lt_, Option.bind_some, ↓reduceIte, not_true_eq_false, not_false_eq_true, Nat.add_sub_cancel, Nat.add_zero, Nat.reduceSub, Nat.reduceAdd, Nat.reduceMul, Nat.reduceEqDiff, Nat.reduceLT, Nat.reduceLeDiff, or_false, false_or, Nat.not_lt_zero]
  · have h2 : Lr c := by
      rcases h with h | h
      · exact absurd h h1
      · exact h
    unfold Lr at h2
    by_cases h3 : 97 ≤ c
    · simp (disch := omega) only [m_103, b_103_0, b_103_19, m104_f I J (show c < 1000 by omega) h1, nn_l, nn_o, nn_lt, nn_le, nn_eq, nn_cl, nn_add, nn_sub, if_pos, if_neg, lt_, Option.bind_some, ↓reduceIte, not_true_eq_false, not_false_eq_true, Nat.add_sub_cancel, Nat.add_zero, Nat.reduceSub, Nat.reduceAdd, Nat.reduceMul, Nat.reduceEqDiff, Nat.reduceLT, Nat.reduceLeDiff, or_false, false_or, Nat.not_lt_zero]
    · simp (disch := omega) only [m_103, b_103_0, b_103_19, m104_f I J (show c < 1000 by omega) h1, nn_l, nn_o, nn_lt, nn_le, nn_eq, nn_cl, nn_add, nn_sub, if_pos, if_neg, lt_, Option.bind_some, ↓reduceIte, not_true_eq_false, not_false_eq_true, Nat.add_sub_cancel, Nat.add_zero, Nat.reduceSub, Nat.reduceAdd, Nat.reduceMul, Nat.reduceEqDiff, Nat.reduceLT, Nat.reduceLeDiff, or_false, false_or, Nat.not_lt_zero]
theorem m103_f {c : Nat} (I : dI) (J : dJ) (hc : c < 1000) (h : ¬ Pl c) : m_103 (nn c) I J = some (nn 0) := by
  have h1 : ¬ Lr c := fun x => h (Or.inr x)
  have h2 : ¬ Dg c := fun x => h (Or.inl x)
  unfold Lr at h1
  by_cases h3 : 97 ≤ c
  · simp (disch := omega) only [m_103, b_103_0, b_103_19, m104_f I J hc h2, nn_l, nn_o, nn_lt, nn_le, nn_eq, nn_cl, nn_add, nn_sub, if_pos, if_neg, lt_, Option.bind_some, ↓reduceIte, not_true_eq_false, not_false_eq_true, Nat.add_sub_cancel, Nat.add_zero, Nat.reduceSub, Nat.reduceAdd, Nat.reduceMul, Nat.reduceEqDiff, Nat.reduceLT, Nat.reduceLeDiff, or_false, false_or, Nat.not_lt_zero]
  · by_cases h4 : c < 65
    · simp (disch := omega) only [m_103, b_103_0, b_103_19, m104_f I J hc h2, nn_l, nn_o, nn_lt, nn_le, nn_eq, nn_cl, nn_add, nn_sub, if_pos, if_neg, lt_, Option.bind_some, ↓reduceIte, not_true_eq_false, not_false_eq_true, Nat.add_sub_cancel, Nat.add_zero, Nat.reduceSub, Nat.reduceAdd, Nat.reduceMul, Nat.reduceEqDiff, Nat.reduceLT, Nat.reduceLeDiff, or_false, false_or, Nat.not_lt_zero]
    · simp (disch := omega) only [m_103, b_103_0, b_103_19, m104_f I J hc h2, nn_l, nn_o, nn_lt, nn_le, nn_eq, nn_cl, nn_add, nn_sub, if_pos, if_neg, lt_, Option.bind_some, ↓reduceIte, not_true_eq_false, not_false_eq_true, Nat.add_sub_cancel, Nat.add_zero, Nat.reduceSub, Nat.reduceAdd, Nat.reduceMul, Nat.reduceEqDiff, Nat.reduceLT, Nat.reduceLeDiff, or_false, false_or, Nat.not_lt_zero]
theorem m51_d {c : Nat} (I : dI) (J : dJ) (h : Dg c) : m_51 (nn c) I J = some (nn (c - 48)) := by
  have h' := h
  obtain ⟨h1, h2⟩ := h'
  simp (disch := omega) only [m_51, b_51_0, m49_t I J h, nn_l, nn_o, nn_lt, nn_le, nn_eq, nn_cl, nn_add, nn_sub, if_pos, if_neg, lt_, Option.bind_some, ↓reduceIte, not_true_eq_false, not_false_eq_true, Nat.add_sub_cancel, Nat.add_zero, Nat.reduceSub, Nat.reduceAdd, Nat.reduceMul, Nat.reduceEqDiff, Nat.reduceLT, Nat.reduceLeDiff, or_false, false_or, Nat.not_lt_zero]
theorem m51_h {c : Nat} (I : dI) (J : dJ) (h1 : 97 ≤ c) (h2 : c ≤ 102) : m_51 (nn c) I J = some (nn (c - 97 + 10)) := by
  have h : ¬ Dg c := by unfold Dg; omega
  simp (disch := omega) only [m_51, b_51_0, m49_f I J (show c < 1000 by omega) h, nn_l, nn_o, nn_lt, nn_le, nn_eq, nn_cl, nn_add, nn_sub, if_pos, if_neg, lt_, Option.bind_some, ↓reduceIte, not_true_eq_false, not_false_eq_true, Nat.add_sub_cancel, Nat.add_zero, Nat.reduceSub, Nat.reduceAdd, Nat.reduceMul, Nat.reduceEqDiff, Nat.reduceLT, Nat.reduceLeDiff, or_false, false_or, Nat.not_lt_zero]
theorem m51_n {c : Nat} (I : dI) (J : dJ) (hc : c < 1000) (h : ¬ Dg c) (h1 : c < 97 ∨ 102 < c) : m_51 (nn c) I J = some (-(nn 1)) := by
  by_cases h2 : c < 97
  · simp (disch := omega) only [m_51, b_51_0, m49_f I J hc h, nn_l, nn_o, nn_lt, nn_le, nn_eq, nn_cl, nn_add, nn_sub, if_pos, if_neg, lt_, Option.bind_some, ↓reduceIte, not_true_eq_false, not_false_eq_true, Nat.add_sub_cancel, Nat.add_zero, Nat.reduceSub, Nat.reduceAdd, Nat.reduceMul, Nat.reduceEqDiff, Nat.reduceLT, Nat.reduceLeDiff, or_false, false_or, Nat.not_lt_zero]
  · simp (disch := omega) only [m_51, b_51_0, m49_f I J hc h, nn_l, nn_o, nn_lt, nn_le, nn_eq, nn_cl, nn_add, nn_sub, if_pos, if_neg, lt_, Option.bind_some, ↓reduceIte, not_true_eq_false, not_false_eq_true, Nat.add_sub_cancel, Nat.add_zero, Nat.reduceSub, Nat.reduceAdd, Nat.reduceMul, Nat.reduceEqDiff, Nat.reduceLT, Nat.reduceLeDiff, or_false, false_or, Nat.not_lt_zero]
theorem sI_id {X : dI} {p j : Nat} {v : Int32} (h : X p j = v) : sI X p j v = X := by
  subst h
  refine dI_ext fun q i => ?_
  rw [sI_get]
  split
  · rename_i hh; rw [hh.1, hh.2]
  · rfl
theorem sJ_id {X : dJ} {p j : Nat} {v : Int64} (h : X p j = v) : sJ X p j v = X := by
  subst h
  refine dJ_ext fun q i => ?_
  rw [sJ_get]
  split
  · rename_i hh; rw [hh.1, hh.2]
  · rfl
theorem sI_sI {X : dI} {p j : Nat} {v w : Int32} : sI (sI X p j v) p j w = sI X p j w := by
  refine dI_ext fun q i => ?_
  simp only [sI_get]
  split <;> rfl
theorem sJ_sJ {X : dJ} {p j : Nat} {v w : Int64} : sJ (sJ X p j v) p j w = sJ X p j w := by
  refine dJ_ext fun q i => ?_
  simp only [sJ_get]
  split <;> rfl
theorem txc_s {s : Nat} {T : Nat → Nat} {I : dI} {k : Nat} {v : Int32} (h : Txc s T I) : Txc s T (sI I 18 k v) := by
  obtain ⟨h1, h2, h3⟩ := h
  refine ⟨?_, h2, fun i hi => ?_⟩
  · rw [sI_ne (by omega)]; exact h1
  · rw [sI_ne (by omega)]; exact h3 i hi
theorem txm_s {s : Nat} {T : Nat → Nat} {I : dI} {k : Nat} {v : Int32} (hk : k ≠ 1) (h : Txm s T I) : Txm s T (sI I 92 k v) := by
  obtain ⟨h1, h2, h3⟩ := h
  refine ⟨?_, h2, fun i hi => ?_⟩
  · rw [sI_nk (by omega)]; exact h1
  · rw [sI_ne (by omega)]; exact h3 i hi
theorem blanks (s : Nat) (T : Nat → Nat) : ∀ d i, i + d = s → ∃ j, i ≤ j ∧ j ≤ s ∧ (∀ x, i ≤ x → x < j → T x = 32) ∧ (j < s → T j ≠ 32) := by
  intro d
  induction d with
  | zero => intro i hi; exact ⟨i, by omega, by omega, fun x a b => by omega, fun h => by omega⟩
  | succ d ih =>
    intro i hi
    by_cases h : T i = 32
    · obtain ⟨j, j1, j2, j3, j4⟩ := ih (i + 1) (by omega)
      refine ⟨j, by omega, j2, fun x a b => ?_, j4⟩
      by_cases hx : x = i
      · subst hx; exact h
      · exact j3 x (by omega) b
    · exact ⟨i, by omega, by omega, fun x a b => by omega, fun _ => h⟩
theorem m47_eq {s j : Nat} {T : Nat → Nat} {J : dJ} (hj : j ≤ s) (hn : j < s → T j ≠ 32) : ∀ d i fu I, i + d = j → d < fu → (∀ x, i ≤ x → x < j → T x = 32) → I 18 2 = nn i → Txc s T I → b_47_0 fu I J = some (sI I 18 2 (nn j), J) := by
  intro d
  induction d with
  | zero =>
    intro i fu I hi hf hb h18 hT
    obtain ⟨f, rfl⟩ : ∃ f, fu = f + 1 := ⟨fu - 1, by omega⟩
    have ei : i = j := by omega
    subst ei
    rw [sI_id h18]
    have h2 := hT.2.1
    by_cases c : i < s
    · have c1 := hn c
      obtain ⟨e1, e2, e3⟩ := hT.2.2 i c
      simp (disch := omega) only [b_47_0, hT.1, h18, m48_eq hT (show i < 1000 by omega), ch_in c, c1, nn_l, nn_o, nn_lt, nn_le, nn_eq, nn_cl, nn_add, nn_sub, if_pos, if_neg, lt_, Option.bind_some, ↓reduceIte, not_true_eq_false, not_false_eq_true, Nat.add_sub_cancel, Nat.add_zero, Nat.reduceSub, Nat.reduceAdd, Nat.reduceMul, Nat.reduceEqDiff, Nat.reduceLT, Nat.reduceLeDiff, or_false, false_or, Nat.not_lt_zero]
    · simp (disch := omega) only [b_47_0, hT.1, h18, nn_l, nn_o, nn_lt, nn_le, nn_eq, nn_cl, nn_add, nn_sub, if_pos, if_neg, lt_, Option.bind_some, ↓reduceIte, not_true_eq_false, not_false_eq_true, Nat.add_sub_cancel, Nat.add_zero, Nat.reduceSub, Nat.reduceAdd, Nat.reduceMul, Nat.reduceEqDiff, Nat.reduceLT, Nat.reduceLeDiff, or_false, false_or, Nat.not_lt_zero]
  | succ d ih =>
    intro i fu I hi hf hb h18 hT
    obtain ⟨f, rfl⟩ : ∃ f, fu = f + 1 := ⟨fu - 1, by omega⟩
    have h2 := hT.2.1
    have c1 := hb i (by omega) (by omega)
    have hI := ih (i + 1) f (sI I 18 2 (nn (i + 1))) (by omega) (by omega) (fun x a b => hb x (by omega) b) sI_eq (txc_s hT)
    rw [sI_sI] at hI
    simp (disch := omega) only [b_47_0, hT.1, h18, m48_eq hT (show i < 1000 by omega), ch_in (show i < s by omega), c1, hI, nn_l, nn_o, nn_lt, nn_le, nn_eq, nn_cl, nn_add, nn_sub, if_pos, if_neg, lt_, Option.bind_some, ↓reduceIte, not_true_eq_false, not_false_eq_true, Nat.add_sub_cancel, Nat.add_zero, Nat.reduceSub, Nat.reduceAdd, Nat.reduceMul, Nat.reduceEqDiff, Nat.reduceLT, Nat.reduceLeDiff, or_false, false_or, Nat.not_lt_zero]
theorem runs (s : Nat) (T : Nat → Nat) : ∀ d i, i + d = s → ∃ e, i ≤ e ∧ e ≤ s ∧ (∀ x, i ≤ x → x < e → Pl (T x)) ∧ (e < s → ¬ Pl (T e)) := by
  intro d
  induction d with
  | zero => intro i hi; exact ⟨i, by omega, by omega, fun x a b => by omega, fun h => by omega⟩
  | succ d ih =>
    intro i hi
    by_cases h : Pl (T i)
    · obtain ⟨j, j1, j2, j3, j4⟩ := ih (i + 1) (by omega)
      refine ⟨j, by omega, j2, fun x a b => ?_, j4⟩
      by_cases hx : x = i
      · subst hx; exact h
      · exact j3 x (by omega) b
    · exact ⟨i, by omega, by omega, fun x a b => by omega, fun _ => h⟩
