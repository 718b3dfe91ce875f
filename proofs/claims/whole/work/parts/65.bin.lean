/-! Signs between two operands: the class's evaluator. -/
def cq (k : Nat) (a b : Int64) : Bool := if k = 12 then decide (a = b) else if k = 13 then decide (¬ a = b) else if k = 14 then decide (a < b) else if k = 15 then decide (a ≤ b) else if k = 16 then decide (b < a) else decide (b ≤ a)
def ar (k : Nat) (a b : Int64) : Int64 := if k = 18 then a ||| b else if k = 19 then a ^^^ b else if k = 20 then a &&& b else if k = 21 then a <<< ((Int32.toInt64 (Int64.toInt32 (b &&& 63))) &&& 63) else if k = 22 then a >>> ((Int32.toInt64 (Int64.toInt32 (b &&& 63))) &&& 63) else if k = 23 then a + b else if k = 24 then a - b else a * b
def op2 (k : Nat) (a b : Int64) : Int64 := if k ≤ 17 then (if cq k a b = true then 1 else 0) else ar k a b
def dv (k : Nat) (a b : Int64) : Int64 := if k = 26 then a / b else a - a / b * b
theorem i64_nl {a b : Int64} : (a ≤ b) = ¬ (b < a) := propext Int64.not_lt.symm
theorem m34_eq {k : Nat} (h1 : 12 ≤ k) (h2 : k ≤ 17) (a b : Int64) (I : dI) (J : dJ) : m_34 (nn (k + 6)) a b I J = some (if cq k a b = true then nn 1 else nn 0) := by
  have h : k = 12 ∨ k = 13 ∨ k = 14 ∨ k = 15 ∨ k = 16 ∨ k = 17 := by omega
  rcases h with h | h | h | h | h | h <;> subst h
  · by_cases q : a = b <;> simp (disch := omega) only [m_34, b_34_0, lg_eq0, cq, q, decide_true, decide_false, not_true_eq_false, not_false_eq_true, Bool.false_eq_true, nn_l, nn_o, nn_lt, nn_le, nn_eq, nn_cl, nn_add, nn_sub, if_pos, if_neg, lt_, Option.bind_some, ↓reduceIte, not_true_eq_false, not_false_eq_true, Nat.add_sub_cancel, Nat.add_zero, Nat.reduceSub, Nat.reduceAdd, Nat.reduceMul, Nat.reduceEqDiff, Nat.reduceLT, Nat.reduceLeDiff, or_false, false_or, Nat.not_lt_zero, ↓reduceIte]
  · by_cases q : a = b <;> simp (disch := omega) only [m_34, b_34_0, lg_eq0, cq, q, decide_true, decide_false, not_true_eq_false, not_false_eq_true, Bool.false_eq_true, nn_l, nn_o, nn_lt, nn_le, nn_eq, nn_cl, nn_add, nn_sub, if_pos, if_neg, lt_, Option.bind_some, ↓reduceIte, not_true_eq_false, not_false_eq_true, Nat.add_sub_cancel, Nat.add_zero, Nat.reduceSub, Nat.reduceAdd, Nat.reduceMul, Nat.reduceEqDiff, Nat.reduceLT, Nat.reduceLeDiff, or_false, false_or, Nat.not_lt_zero, ↓reduceIte]
  · by_cases q : a < b <;> simp (disch := omega) only [m_34, b_34_0, lg_ge0, i64_nl, cq, q, decide_true, decide_false, not_true_eq_false, not_false_eq_true, Bool.false_eq_true, nn_l, nn_o, nn_lt, nn_le, nn_eq, nn_cl, nn_add, nn_sub, if_pos, if_neg, lt_, Option.bind_some, ↓reduceIte, not_true_eq_false, not_false_eq_true, Nat.add_sub_cancel, Nat.add_zero, Nat.reduceSub, Nat.reduceAdd, Nat.reduceMul, Nat.reduceEqDiff, Nat.reduceLT, Nat.reduceLeDiff, or_false, false_or, Nat.not_lt_zero, ↓reduceIte]
  · by_cases q : b < a <;> simp (disch := omega) only [m_34, b_34_0, lg_gt0, i64_nl, cq, q, decide_true, decide_false, not_true_eq_false, not_false_eq_true, Bool.false_eq_true, nn_l, nn_o, nn_lt, nn_le, nn_eq, nn_cl, nn_add, nn_sub, if_pos, if_neg, lt_, Option.bind_some, ↓reduceIte, not_true_eq_false, not_false_eq_true, Nat.add_sub_cancel, Nat.add_zero, Nat.reduceSub, Nat.reduceAdd, Nat.reduceMul, Nat.reduceEqDiff, Nat.reduceLT, Nat.reduceLeDiff, or_false, false_or, Nat.not_lt_zero, ↓reduceIte]
  · by_cases q : b < a <;> simp (disch := omega) only [m_34, b_34_0, lg_le0, i64_nl, cq, q, decide_true, decide_false, not_true_eq_false, not_false_eq_true, Bool.false_eq_true, nn_l, nn_o, nn_lt, nn_le, nn_eq, nn_cl, nn_add, nn_sub, if_pos, if_neg, lt_, Option.bind_some, ↓reduceIte, not_true_eq_false, not_false_eq_true, Nat.add_sub_cancel, Nat.add_zero, Nat.reduceSub, Nat.reduceAdd, Nat.reduceMul, Nat.reduceEqDiff, Nat.reduceLT, Nat.reduceLeDiff, or_false, false_or, Nat.not_lt_zero, ↓reduceIte]
  · by_cases q : a < b <;> simp (disch := omega) only [m_34, b_34_0, lg_lt0, i64_nl, cq, q, decide_true, decide_false, not_true_eq_false, not_false_eq_true, Bool.false_eq_true, nn_l, nn_o, nn_lt, nn_le, nn_eq, nn_cl, nn_add, nn_sub, if_pos, if_neg, lt_, Option.bind_some, ↓reduceIte, not_true_eq_false, not_false_eq_true, Nat.add_sub_cancel, Nat.add_zero, Nat.reduceSub, Nat.reduceAdd, Nat.reduceMul, Nat.reduceEqDiff, Nat.reduceLT, Nat.reduceLeDiff, or_false, false_or, Nat.not_lt_zero, ↓reduceIte]
theorem m35_eq {k : Nat} (h1 : 18 ≤ k) (h2 : k ≤ 25) (a b : Int64) (I : dI) (J : dJ) : m_35 (nn (k + 6)) a b I J = some (ar k a b) := by
  have h : k = 18 ∨ k = 19 ∨ k = 20 ∨ k = 21 ∨ k = 22 ∨ k = 23 ∨ k = 24 ∨ k = 25 := by omega
  rcases h with h | h | h | h | h | h | h | h <;> subst h <;> simp (disch := omega) only [m_35, b_35_0, ar, nn_l, nn_o, nn_lt, nn_le, nn_eq, nn_cl, nn_add, nn_sub, if_pos, if_neg, lt_, Option.bind_some, ↓reduceIte, not_true_eq_false, not_false_eq_true, Nat.add_sub_cancel, Nat.add_zero, Nat.reduceSub, Nat.reduceAdd, Nat.reduceMul, Nat.reduceEqDiff, Nat.reduceLT, Nat.reduceLeDiff, or_false, false_or, Nat.not_lt_zero]
theorem m23_if {c : Bool} (I : dI) (J : dJ) : m_23 (if c = true then nn 1 else nn 0) I J = some (if c = true then 1 else 0) := by
  cases c
  · exact m23_0 I J
  · exact m23_1 I J
theorem cr_bin {p n sz c d2 g g2 k : Nat} {I : dI} {J : dJ} {v v2 : Int64} (hz : I (p + 1) 4 = nn sz) (hs : sz ≤ 40) (hn : n < sz) (h12 : 12 ≤ k) (h25 : k ≤ 25) (hK : I (p + 1 + 1) n = nn (k + 6)) (hL : I (p + 1 + 2) n = nn c) (hc : c < n) (hR : I (p + 1 + 3) n = nn d2) (hd : d2 < n) (h : CR p I J c v (nn 0) g) (h2 : CR p I J d2 v2 (nn 0) g2) : CR p I J n (op2 k v v2) (nn 0) (1 + g + g2) := by
  have h' : ∀ fu d x, c < fu → d + c ≤ 40 → wk_ p fu (nn c) (nn d) (wI I p x (nn 0)) J = some (v, wI I p (x + nn g) (nn 0), J) := h
  have h2' : ∀ fu d x, d2 < fu → d + d2 ≤ 40 → wk_ p fu (nn d2) (nn d) (wI I p x (nn 0)) J = some (v2, wI I p (x + nn g2) (nn 0), J) := h2
  intro fu d x h1 h3
  obtain ⟨f, rfl⟩ : ∃ f, fu = f + 1 := ⟨fu - 1, by omega⟩
  by_cases q : k ≤ 17
  · rw [wk_, m15_k hz hs hn (by omega) hK]
    simp (config := { maxSteps := 1000000 }) (disch := omega) only [K15, m17_eq, wI_ne, wI_4, wI_5, wI_6, wI_s5, wI_s6, m21_eq, m30_eq, m_31, b_31_0, m_33, b_33_0, m34_eq h12 q, m23_if, hz, hK, hL, hR, h', h2', op2, nn_asc, nn_l, nn_o, nn_lt, nn_le, nn_eq, nn_cl, nn_add, nn_sub, if_pos, if_neg, lt_, Option.bind_some, ↓reduceIte, not_true_eq_false, not_false_eq_true, Nat.add_sub_cancel, Nat.add_zero, Nat.reduceSub, Nat.reduceAdd, Nat.reduceMul, Nat.reduceEqDiff, Nat.reduceLT, Nat.reduceLeDiff, or_false, false_or, Nat.not_lt_zero]
  · rw [wk_, m15_k hz hs hn (by omega) hK]
    simp (config := { maxSteps := 1000000 }) (disch := omega) only [K15, m17_eq, wI_ne, wI_4, wI_5, wI_6, wI_s5, wI_s6, m21_eq, m30_eq, m_31, b_31_0, m_33, b_33_0, m35_eq (show 18 ≤ k by omega) h25, hz, hK, hL, hR, h', h2', op2, nn_asc, nn_l, nn_o, nn_lt, nn_le, nn_eq, nn_cl, nn_add, nn_sub, if_pos, if_neg, lt_, Option.bind_some, ↓reduceIte, not_true_eq_false, not_false_eq_true, Nat.add_sub_cancel, Nat.add_zero, Nat.reduceSub, Nat.reduceAdd, Nat.reduceMul, Nat.reduceEqDiff, Nat.reduceLT, Nat.reduceLeDiff, or_false, false_or, Nat.not_lt_zero]
theorem cr_div {p n sz c d2 g g2 k : Nat} {I : dI} {J : dJ} {v v2 : Int64} (hz : I (p + 1) 4 = nn sz) (hs : sz ≤ 40) (hn : n < sz) (hk : k = 26 ∨ k = 27) (hK : I (p + 1 + 1) n = nn (k + 6)) (hL : I (p + 1 + 2) n = nn c) (hc : c < n) (hR : I (p + 1 + 3) n = nn d2) (hd : d2 < n) (h : CR p I J c v (nn 0) g) (h2 : CR p I J d2 v2 (nn 0) g2) (q : v2 ≠ 0) : CR p I J n (dv k v v2) (nn 0) (1 + g + g2) := by
  have h' : ∀ fu d x, c < fu → d + c ≤ 40 → wk_ p fu (nn c) (nn d) (wI I p x (nn 0)) J = some (v, wI I p (x + nn g) (nn 0), J) := h
  have h2' : ∀ fu d x, d2 < fu → d + d2 ≤ 40 → wk_ p fu (nn d2) (nn d) (wI I p x (nn 0)) J = some (v2, wI I p (x + nn g2) (nn 0), J) := h2
  intro fu d x h1 h3
  obtain ⟨f, rfl⟩ : ∃ f, fu = f + 1 := ⟨fu - 1, by omega⟩
  rcases hk with hk | hk <;> subst hk <;> rw [wk_, m15_k hz hs hn (by omega) hK] <;> simp (config := { maxSteps := 1000000 }) (disch := omega) only [K15, m17_eq, wI_ne, wI_4, wI_5, wI_6, wI_s5, wI_s6, m21_eq, m30_eq, m_31, b_31_0, b_31_57, m_32, b_32_0, hz, hK, hL, hR, h', h2', lg_eq0, dv, q, not_false_eq_true, ↓reduceIte, nn_asc, nn_l, nn_o, nn_lt, nn_le, nn_eq, nn_cl, nn_add, nn_sub, if_pos, if_neg, lt_, Option.bind_some, ↓reduceIte, not_true_eq_false, not_false_eq_true, Nat.add_sub_cancel, Nat.add_zero, Nat.reduceSub, Nat.reduceAdd, Nat.reduceMul, Nat.reduceEqDiff, Nat.reduceLT, Nat.reduceLeDiff, or_false, false_or, Nat.not_lt_zero]
theorem cr_div0 {p n sz c d2 g g2 k : Nat} {I : dI} {J : dJ} {v v2 : Int64} (hz : I (p + 1) 4 = nn sz) (hs : sz ≤ 40) (hn : n < sz) (hk : k = 26 ∨ k = 27) (hK : I (p + 1 + 1) n = nn (k + 6)) (hL : I (p + 1 + 2) n = nn c) (hc : c < n) (hR : I (p + 1 + 3) n = nn d2) (hd : d2 < n) (h : CR p I J c v (nn 0) g) (h2 : CR p I J d2 v2 (nn 0) g2) (q : v2 = 0) : CR p I J n 0 (nn 1) (1 + g + g2) := by
  have h' : ∀ fu d x, c < fu → d + c ≤ 40 → wk_ p fu (nn c) (nn d) (wI I p x (nn 0)) J = some (v, wI I p (x + nn g) (nn 0), J) := h
  have h2' : ∀ fu d x, d2 < fu → d + d2 ≤ 40 → wk_ p fu (nn d2) (nn d) (wI I p x (nn 0)) J = some (v2, wI I p (x + nn g2) (nn 0), J) := h2
  intro fu d x h1 h3
  obtain ⟨f, rfl⟩ : ∃ f, fu = f + 1 := ⟨fu - 1, by omega⟩
  rcases hk with hk | hk <;> subst hk <;> rw [wk_, m15_k hz hs hn (by omega) hK] <;> simp (config := { maxSteps := 1000000 }) (disch := omega) only [K15, m17_eq, wI_ne, wI_4, wI_5, wI_6, wI_s5, wI_s6, m21_eq, m30_eq, m_31, b_31_0, b_31_57, m_32, b_32_0, hz, hK, hL, hR, h', h2', lg_eq0, q, not_true_eq_false, ↓reduceIte, nn_asc, nn_l, nn_o, nn_lt, nn_le, nn_eq, nn_cl, nn_add, nn_sub, if_pos, if_neg, lt_, Option.bind_some, ↓reduceIte, not_true_eq_false, not_false_eq_true, Nat.add_sub_cancel, Nat.add_zero, Nat.reduceSub, Nat.reduceAdd, Nat.reduceMul, Nat.reduceEqDiff, Nat.reduceLT, Nat.reduceLeDiff, or_false, false_or, Nat.not_lt_zero]
theorem cr_binB1 {p n sz c d2 g k : Nat} {I : dI} {J : dJ} {v : Int64} {e : Int32} (hz : I (p + 1) 4 = nn sz) (hs : sz ≤ 40) (hn : n < sz) (h12 : 12 ≤ k) (h27 : k ≤ 27) (hK : I (p + 1 + 1) n = nn (k + 6)) (hL : I (p + 1 + 2) n = nn c) (hc : c < n) (hR : I (p + 1 + 3) n = nn d2) (hd : d2 < n) (h : CR p I J c v e g) (he : e ≠ nn 0) : ∃ w, CR p I J n w e (1 + g) := by
  have h' : ∀ fu d x, c < fu → d + c ≤ 40 → wk_ p fu (nn c) (nn d) (wI I p x (nn 0)) J = some (v, wI I p (x + nn g) e, J) := h
  have h2' : ∀ fu x a d, 0 < fu → wk_ p fu a d (wI I p x e) J = some (0, wI I p x e, J) := fun fu x a d hf => wk_bad he hf
  by_cases q : k ≤ 17
  · refine ⟨if cq k v 0 = true then 1 else 0, fun fu d x h1 h3 => ?_⟩
    obtain ⟨f, rfl⟩ : ∃ f, fu = f + 1 := ⟨fu - 1, by omega⟩
    rw [wk_, m15_k hz hs hn (by omega) hK]
    simp (config := { maxSteps := 1000000 }) (disch := omega) only [K15, m17_eq, wI_ne, wI_4, wI_5, wI_6, wI_s5, wI_s6, m21_eq, m30_eq, m_31, b_31_0, m_33, b_33_0, m34_eq h12 q, m23_if, hz, hK, hL, hR, h', h2', nn_asc, nn_l, nn_o, nn_lt, nn_le, nn_eq, nn_cl, nn_add, nn_sub, if_pos, if_neg, lt_, Option.bind_some, ↓reduceIte, not_true_eq_false, not_false_eq_true, Nat.add_sub_cancel, Nat.add_zero, Nat.reduceSub, Nat.reduceAdd, Nat.reduceMul, Nat.reduceEqDiff, Nat.reduceLT, Nat.reduceLeDiff, or_false, false_or, Nat.not_lt_zero]
  · by_cases q2 : k ≤ 25
    · refine ⟨ar k v 0, fun fu d x h1 h3 => ?_⟩
      obtain ⟨f, rfl⟩ : ∃ f, fu = f + 1 := ⟨fu - 1, by omega⟩
      rw [wk_, m15_k hz hs hn (by omega) hK]
      simp (config := { maxSteps := 1000000 }) (disch := omega) only [K15, m17_eq, wI_ne, wI_4, wI_5, wI_6, wI_s5, wI_s6, m21_eq, m30_eq, m_31, b_31_0, m_33, b_33_0, m35_eq (show 18 ≤ k by omega) q2, hz, hK, hL, hR, h', h2', nn_asc, nn_l, nn_o, nn_lt, nn_le, nn_eq, nn_cl, nn_add, nn_sub, if_pos, if_neg, lt_, Option.bind_some, ↓reduceIte, not_true_eq_false, not_false_eq_true, Nat.add_sub_cancel, Nat.add_zero, Nat.reduceSub, Nat.reduceAdd, Nat.reduceMul, Nat.reduceEqDiff, Nat.reduceLT, Nat.reduceLeDiff, or_false, false_or, Nat.not_lt_zero]
    · refine ⟨0, fun fu d x h1 h3 => ?_⟩
      obtain ⟨f, rfl⟩ : ∃ f, fu = f + 1 := ⟨fu - 1, by omega⟩
      have hk : k = 26 ∨ k = 27 := by omega
      rcases hk with hk | hk <;> subst hk <;> rw [wk_, m15_k hz hs hn (by omega) hK] <;> simp (config := { maxSteps := 1000000 }) (disch := omega) only [K15, m17_eq, wI_ne, wI_4, wI_5, wI_6, wI_s5, wI_s6, m21_eq, m30_eq, m_31, b_31_0, b_31_57, m_32, b_32_0, hz, hK, hL, hR, h', h2', he, ↓reduceIte, nn_asc, nn_l, nn_o, nn_lt, nn_le, nn_eq, nn_cl, nn_add, nn_sub, if_pos, if_neg, lt_, Option.bind_some, ↓reduceIte, not_true_eq_false, not_false_eq_true, Nat.add_sub_cancel, Nat.add_zero, Nat.reduceSub, Nat.reduceAdd, Nat.reduceMul, Nat.reduceEqDiff, Nat.reduceLT, Nat.reduceLeDiff, or_false, false_or, Nat.not_lt_zero]
theorem cr_binB2 {p n sz c d2 g g2 k : Nat} {I : dI} {J : dJ} {v v2 : Int64} {e : Int32} (hz : I (p + 1) 4 = nn sz) (hs : sz ≤ 40) (hn : n < sz) (h12 : 12 ≤ k) (h27 : k ≤ 27) (hK : I (p + 1 + 1) n = nn (k + 6)) (hL : I (p + 1 + 2) n = nn c) (hc : c < n) (hR : I (p + 1 + 3) n = nn d2) (hd : d2 < n) (h : CR p I J c v (nn 0) g) (h2 : CR p I J d2 v2 e g2) (he : e ≠ nn 0) : ∃ w, CR p I J n w e (1 + g + g2) := by
  have h' : ∀ fu d x, c < fu → d + c ≤ 40 → wk_ p fu (nn c) (nn d) (wI I p x (nn 0)) J = some (v, wI I p (x + nn g) (nn 0), J) := h
  have h2' : ∀ fu d x, d2 < fu → d + d2 ≤ 40 → wk_ p fu (nn d2) (nn d) (wI I p x (nn 0)) J = some (v2, wI I p (x + nn g2) e, J) := h2
  by_cases q : k ≤ 17
  · refine ⟨if cq k v v2 = true then 1 else 0, fun fu d x h1 h3 => ?_⟩
    obtain ⟨f, rfl⟩ : ∃ f, fu = f + 1 := ⟨fu - 1, by omega⟩
    rw [wk_, m15_k hz hs hn (by omega) hK]
    simp (config := { maxSteps := 1000000 }) (disch := omega) only [K15, m17_eq, wI_ne, wI_4, wI_5, wI_6, wI_s5, wI_s6, m21_eq, m30_eq, m_31, b_31_0, m_33, b_33_0, m34_eq h12 q, m23_if, hz, hK, hL, hR, h', h2', nn_asc, nn_l, nn_o, nn_lt, nn_le, nn_eq, nn_cl, nn_add, nn_sub, if_pos, if_neg, lt_, Option.bind_some, ↓reduceIte, not_true_eq_false, not_false_eq_true, Nat.add_sub_cancel, Nat.add_zero, Nat.reduceSub, Nat.reduceAdd, Nat.reduceMul, Nat.reduceEqDiff, Nat.reduceLT, Nat.reduceLeDiff, or_false, false_or, Nat.not_lt_zero]
  · by_cases q2 : k ≤ 25
    · refine ⟨ar k v v2, fun fu d x h1 h3 => ?_⟩
      obtain ⟨f, rfl⟩ : ∃ f, fu = f + 1 := ⟨fu - 1, by omega⟩
      rw [wk_, m15_k hz hs hn (by omega) hK]
      simp (config := { maxSteps := 1000000 }) (disch := omega) only [K15, m17_eq, wI_ne, wI_4, wI_5, wI_6, wI_s5, wI_s6, m21_eq, m30_eq, m_31, b_31_0, m_33, b_33_0, m35_eq (show 18 ≤ k by omega) q2, hz, hK, hL, hR, h', h2', nn_asc, nn_l, nn_o, nn_lt, nn_le, nn_eq, nn_cl, nn_add, nn_sub, if_pos, if_neg, lt_, Option.bind_some, ↓reduceIte, not_true_eq_false, not_false_eq_true, Nat.add_sub_cancel, Nat.add_zero, Nat.reduceSub, Nat.reduceAdd, Nat.reduceMul, Nat.reduceEqDiff, Nat.reduceLT, Nat.reduceLeDiff, or_false, false_or, Nat.not_lt_zero]
    · refine ⟨0, fun fu d x h1 h3 => ?_⟩
      obtain ⟨f, rfl⟩ : ∃ f, fu = f + 1 := ⟨fu - 1, by omega⟩
      have hk : k = 26 ∨ k = 27 := by omega
      rcases hk with hk | hk <;> subst hk <;> rw [wk_, m15_k hz hs hn (by omega) hK] <;> simp (config := { maxSteps := 1000000 }) (disch := omega) only [K15, m17_eq, wI_ne, wI_4, wI_5, wI_6, wI_s5, wI_s6, m21_eq, m30_eq, m_31, b_31_0, b_31_57, m_32, b_32_0, hz, hK, hL, hR, h', h2', he, ↓reduceIte, nn_asc, nn_l, nn_o, nn_lt, nn_le, nn_eq, nn_cl, nn_add, nn_sub, if_pos, if_neg, lt_, Option.bind_some, ↓reduceIte, not_true_eq_false, not_false_eq_true, Nat.add_sub_cancel, Nat.add_zero, Nat.reduceSub, Nat.reduceAdd, Nat.reduceMul, Nat.reduceEqDiff, Nat.reduceLT, Nat.reduceLeDiff, or_false, false_or, Nat.not_lt_zero]
