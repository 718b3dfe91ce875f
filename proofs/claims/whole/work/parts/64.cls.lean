/-! The class's evaluator, node by node. -/
theorem dI_ext {I I' : dI} (h : ∀ q j, I q j = I' q j) : I = I' := funext fun q => funext fun j => h q j
theorem dJ_ext {J J' : dJ} (h : ∀ q j, J q j = J' q j) : J = J' := funext fun q => funext fun j => h q j
theorem nn_asc (x : Int32) (a b : Nat) : x + nn a + nn b = x + nn (a + b) := by rw [Int32.add_assoc, nn_add]
def wI (I : dI) (p : Nat) (x y : Int32) : dI := sI (sI I p 5 x) p 6 y
theorem wI_ne {I : dI} {p q : Nat} {x y : Int32} (h : q ≠ p) : wI I p x y q = I q := by rw [wI, sI_ne h, sI_ne h]
theorem wI_4 {I : dI} {p : Nat} {x y : Int32} : wI I p x y p 4 = I p 4 := by rw [wI, sI_nk (by decide), sI_nk (by decide)]
theorem wI_5 {I : dI} {p : Nat} {x y : Int32} : wI I p x y p 5 = x := by rw [wI, sI_nk (by decide), sI_eq]
theorem wI_6 {I : dI} {p : Nat} {x y : Int32} : wI I p x y p 6 = y := sI_eq
theorem wI_s5 {I : dI} {p : Nat} {x y z : Int32} : sI (wI I p x y) p 5 z = wI I p z y := by
  refine dI_ext fun q j => ?_
  simp only [wI, sI_get]
  repeat' split
  all_goals first | rfl | (exfalso; omega)
theorem wI_s6 {I : dI} {p : Nat} {x y z : Int32} : sI (wI I p x y) p 6 z = wI I p x z := by
  refine dI_ext fun q j => ?_
  simp only [wI, sI_get]
  repeat' split
  all_goals first | rfl | (exfalso; omega)
theorem wk_bad {p fu : Nat} {I : dI} {J : dJ} {x e a d : Int32} (he : e ≠ nn 0) (hf : 0 < fu) : wk_ p fu a d (wI I p x e) J = some (0, wI I p x e, J) := by
  obtain ⟨f, rfl⟩ : ∃ f, fu = f + 1 := ⟨fu - 1, by omega⟩
  simp only [wk_, m_15, b_15_0, wI_6, nn_l, he, not_false_eq_true, ↓reduceIte]
theorem m16_eq {p n sz : Nat} {I : dI} {J : dJ} (hz : I p 4 = nn sz) (hs : sz ≤ 40) (hn : n < sz) : m_16 p (nn n) I J = some (nn 1) := by
  simp (disch := omega) only [m_16, b_16_0, hz, nn_l, nn_o, nn_lt, nn_le, nn_eq, nn_cl, nn_add, nn_sub, if_pos, if_neg, lt_, Option.bind_some, ↓reduceIte, not_true_eq_false, not_false_eq_true, Nat.add_sub_cancel, Nat.add_zero, Nat.reduceSub, Nat.reduceAdd, Nat.reduceMul, Nat.reduceEqDiff, Nat.reduceLT, Nat.reduceLeDiff, or_false, false_or, Nat.not_lt_zero]
theorem m17_eq {p n : Nat} {I : dI} {J : dJ} (hn : n < 40) : m_17 p (nn n) I J = some (I (p + 1) n) := by
  simp (disch := omega) only [m_17, b_17_0, nn_l, nn_o, nn_lt, nn_le, nn_eq, nn_cl, nn_add, nn_sub, if_pos, if_neg, lt_, Option.bind_some, ↓reduceIte, not_true_eq_false, not_false_eq_true, Nat.add_sub_cancel, Nat.add_zero, Nat.reduceSub, Nat.reduceAdd, Nat.reduceMul, Nat.reduceEqDiff, Nat.reduceLT, Nat.reduceLeDiff, or_false, false_or, Nat.not_lt_zero]
theorem m18_eq {p n : Nat} {I : dI} {J : dJ} (hn : n < 40) : m_18 p (nn n) I J = some (J (p + 4) n) := by
  simp (disch := omega) only [m_18, b_18_0, nn_l, nn_o, nn_lt, nn_le, nn_eq, nn_cl, nn_add, nn_sub, if_pos, if_neg, lt_, Option.bind_some, ↓reduceIte, not_true_eq_false, not_false_eq_true, Nat.add_sub_cancel, Nat.add_zero, Nat.reduceSub, Nat.reduceAdd, Nat.reduceMul, Nat.reduceEqDiff, Nat.reduceLT, Nat.reduceLeDiff, or_false, false_or, Nat.not_lt_zero]
theorem m20_eq {p n : Nat} {I : dI} {J : dJ} (hn : n < 40) : m_20 p (nn n) I J = some (J (p + 6) n) := by
  simp (disch := omega) only [m_20, b_20_0, nn_l, nn_o, nn_lt, nn_le, nn_eq, nn_cl, nn_add, nn_sub, if_pos, if_neg, lt_, Option.bind_some, ↓reduceIte, not_true_eq_false, not_false_eq_true, Nat.add_sub_cancel, Nat.add_zero, Nat.reduceSub, Nat.reduceAdd, Nat.reduceMul, Nat.reduceEqDiff, Nat.reduceLT, Nat.reduceLeDiff, or_false, false_or, Nat.not_lt_zero]
theorem m21_eq {p n : Nat} {I : dI} {J : dJ} (hn : n < 40) : m_21 p (nn n) I J = some (I (p + 2) n) := by
  simp (disch := omega) only [m_21, b_21_0, nn_l, nn_o, nn_lt, nn_le, nn_eq, nn_cl, nn_add, nn_sub, if_pos, if_neg, lt_, Option.bind_some, ↓reduceIte, not_true_eq_false, not_false_eq_true, Nat.add_sub_cancel, Nat.add_zero, Nat.reduceSub, Nat.reduceAdd, Nat.reduceMul, Nat.reduceEqDiff, Nat.reduceLT, Nat.reduceLeDiff, or_false, false_or, Nat.not_lt_zero]
theorem m30_eq {p n : Nat} {I : dI} {J : dJ} (hn : n < 40) : m_30 p (nn n) I J = some (I (p + 3) n) := by
  simp (disch := omega) only [m_30, b_30_0, nn_l, nn_o, nn_lt, nn_le, nn_eq, nn_cl, nn_add, nn_sub, if_pos, if_neg, lt_, Option.bind_some, ↓reduceIte, not_true_eq_false, not_false_eq_true, Nat.add_sub_cancel, Nat.add_zero, Nat.reduceSub, Nat.reduceAdd, Nat.reduceMul, Nat.reduceEqDiff, Nat.reduceLT, Nat.reduceLeDiff, or_false, false_or, Nat.not_lt_zero]
def K15 (W : Int32 → Int32 → dI → dJ → Option (Int64 × dI × dJ)) (p : Nat) (x1 : Int32) (x2 : Int32) (r7 : Int32) (I6 : dI) (J : dJ) : Option (Int64 × dI × dJ) := if r7 = 3 then ((m_18 (p + 1) x1 I6 J).bind (fun r10 => some (r10, I6, J))) else if r7 = 4 then ((m_18 (p + 1) x1 I6 J).bind (fun r13 => (m_19 r13 I6 J).bind (fun r15 => some ((Int32.toInt64 r15), I6, J)))) else if r7 = 5 then (some ((J 3 2), I6, J)) else if r7 = 6 then (b_15_264 W p x1 x2 r7 I6 J) else if r7 = 7 then (b_15_264 W p x1 x2 r7 I6 J) else if r7 = 8 then (if (I6 p 4) = 0 then ((m_21 (p + 1) x1 I6 J).bind (fun r22 => (W r22 (x2 + 1) I6 J).bind (fun r24 => some (r24.1, r24.2.1, r24.2.2)))) else ((m_20 p x1 I6 J).bind (fun r26 => some (r26, I6, J)))) else if r7 = 9 then ((m_22 W p x1 x2 I6 J).bind (fun r29 => some (r29.1, r29.2.1, r29.2.2))) else if r7 = 14 then (b_15_285 W p x1 x2 r7 I6 J) else if r7 = 15 then (b_15_285 W p x1 x2 r7 I6 J) else if r7 = 16 then (b_15_305 W p x1 x2 I6 J) else if r7 = 17 then (b_15_305 W p x1 x2 I6 J) else if r7 = 34 then (b_15_264 W p x1 x2 r7 I6 J) else if r7 = 35 then (b_15_285 W p x1 x2 r7 I6 J) else ((m_31 W p x1 x2 I6 J).bind (fun r37 => some (r37.1, r37.2.1, r37.2.2)))
theorem m15_k {W : Int32 → Int32 → dI → dJ → Option (Int64 × dI × dJ)} {p n d sz : Nat} {x κ : Int32} {I : dI} {J : dJ} (hz : I (p + 1) 4 = nn sz) (hs : sz ≤ 40) (hn : n < sz) (hd : d ≤ 40) (hK : I (p + 1 + 1) n = κ) : m_15 W p (nn n) (nn d) (wI I p x (nn 0)) J = K15 W p (nn n) (nn d) κ (wI I p (x + nn 1) (nn 0)) J := by
  have h0 : ¬ ¬ (wI I p x (nn 0)) p 6 = 0 := fun h => h wI_6
  have h1 : ¬ (40 : Int32) < nn d := by
    rw [nn_l, nn_lt (by omega) (by omega)]
    omega
  have h2 : m_16 (p + 1) (nn n) (wI I p x (nn 0)) J = some (nn 1) := m16_eq (by rw [wI_ne (by omega)]; exact hz) hs hn
  have h3 : ¬ nn 1 = 0 := by decide
  have h4 : sI (wI I p x (nn 0)) p 5 ((wI I p x (nn 0)) p 5 + 1) = wI I p (x + nn 1) (nn 0) := by rw [wI_5, wI_s5]; rfl
  have h5 : m_17 (p + 1) (nn n) (wI I p (x + nn 1) (nn 0)) J = some κ := by
    rw [m17_eq (by omega), wI_ne (by omega), hK]
  unfold m_15 b_15_0
  rw [if_neg h0, if_neg h1, h2, Option.bind_some, if_pos h3, h4]
  show (m_17 (p + 1) (nn n) (wI I p (x + nn 1) (nn 0)) J).bind _ = _
  rw [h5, Option.bind_some]
  rfl
def CR (p : Nat) (I : dI) (J : dJ) (n : Nat) (v : Int64) (e : Int32) (g : Nat) : Prop := ∀ fu d x, n < fu → d + n ≤ 40 → wk_ p fu (nn n) (nn d) (wI I p x (nn 0)) J = some (v, wI I p (x + nn g) e, J)
theorem cr_num {p n sz : Nat} {I : dI} {J : dJ} (hz : I (p + 1) 4 = nn sz) (hs : sz ≤ 40) (hn : n < sz) (hK : I (p + 1 + 1) n = nn 3) : CR p I J n (J (p + 1 + 4) n) (nn 0) 1 := by
  intro fu d x h1 h2
  obtain ⟨f, rfl⟩ : ∃ f, fu = f + 1 := ⟨fu - 1, by omega⟩
  rw [wk_, m15_k hz hs hn (by omega) hK]
  simp (config := { maxSteps := 1000000 }) (disch := omega) only [K15, m17_eq, wI_ne, wI_4, wI_5, wI_6, wI_s5, wI_s6, m18_eq, hz, hK, nn_l, nn_o, nn_lt, nn_le, nn_eq, nn_cl, nn_add, nn_sub, if_pos, if_neg, lt_, Option.bind_some, ↓reduceIte, not_true_eq_false, not_false_eq_true, Nat.add_sub_cancel, Nat.add_zero, Nat.reduceSub, Nat.reduceAdd, Nat.reduceMul, Nat.reduceEqDiff, Nat.reduceLT, Nat.reduceLeDiff, or_false, false_or, Nat.not_lt_zero]
theorem cr_reg {p n sz z : Nat} {I : dI} {J : dJ} (hz : I (p + 1) 4 = nn sz) (hs : sz ≤ 40) (hn : n < sz) (hK : I (p + 1 + 1) n = nn 4) (hV : J (p + 1 + 4) n = Int64.ofNat z) (h34 : z < 34) (h4 : p ≠ 4) : CR p I J n (Int32.toInt64 (I 4 z)) (nn 0) 1 := by
  intro fu d x h1 h2
  obtain ⟨f, rfl⟩ : ∃ f, fu = f + 1 := ⟨fu - 1, by omega⟩
  have q1 : ¬ Int64.ofNat z < 0 := by
    rw [Int64.lt_iff_toInt_lt, Int64.toInt_ofNat_of_lt (by omega)]
    show ¬ ((z : Int) < 0)
    omega
  have q2 : ¬ Int32.toInt64 (nn 34) ≤ Int64.ofNat z := by
    rw [Int64.le_iff_toInt_le, Int64.toInt_ofNat_of_lt (by omega), Int32.toInt_toInt64, nn_i (by omega)]
    omega
  rw [wk_, m15_k hz hs hn (by omega) hK]
  simp (config := { maxSteps := 1000000 }) (disch := omega) only [K15, m17_eq, wI_ne, wI_4, wI_5, wI_6, wI_s5, wI_s6, m18_eq, m_19, b_19_0, hz, hK, hV, lg_lt0, lg_ge0, q1, q2, nn_int, nn_l, nn_o, nn_lt, nn_le, nn_eq, nn_cl, nn_add, nn_sub, if_pos, if_neg, lt_, Option.bind_some, ↓reduceIte, not_true_eq_false, not_false_eq_true, Nat.add_sub_cancel, Nat.add_zero, Nat.reduceSub, Nat.reduceAdd, Nat.reduceMul, Nat.reduceEqDiff, Nat.reduceLT, Nat.reduceLeDiff, or_false, false_or, Nat.not_lt_zero, ↓reduceIte]
theorem cr_cnt {p n sz : Nat} {I : dI} {J : dJ} (hz : I (p + 1) 4 = nn sz) (hs : sz ≤ 40) (hn : n < sz) (hK : I (p + 1 + 1) n = nn 5) : CR p I J n (J 3 2) (nn 0) 1 := by
  intro fu d x h1 h2
  obtain ⟨f, rfl⟩ : ∃ f, fu = f + 1 := ⟨fu - 1, by omega⟩
  rw [wk_, m15_k hz hs hn (by omega) hK]
  simp (config := { maxSteps := 1000000 }) (disch := omega) only [K15, m17_eq, wI_ne, wI_4, wI_5, wI_6, wI_s5, wI_s6, hz, hK, nn_l, nn_o, nn_lt, nn_le, nn_eq, nn_cl, nn_add, nn_sub, if_pos, if_neg, lt_, Option.bind_some, ↓reduceIte, not_true_eq_false, not_false_eq_true, Nat.add_sub_cancel, Nat.add_zero, Nat.reduceSub, Nat.reduceAdd, Nat.reduceMul, Nat.reduceEqDiff, Nat.reduceLT, Nat.reduceLeDiff, or_false, false_or, Nat.not_lt_zero]
theorem cr_old0 {p n sz c g : Nat} {I : dI} {J : dJ} {v : Int64} {e : Int32} (hz : I (p + 1) 4 = nn sz) (hs : sz ≤ 40) (hn : n < sz) (hK : I (p + 1 + 1) n = nn 8) (hL : I (p + 1 + 2) n = nn c) (hc : c < n) (hb : I p 4 = nn 0) (h : CR p I J c v e g) : CR p I J n v e (1 + g) := by
  have h' : ∀ fu d x, c < fu → d + c ≤ 40 → wk_ p fu (nn c) (nn d) (wI I p x (nn 0)) J = some (v, wI I p (x + nn g) e, J) := h
  intro fu d x h1 h2
  obtain ⟨f, rfl⟩ : ∃ f, fu = f + 1 := ⟨fu - 1, by omega⟩
  rw [wk_, m15_k hz hs hn (by omega) hK]
  simp (config := { maxSteps := 1000000 }) (disch := omega) only [K15, m17_eq, wI_ne, wI_4, wI_5, wI_6, wI_s5, wI_s6, m21_eq, hz, hK, hL, hb, h', nn_asc, nn_l, nn_o, nn_lt, nn_le, nn_eq, nn_cl, nn_add, nn_sub, if_pos, if_neg, lt_, Option.bind_some, ↓reduceIte, not_true_eq_false, not_false_eq_true, Nat.add_sub_cancel, Nat.add_zero, Nat.reduceSub, Nat.reduceAdd, Nat.reduceMul, Nat.reduceEqDiff, Nat.reduceLT, Nat.reduceLeDiff, or_false, false_or, Nat.not_lt_zero]
theorem cr_old1 {p n sz : Nat} {I : dI} {J : dJ} (hz : I (p + 1) 4 = nn sz) (hs : sz ≤ 40) (hn : n < sz) (hK : I (p + 1 + 1) n = nn 8) (hb : I p 4 = nn 1) : CR p I J n (J (p + 6) n) (nn 0) 1 := by
  intro fu d x h1 h2
  obtain ⟨f, rfl⟩ : ∃ f, fu = f + 1 := ⟨fu - 1, by omega⟩
  rw [wk_, m15_k hz hs hn (by omega) hK]
  simp (config := { maxSteps := 1000000 }) (disch := omega) only [K15, m17_eq, wI_ne, wI_4, wI_5, wI_6, wI_s5, wI_s6, m20_eq, hz, hK, hb, nn_l, nn_o, nn_lt, nn_le, nn_eq, nn_cl, nn_add, nn_sub, if_pos, if_neg, lt_, Option.bind_some, ↓reduceIte, not_true_eq_false, not_false_eq_true, Nat.add_sub_cancel, Nat.add_zero, Nat.reduceSub, Nat.reduceAdd, Nat.reduceMul, Nat.reduceEqDiff, Nat.reduceLT, Nat.reduceLeDiff, or_false, false_or, Nat.not_lt_zero]
def tr (b : Prop) [Decidable b] : Int64 := if b then 1 else 0
theorem m23_0 (I : dI) (J : dJ) : m_23 (nn 0) I J = some 0 := by simp (disch := omega) only [m_23, b_23_0, nn_l, nn_o, nn_lt, nn_le, nn_eq, nn_cl, nn_add, nn_sub, if_pos, if_neg, lt_, Option.bind_some, ↓reduceIte, not_true_eq_false, not_false_eq_true, Nat.add_sub_cancel, Nat.add_zero, Nat.reduceSub, Nat.reduceAdd, Nat.reduceMul, Nat.reduceEqDiff, Nat.reduceLT, Nat.reduceLeDiff, or_false, false_or, Nat.not_lt_zero]
theorem m23_1 (I : dI) (J : dJ) : m_23 (nn 1) I J = some 1 := by simp (disch := omega) only [m_23, b_23_0, nn_l, nn_o, nn_lt, nn_le, nn_eq, nn_cl, nn_add, nn_sub, if_pos, if_neg, lt_, Option.bind_some, ↓reduceIte, not_true_eq_false, not_false_eq_true, Nat.add_sub_cancel, Nat.add_zero, Nat.reduceSub, Nat.reduceAdd, Nat.reduceMul, Nat.reduceEqDiff, Nat.reduceLT, Nat.reduceLeDiff, or_false, false_or, Nat.not_lt_zero]
theorem cr_chg0 {p n sz c g : Nat} {I : dI} {J : dJ} {v : Int64} {e : Int32} (hz : I (p + 1) 4 = nn sz) (hs : sz ≤ 40) (hn : n < sz) (hK : I (p + 1 + 1) n = nn 9) (hL : I (p + 1 + 2) n = nn c) (hc : c < n) (hb : I p 4 = nn 0) (h : CR p I J c v e g) : CR p I J n 0 e (1 + g) := by
  have h' : ∀ fu d x, c < fu → d + c ≤ 40 → wk_ p fu (nn c) (nn d) (wI I p x (nn 0)) J = some (v, wI I p (x + nn g) e, J) := h
  intro fu d x h1 h2
  obtain ⟨f, rfl⟩ : ∃ f, fu = f + 1 := ⟨fu - 1, by omega⟩
  rw [wk_, m15_k hz hs hn (by omega) hK]
  simp (config := { maxSteps := 1000000 }) (disch := omega) only [K15, m17_eq, wI_ne, wI_4, wI_5, wI_6, wI_s5, wI_s6, m21_eq, m_22, b_22_0, b_22_37, b_22_38, m23_0, m23_1, hz, hK, hL, hb, h', nn_asc, nn_l, nn_o, nn_lt, nn_le, nn_eq, nn_cl, nn_add, nn_sub, if_pos, if_neg, lt_, Option.bind_some, ↓reduceIte, not_true_eq_false, not_false_eq_true, Nat.add_sub_cancel, Nat.add_zero, Nat.reduceSub, Nat.reduceAdd, Nat.reduceMul, Nat.reduceEqDiff, Nat.reduceLT, Nat.reduceLeDiff, or_false, false_or, Nat.not_lt_zero]
theorem cr_chg1 {p n sz c g : Nat} {I : dI} {J : dJ} {v : Int64} {e : Int32} (hz : I (p + 1) 4 = nn sz) (hs : sz ≤ 40) (hn : n < sz) (hK : I (p + 1 + 1) n = nn 9) (hL : I (p + 1 + 2) n = nn c) (hc : c < n) (hb : I p 4 = nn 1) (h : CR p I J c v e g) : CR p I J n (tr (v ≠ J (p + 6) n)) e (1 + g) := by
  have h' : ∀ fu d x, c < fu → d + c ≤ 40 → wk_ p fu (nn c) (nn d) (wI I p x (nn 0)) J = some (v, wI I p (x + nn g) e, J) := h
  intro fu d x h1 h2
  obtain ⟨f, rfl⟩ : ∃ f, fu = f + 1 := ⟨fu - 1, by omega⟩
  by_cases q : v = J (p + 6) n
  · rw [wk_, m15_k hz hs hn (by omega) hK]
    simp (config := { maxSteps := 1000000 }) (disch := omega) only [K15, m17_eq, wI_ne, wI_4, wI_5, wI_6, wI_s5, wI_s6, m20_eq, m21_eq, m_22, b_22_0, b_22_37, b_22_38, m23_0, m23_1, hz, hK, hL, hb, h', lg_eq0, tr, q, ne_eq, not_true_eq_false, ↓reduceIte, nn_asc, nn_l, nn_o, nn_lt, nn_le, nn_eq, nn_cl, nn_add, nn_sub, if_pos, if_neg, lt_, Option.bind_some, ↓reduceIte, not_true_eq_false, not_false_eq_true, Nat.add_sub_cancel, Nat.add_zero, Nat.reduceSub, Nat.reduceAdd, Nat.reduceMul, Nat.reduceEqDiff, Nat.reduceLT, Nat.reduceLeDiff, or_false, false_or, Nat.not_lt_zero]
  · rw [wk_, m15_k hz hs hn (by omega) hK]
    simp (config := { maxSteps := 1000000 }) (disch := omega) only [K15, m17_eq, wI_ne, wI_4, wI_5, wI_6, wI_s5, wI_s6, m20_eq, m21_eq, m_22, b_22_0, b_22_37, b_22_38, m23_0, m23_1, hz, hK, hL, hb, h', lg_eq0, tr, q, ne_eq, not_false_eq_true, ↓reduceIte, nn_asc, nn_l, nn_o, nn_lt, nn_le, nn_eq, nn_cl, nn_add, nn_sub, if_pos, if_neg, lt_, Option.bind_some, ↓reduceIte, not_true_eq_false, not_false_eq_true, Nat.add_sub_cancel, Nat.add_zero, Nat.reduceSub, Nat.reduceAdd, Nat.reduceMul, Nat.reduceEqDiff, Nat.reduceLT, Nat.reduceLeDiff, or_false, false_or, Nat.not_lt_zero]
def un (k : Nat) (v : Int64) : Int64 := if k = 14 then tr (v = 0) else if k = 15 then v ^^^ (-1) else -v
theorem cr_pre {p n sz c g k : Nat} {I : dI} {J : dJ} {v : Int64} {e : Int32} (hz : I (p + 1) 4 = nn sz) (hs : sz ≤ 40) (hn : n < sz) (hK : I (p + 1 + 1) n = nn k) (hk : k = 14 ∨ k = 15 ∨ k = 35) (hL : I (p + 1 + 2) n = nn c) (hc : c < n) (h : CR p I J c v e g) : CR p I J n (un k v) e (1 + g) := by
  have h' : ∀ fu d x, c < fu → d + c ≤ 40 → wk_ p fu (nn c) (nn d) (wI I p x (nn 0)) J = some (v, wI I p (x + nn g) e, J) := h
  intro fu d x h1 h2
  obtain ⟨f, rfl⟩ : ∃ f, fu = f + 1 := ⟨fu - 1, by omega⟩
  rcases hk with hk | hk | hk <;> subst hk
  · by_cases q : v = 0
    · rw [wk_, m15_k hz hs hn (by omega) hK]
      simp (config := { maxSteps := 1000000 }) (disch := omega) only [K15, m17_eq, wI_ne, wI_4, wI_5, wI_6, wI_s5, wI_s6, m21_eq, b_15_285, m_28, b_28_0, b_28_39, m23_0, m23_1, hz, hK, hL, h', lg_eq0, un, tr, q, not_true_eq_false, ↓reduceIte, nn_asc, nn_l, nn_o, nn_lt, nn_le, nn_eq, nn_cl, nn_add, nn_sub, if_pos, if_neg, lt_, Option.bind_some, ↓reduceIte, not_true_eq_false, not_false_eq_true, Nat.add_sub_cancel, Nat.add_zero, Nat.reduceSub, Nat.reduceAdd, Nat.reduceMul, Nat.reduceEqDiff, Nat.reduceLT, Nat.reduceLeDiff, or_false, false_or, Nat.not_lt_zero]
    · rw [wk_, m15_k hz hs hn (by omega) hK]
      simp (config := { maxSteps := 1000000 }) (disch := omega) only [K15, m17_eq, wI_ne, wI_4, wI_5, wI_6, wI_s5, wI_s6, m21_eq, b_15_285, m_28, b_28_0, b_28_39, m23_0, m23_1, hz, hK, hL, h', lg_eq0, un, tr, q, not_false_eq_true, ↓reduceIte, nn_asc, nn_l, nn_o, nn_lt, nn_le, nn_eq, nn_cl, nn_add, nn_sub, if_pos, if_neg, lt_, Option.bind_some, ↓reduceIte, not_true_eq_false, not_false_eq_true, Nat.add_sub_cancel, Nat.add_zero, Nat.reduceSub, Nat.reduceAdd, Nat.reduceMul, Nat.reduceEqDiff, Nat.reduceLT, Nat.reduceLeDiff, or_false, false_or, Nat.not_lt_zero]
  · rw [wk_, m15_k hz hs hn (by omega) hK]
    simp (config := { maxSteps := 1000000 }) (disch := omega) only [K15, m17_eq, wI_ne, wI_4, wI_5, wI_6, wI_s5, wI_s6, m21_eq, b_15_285, m_28, b_28_0, hz, hK, hL, h', un, nn_asc, nn_l, nn_o, nn_lt, nn_le, nn_eq, nn_cl, nn_add, nn_sub, if_pos, if_neg, lt_, Option.bind_some, ↓reduceIte, not_true_eq_false, not_false_eq_true, Nat.add_sub_cancel, Nat.add_zero, Nat.reduceSub, Nat.reduceAdd, Nat.reduceMul, Nat.reduceEqDiff, Nat.reduceLT, Nat.reduceLeDiff, or_false, false_or, Nat.not_lt_zero]
  · rw [wk_, m15_k hz hs hn (by omega) hK]
    simp (config := { maxSteps := 1000000 }) (disch := omega) only [K15, m17_eq, wI_ne, wI_4, wI_5, wI_6, wI_s5, wI_s6, m21_eq, b_15_285, m_28, b_28_0, hz, hK, hL, h', un, nn_asc, nn_l, nn_o, nn_lt, nn_le, nn_eq, nn_cl, nn_add, nn_sub, if_pos, if_neg, lt_, Option.bind_some, ↓reduceIte, not_true_eq_false, not_false_eq_true, Nat.add_sub_cancel, Nat.add_zero, Nat.reduceSub, Nat.reduceAdd, Nat.reduceMul, Nat.reduceEqDiff, Nat.reduceLT, Nat.reduceLeDiff, or_false, false_or, Nat.not_lt_zero]
theorem cr_acc {p n sz c g k : Nat} {I : dI} {J : dJ} {v w : Int64} {e e' : Int32} (hz : I (p + 1) 4 = nn sz) (hs : sz ≤ 40) (hn : n < sz) (hK : I (p + 1 + 1) n = nn k) (hk : k = 6 ∨ k = 7 ∨ k = 34) (hL : I (p + 1 + 2) n = nn c) (hc : c < n) (h : CR p I J c v e g) (ha : ∀ x, m_24 p (nn k) v (wI I p x e) J = some (w, wI I p x e', J)) : CR p I J n w e' (1 + g) := by
  have h' : ∀ fu d x, c < fu → d + c ≤ 40 → wk_ p fu (nn c) (nn d) (wI I p x (nn 0)) J = some (v, wI I p (x + nn g) e, J) := h
  intro fu d x h1 h2
  obtain ⟨f, rfl⟩ : ∃ f, fu = f + 1 := ⟨fu - 1, by omega⟩
  rcases hk with hk | hk | hk <;> subst hk <;> rw [wk_, m15_k hz hs hn (by omega) hK] <;> simp (config := { maxSteps := 1000000 }) (disch := omega) only [K15, m17_eq, wI_ne, wI_4, wI_5, wI_6, wI_s5, wI_s6, m21_eq, b_15_264, hz, hK, hL, h', ha, nn_asc, nn_l, nn_o, nn_lt, nn_le, nn_eq, nn_cl, nn_add, nn_sub, if_pos, if_neg, lt_, Option.bind_some, ↓reduceIte, not_true_eq_false, not_false_eq_true, Nat.add_sub_cancel, Nat.add_zero, Nat.reduceSub, Nat.reduceAdd, Nat.reduceMul, Nat.reduceEqDiff, Nat.reduceLT, Nat.reduceLeDiff, or_false, false_or, Nat.not_lt_zero]
theorem cr_tru1 {p n sz c g k : Nat} {I : dI} {J : dJ} {v : Int64} {e : Int32} (hz : I (p + 1) 4 = nn sz) (hs : sz ≤ 40) (hn : n < sz) (hK : I (p + 1 + 1) n = nn k) (hk : (k = 16 ∧ v ≠ 0) ∨ (k = 17 ∧ v = 0)) (hL : I (p + 1 + 2) n = nn c) (hc : c < n) (h : CR p I J c v e g) : CR p I J n (tr (k = 16)) e (1 + g) := by
  have h' : ∀ fu d x, c < fu → d + c ≤ 40 → wk_ p fu (nn c) (nn d) (wI I p x (nn 0)) J = some (v, wI I p (x + nn g) e, J) := h
  intro fu d x h1 h2
  obtain ⟨f, rfl⟩ : ∃ f, fu = f + 1 := ⟨fu - 1, by omega⟩
  rcases hk with ⟨hk, q⟩ | ⟨hk, q⟩
  · subst hk
    rw [wk_, m15_k hz hs hn (by omega) hK]
    simp (config := { maxSteps := 1000000 }) (disch := omega) only [K15, m17_eq, wI_ne, wI_4, wI_5, wI_6, wI_s5, wI_s6, m21_eq, b_15_305, m_29, b_29_0, b_29_25, b_29_44, m23_0, m23_1, hz, hK, hL, h', lg_eq0, tr, q, ↓reduceIte, nn_asc, nn_l, nn_o, nn_lt, nn_le, nn_eq, nn_cl, nn_add, nn_sub, if_pos, if_neg, lt_, Option.bind_some, ↓reduceIte, not_true_eq_false, not_false_eq_true, Nat.add_sub_cancel, Nat.add_zero, Nat.reduceSub, Nat.reduceAdd, Nat.reduceMul, Nat.reduceEqDiff, Nat.reduceLT, Nat.reduceLeDiff, or_false, false_or, Nat.not_lt_zero]
  · subst hk
    rw [wk_, m15_k hz hs hn (by omega) hK]
    simp (config := { maxSteps := 1000000 }) (disch := omega) only [K15, m17_eq, wI_ne, wI_4, wI_5, wI_6, wI_s5, wI_s6, m21_eq, b_15_305, m_29, b_29_0, b_29_25, b_29_44, m23_0, m23_1, hz, hK, hL, h', lg_eq0, tr, q, ↓reduceIte, nn_asc, nn_l, nn_o, nn_lt, nn_le, nn_eq, nn_cl, nn_add, nn_sub, if_pos, if_neg, lt_, Option.bind_some, ↓reduceIte, not_true_eq_false, not_false_eq_true, Nat.add_sub_cancel, Nat.add_zero, Nat.reduceSub, Nat.reduceAdd, Nat.reduceMul, Nat.reduceEqDiff, Nat.reduceLT, Nat.reduceLeDiff, or_false, false_or, Nat.not_lt_zero]
theorem cr_tru2 {p n sz c d2 g g2 k : Nat} {I : dI} {J : dJ} {v v2 : Int64} {e2 : Int32} (hz : I (p + 1) 4 = nn sz) (hs : sz ≤ 40) (hn : n < sz) (hK : I (p + 1 + 1) n = nn k) (hk : (k = 16 ∧ v = 0) ∨ (k = 17 ∧ v ≠ 0)) (hL : I (p + 1 + 2) n = nn c) (hc : c < n) (hR : I (p + 1 + 3) n = nn d2) (hd : d2 < n) (h : CR p I J c v (nn 0) g) (h2 : CR p I J d2 v2 e2 g2) : CR p I J n (tr (v2 ≠ 0)) e2 (1 + g + g2) := by
  have h' : ∀ fu d x, c < fu → d + c ≤ 40 → wk_ p fu (nn c) (nn d) (wI I p x (nn 0)) J = some (v, wI I p (x + nn g) (nn 0), J) := h
  have h2' : ∀ fu d x, d2 < fu → d + d2 ≤ 40 → wk_ p fu (nn d2) (nn d) (wI I p x (nn 0)) J = some (v2, wI I p (x + nn g2) e2, J) := h2
  intro fu d x h1 h3
  obtain ⟨f, rfl⟩ : ∃ f, fu = f + 1 := ⟨fu - 1, by omega⟩
  rcases hk with ⟨hk, q⟩ | ⟨hk, q⟩ <;> subst hk <;> by_cases q2 : v2 = 0
  · rw [wk_, m15_k hz hs hn (by omega) hK]
    simp (config := { maxSteps := 1000000 }) (disch := omega) only [K15, m17_eq, wI_ne, wI_4, wI_5, wI_6, wI_s5, wI_s6, m21_eq, m30_eq, b_15_305, m_29, b_29_0, b_29_25, b_29_44, b_29_82, m23_0, m23_1, hz, hK, hL, hR, h', h2', lg_eq0, tr, q, q2, ne_eq, not_true_eq_false, ↓reduceIte, nn_asc, nn_l, nn_o, nn_lt, nn_le, nn_eq, nn_cl, nn_add, nn_sub, if_pos, if_neg, lt_, Option.bind_some, ↓reduceIte, not_true_eq_false, not_false_eq_true, Nat.add_sub_cancel, Nat.add_zero, Nat.reduceSub, Nat.reduceAdd, Nat.reduceMul, Nat.reduceEqDiff, Nat.reduceLT, Nat.reduceLeDiff, or_false, false_or, Nat.not_lt_zero]
  · rw [wk_, m15_k hz hs hn (by omega) hK]
    simp (config := { maxSteps := 1000000 }) (disch := omega) only [K15, m17_eq, wI_ne, wI_4, wI_5, wI_6, wI_s5, wI_s6, m21_eq, m30_eq, b_15_305, m_29, b_29_0, b_29_25, b_29_44, b_29_82, m23_0, m23_1, hz, hK, hL, hR, h', h2', lg_eq0, tr, q, q2, ne_eq, not_false_eq_true, ↓reduceIte, nn_asc, nn_l, nn_o, nn_lt, nn_le, nn_eq, nn_cl, nn_add, nn_sub, if_pos, if_neg, lt_, Option.bind_some, ↓reduceIte, not_true_eq_false, not_false_eq_true, Nat.add_sub_cancel, Nat.add_zero, Nat.reduceSub, Nat.reduceAdd, Nat.reduceMul, Nat.reduceEqDiff, Nat.reduceLT, Nat.reduceLeDiff, or_false, false_or, Nat.not_lt_zero]
  · rw [wk_, m15_k hz hs hn (by omega) hK]
    simp (config := { maxSteps := 1000000 }) (disch := omega) only [K15, m17_eq, wI_ne, wI_4, wI_5, wI_6, wI_s5, wI_s6, m21_eq, m30_eq, b_15_305, m_29, b_29_0, b_29_25, b_29_44, b_29_82, m23_0, m23_1, hz, hK, hL, hR, h', h2', lg_eq0, tr, q, q2, ne_eq, not_true_eq_false, ↓reduceIte, nn_asc, nn_l, nn_o, nn_lt, nn_le, nn_eq, nn_cl, nn_add, nn_sub, if_pos, if_neg, lt_, Option.bind_some, ↓reduceIte, not_true_eq_false, not_false_eq_true, Nat.add_sub_cancel, Nat.add_zero, Nat.reduceSub, Nat.reduceAdd, Nat.reduceMul, Nat.reduceEqDiff, Nat.reduceLT, Nat.reduceLeDiff, or_false, false_or, Nat.not_lt_zero]
  · rw [wk_, m15_k hz hs hn (by omega) hK]
    simp (config := { maxSteps := 1000000 }) (disch := omega) only [K15, m17_eq, wI_ne, wI_4, wI_5, wI_6, wI_s5, wI_s6, m21_eq, m30_eq, b_15_305, m_29, b_29_0, b_29_25, b_29_44, b_29_82, m23_0, m23_1, hz, hK, hL, hR, h', h2', lg_eq0, tr, q, q2, ne_eq, not_false_eq_true, ↓reduceIte, nn_asc, nn_l, nn_o, nn_lt, nn_le, nn_eq, nn_cl, nn_add, nn_sub, if_pos, if_neg, lt_, Option.bind_some, ↓reduceIte, not_true_eq_false, not_false_eq_true, Nat.add_sub_cancel, Nat.add_zero, Nat.reduceSub, Nat.reduceAdd, Nat.reduceMul, Nat.reduceEqDiff, Nat.reduceLT, Nat.reduceLeDiff, or_false, false_or, Nat.not_lt_zero]
theorem cr_truB {p n sz c d2 g k : Nat} {I : dI} {J : dJ} {v : Int64} {e : Int32} (hz : I (p + 1) 4 = nn sz) (hs : sz ≤ 40) (hn : n < sz) (hK : I (p + 1 + 1) n = nn k) (hk : k = 16 ∨ k = 17) (hL : I (p + 1 + 2) n = nn c) (hc : c < n) (hR : I (p + 1 + 3) n = nn d2) (hd : d2 < n) (h : CR p I J c v e g) (he : e ≠ nn 0) : ∃ w, CR p I J n w e (1 + g) := by
  have h' : ∀ fu d x, c < fu → d + c ≤ 40 → wk_ p fu (nn c) (nn d) (wI I p x (nn 0)) J = some (v, wI I p (x + nn g) e, J) := h
  have h2' : ∀ fu x a d, 0 < fu → wk_ p fu a d (wI I p x e) J = some (0, wI I p x e, J) := fun fu x a d hf => wk_bad he hf
  by_cases q : (k = 16 ∧ v ≠ 0) ∨ (k = 17 ∧ v = 0)
  · exact ⟨_, cr_tru1 hz hs hn hK q hL hc h⟩
  · refine ⟨0, fun fu d x h1 h3 => ?_⟩
    obtain ⟨f, rfl⟩ : ∃ f, fu = f + 1 := ⟨fu - 1, by omega⟩
    rcases hk with hk | hk <;> subst hk
    · have q3 : v = 0 := Classical.byContradiction fun t => q (Or.inl ⟨rfl, t⟩)
      rw [wk_, m15_k hz hs hn (by omega) hK]
      simp (config := { maxSteps := 1000000 }) (disch := omega) only [K15, m17_eq, wI_ne, wI_4, wI_5, wI_6, wI_s5, wI_s6, m21_eq, m30_eq, b_15_305, m_29, b_29_0, b_29_25, b_29_44, b_29_82, m23_0, m23_1, hz, hK, hL, hR, h', h2', lg_eq0, q3, ↓reduceIte, nn_asc, nn_l, nn_o, nn_lt, nn_le, nn_eq, nn_cl, nn_add, nn_sub, if_pos, if_neg, lt_, Option.bind_some, ↓reduceIte, not_true_eq_false, not_false_eq_true, Nat.add_sub_cancel, Nat.add_zero, Nat.reduceSub, Nat.reduceAdd, Nat.reduceMul, Nat.reduceEqDiff, Nat.reduceLT, Nat.reduceLeDiff, or_false, false_or, Nat.not_lt_zero]
    · have q3 : v ≠ 0 := fun t => q (Or.inr ⟨rfl, t⟩)
      rw [wk_, m15_k hz hs hn (by omega) hK]
      simp (config := { maxSteps := 1000000 }) (disch := omega) only [K15, m17_eq, wI_ne, wI_4, wI_5, wI_6, wI_s5, wI_s6, m21_eq, m30_eq, b_15_305, m_29, b_29_0, b_29_25, b_29_44, b_29_82, m23_0, m23_1, hz, hK, hL, hR, h', h2', lg_eq0, q3, ↓reduceIte, nn_asc, nn_l, nn_o, nn_lt, nn_le, nn_eq, nn_cl, nn_add, nn_sub, if_pos, if_neg, lt_, Option.bind_some, ↓reduceIte, not_true_eq_false, not_false_eq_true, Nat.add_sub_cancel, Nat.add_zero, Nat.reduceSub, Nat.reduceAdd, Nat.reduceMul, Nat.reduceEqDiff, Nat.reduceLT, Nat.reduceLeDiff, or_false, false_or, Nat.not_lt_zero]
