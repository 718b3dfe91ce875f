/-! The reference where the class throws: ignore, ask, about. -/
theorem q7 : (7 : Int64) = Int64.ofNat 7 := rfl
theorem z10 : ¬ nn 1 = 0 := by decide
theorem z00 : nn 0 = 0 := rfl
theorem ign_o1 {x y : Int32} {I : dI} {J : dJ} (hx : x < 0 ∨ nn 7 < x) : m_117 x y I J = some (nn 0, sI I 92 0 (nn 1), J) := by
  unfold m_117 b_117_0
  rw [q7, m98_out (by omega) hx, Option.bind_some, if_pos z00]
  unfold b_117_25 b_117_30
  rw [q7, m98_out (by omega) hx, Option.bind_some, if_pos z00]
  unfold b_117_58 b_117_59
  rw [show (1 : Int32) = nn 1 from rfl, m99_1, Option.bind_some]
  dsimp only
  rw [if_neg z10]
  rfl
theorem ign_o2 {k : Nat} {y : Int32} {I : dI} {J : dJ} (hk : k < 8) (hy : y < 0 ∨ nn 1000 < y) : m_117 (nn k) y I J = some (nn 0, sI I 92 0 (nn 1), J) := by
  have fin : ∀ s0, b_117_59 (nn k) y s0 (nn 1) I J = some (nn 0, sI I 92 0 (nn 1), J) := by
    intro s0
    unfold b_117_59
    rw [m99_1, Option.bind_some]
    dsimp only
    rw [if_neg z10]
    rfl
  unfold m_117 b_117_0
  rw [q7, m98_in (by omega) (by omega), Option.bind_some, if_neg z10, show (1000 : Int64) = Int64.ofNat 1000 from rfl, m98_out (by omega) hy, Option.bind_some, if_neg (fun z => z z00)]
  unfold b_117_25 b_117_30
  rw [q7, m98_in (by omega) (by omega), Option.bind_some, if_neg z10]
  by_cases c : I 96 k = nn 0
  · simp (disch := omega) only [and7 hk, c, fin, nn_l, nn_o, nn_lt, nn_le, nn_eq, nn_cl, nn_add, nn_sub, if_pos, if_neg, lt_, Option.bind_some, ↓reduceIte, not_true_eq_false, not_false_eq_true, Nat.add_sub_cancel, Nat.add_zero, Nat.reduceSub, Nat.reduceAdd, Nat.reduceMul, Nat.reduceEqDiff, Nat.reduceLT, Nat.reduceLeDiff, or_false, false_or, Nat.not_lt_zero]
  · simp (disch := omega) only [b_117_58, and7 hk, c, fin, nn_l, nn_o, nn_lt, nn_le, nn_eq, nn_cl, nn_add, nn_sub, if_pos, if_neg, lt_, Option.bind_some, ↓reduceIte, not_true_eq_false, not_false_eq_true, Nat.add_sub_cancel, Nat.add_zero, Nat.reduceSub, Nat.reduceAdd, Nat.reduceMul, Nat.reduceEqDiff, Nat.reduceLT, Nat.reduceLeDiff, or_false, false_or, Nat.not_lt_zero]
theorem ign_o3 {k n : Nat} {I : dI} {J : dJ} (hk : k < 8) (hn : n ≤ 1000) (hl : I 96 k = nn 0) : m_117 (nn k) (nn n) I J = some (nn 0, sI I 92 0 (nn 2), J) := by
  unfold m_117 b_117_0
  rw [q7, m98_in (by omega) (by omega), Option.bind_some, if_neg z10, show (1000 : Int64) = Int64.ofNat 1000 from rfl, m98_in (by omega) (by omega), Option.bind_some, if_pos z10]
  unfold b_117_30
  rw [q7, m98_in (by omega) (by omega), Option.bind_some, if_neg z10]
  simp (disch := omega) only [b_117_59, and7 hk, hl, m99_2, nn_l, nn_o, nn_lt, nn_le, nn_eq, nn_cl, nn_add, nn_sub, if_pos, if_neg, lt_, Option.bind_some, ↓reduceIte, not_true_eq_false, not_false_eq_true, Nat.add_sub_cancel, Nat.add_zero, Nat.reduceSub, Nat.reduceAdd, Nat.reduceMul, Nat.reduceEqDiff, Nat.reduceLT, Nat.reduceLeDiff, or_false, false_or, Nat.not_lt_zero]
theorem ask_o1 {x : Int32} {I : dI} {J : dJ} (hx : x < 0 ∨ nn 7 < x) : m_118 x I J = some (nn 0, sI I 92 0 (nn 1), J) := by
  unfold m_118 b_118_0
  rw [q7, m98_out (by omega) hx, Option.bind_some, if_neg (fun z => z z00)]
  unfold b_118_18
  rw [q7, m98_out (by omega) hx, Option.bind_some, if_pos z00]
  unfold b_118_46 b_118_47
  rw [show (1 : Int32) = nn 1 from rfl, m99_1, Option.bind_some]
  dsimp only
  rw [if_neg z10]
  rfl
theorem ask_o3 {k : Nat} {I : dI} {J : dJ} (hk : k < 8) (hl : I 96 k = nn 0) : m_118 (nn k) I J = some (nn 0, sI I 92 0 (nn 2), J) := by
  unfold m_118 b_118_0
  rw [q7, m98_in (by omega) (by omega), Option.bind_some, if_pos z10]
  unfold b_118_18
  rw [q7, m98_in (by omega) (by omega), Option.bind_some, if_neg z10]
  simp (disch := omega) only [b_118_47, and7 hk, hl, m99_2, nn_l, nn_o, nn_lt, nn_le, nn_eq, nn_cl, nn_add, nn_sub, if_pos, if_neg, lt_, Option.bind_some, ↓reduceIte, not_true_eq_false, not_false_eq_true, Nat.add_sub_cancel, Nat.add_zero, Nat.reduceSub, Nat.reduceAdd, Nat.reduceMul, Nat.reduceEqDiff, Nat.reduceLT, Nat.reduceLeDiff, or_false, false_or, Nat.not_lt_zero]
theorem abt_o1 {x y : Int32} {I : dI} {J : dJ} (hx : x < 0 ∨ nn 7 < x) : m_134 x y I J = some (0, sI I 92 0 (nn 1), J) := by
  unfold m_134 b_134_0
  rw [q7, m98_out (by omega) hx, Option.bind_some, if_pos z00]
  unfold b_134_25 b_134_30
  rw [q7, m98_out (by omega) hx, Option.bind_some, if_pos z00]
  unfold b_134_58 b_134_59
  rw [show (1 : Int32) = nn 1 from rfl, m99_1, Option.bind_some]
  dsimp only
  rw [if_neg z10]
theorem abt_o2 {k : Nat} {y : Int32} {I : dI} {J : dJ} (hk : k < 8) (hy : y < 0 ∨ nn 5 < y) : m_134 (nn k) y I J = some (0, sI I 92 0 (nn 1), J) := by
  have fin : ∀ s0, b_134_59 (nn k) y s0 (nn 1) I J = some (0, sI I 92 0 (nn 1), J) := by
    intro s0
    unfold b_134_59
    rw [m99_1, Option.bind_some]
    dsimp only
    rw [if_neg z10]
  unfold m_134 b_134_0
  rw [q7, m98_in (by omega) (by omega), Option.bind_some, if_neg z10, show (5 : Int64) = Int64.ofNat 5 from rfl, m98_out (by omega) hy, Option.bind_some, if_neg (fun z => z z00)]
  unfold b_134_25 b_134_30
  rw [q7, m98_in (by omega) (by omega), Option.bind_some, if_neg z10]
  by_cases c : I 96 k = nn 0
  · simp (disch := omega) only [and7 hk, c, fin, nn_l, nn_o, nn_lt, nn_le, nn_eq, nn_cl, nn_add, nn_sub, if_pos, if_neg, lt_, Option.bind_some, ↓reduceIte, not_true_eq_false, not_false_eq_true, Nat.add_sub_cancel, Nat.add_zero, Nat.reduceSub, Nat.reduceAdd, Nat.reduceMul, Nat.reduceEqDiff, Nat.reduceLT, Nat.reduceLeDiff, or_false, false_or, Nat.not_lt_zero]
  · simp (disch := omega) only [b_134_58, and7 hk, c, fin, nn_l, nn_o, nn_lt, nn_le, nn_eq, nn_cl, nn_add, nn_sub, if_pos, if_neg, lt_, Option.bind_some, ↓reduceIte, not_true_eq_false, not_false_eq_true, Nat.add_sub_cancel, Nat.add_zero, Nat.reduceSub, Nat.reduceAdd, Nat.reduceMul, Nat.reduceEqDiff, Nat.reduceLT, Nat.reduceLeDiff, or_false, false_or, Nat.not_lt_zero]
theorem abt_o3 {k w : Nat} {I : dI} {J : dJ} (hk : k < 8) (hw : w ≤ 5) (hl : I 96 k = nn 0) : m_134 (nn k) (nn w) I J = some (0, sI I 92 0 (nn 2), J) := by
  unfold m_134 b_134_0
  rw [q7, m98_in (by omega) (by omega), Option.bind_some, if_neg z10, show (5 : Int64) = Int64.ofNat 5 from rfl, m98_in (by omega) (by omega), Option.bind_some, if_pos z10]
  unfold b_134_30
  rw [q7, m98_in (by omega) (by omega), Option.bind_some, if_neg z10]
  simp (disch := omega) only [b_134_59, and7 hk, hl, m99_2, nn_l, nn_o, nn_lt, nn_le, nn_eq, nn_cl, nn_add, nn_sub, if_pos, if_neg, lt_, Option.bind_some, ↓reduceIte, not_true_eq_false, not_false_eq_true, Nat.add_sub_cancel, Nat.add_zero, Nat.reduceSub, Nat.reduceAdd, Nat.reduceMul, Nat.reduceEqDiff, Nat.reduceLT, Nat.reduceLeDiff, or_false, false_or, Nat.not_lt_zero]
