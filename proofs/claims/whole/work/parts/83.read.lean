/-! The reference's reading: one token. -/
theorem rd_meet {f st : Nat} {I : dI} {J : dJ} (h : I 92 26 = nn 0) : m_110 (nn f) (nn st) I J = some (sI I 92 26 (nn (f + 8 * st)), J) := by
  simp (disch := omega) only [m_110, b_110_0, h, nn_mul, nn_l, nn_o, nn_lt, nn_le, nn_eq, nn_cl, nn_add, nn_sub, if_pos, if_neg, lt_, Option.bind_some, ↓reduceIte, not_true_eq_false, not_false_eq_true, Nat.add_sub_cancel, Nat.add_zero, Nat.reduceSub, Nat.reduceAdd, Nat.reduceMul, Nat.reduceEqDiff, Nat.reduceLT, Nat.reduceLeDiff, or_false, false_or, Nat.not_lt_zero]
theorem rd_438 {n F : Nat} {I : dI} {J : dJ} (hF : 0 < F) (hF2 : F < 2000000) (h : I 92 26 = nn F) : b_100_438 (nn n) I J = some (nn n, I, J) := by
  have e : m_110 1 (I 92 1) I J = some (I, J) := by
    unfold m_110 b_110_0
    rw [if_pos (show ¬ I 92 26 = 0 by rw [h, nn_l, nn_eq (by omega) (by omega)]; omega)]
  unfold b_100_438
  rw [e, Option.bind_some]
theorem rd_426 {n F : Nat} {x2 : Int32} {I : dI} {J : dJ} (hF : 0 < F) (hF2 : F < 2000000) (h : I 92 26 = nn F) : b_100_426 (nn n) x2 I J = some (nn n, I, J) := by
  unfold b_100_426
  by_cases c1 : x2 = 1
  · rw [if_neg (fun x => x c1)]
    by_cases c2 : I 92 25 ≤ 0
    · rw [if_pos c2]
    · rw [if_neg c2, rd_438 hF hF2 h]
  · rw [if_pos c1, rd_438 hF hF2 h]
theorem rd_308f {n F : Nat} {x2 x3 x5 : Int32} {I : dI} {J : dJ} {h24 : Int32 → Int32 → dI → dJ → Option (Int32 × dI × dJ)} (hF : 0 < F) (hF2 : F < 2000000) (h : I 92 26 = nn F) : b_100_308 h24 (nn n) x2 x3 x5 I J = some (nn n, I, J) := by
  unfold b_100_308
  rw [if_neg (show ¬ I 92 26 ≤ 0 by rw [h, nn_l, nn_le (by omega) (by omega)]; omega), rd_426 hF hF2 h]
def opM (κ : Nat) : Nat := if κ = 30 ∨ κ = 32 then 1 else 0
theorem rd_200 {κ : Nat} {x1 x2 x3 s0 : Int32} {I : dI} {J : dJ} {h24 : Int32 → Int32 → dI → dJ → Option (Int32 × dI × dJ)} (hκ : κ < 100) (h : I 92 22 = nn κ) : b_100_200 h24 x1 x2 x3 s0 I J = b_100_225 h24 x1 x2 x3 s0 (nn (opM κ)) I J := by
  unfold b_100_200 opM
  rw [h]
  by_cases c1 : κ = 30
  · subst c1
    rw [if_pos (show nn 30 = 30 from rfl), if_pos (by omega)]
    rfl
  · rw [if_neg (show ¬ nn κ = 30 from ne_nn (k := 30) (by omega) (by omega) c1)]
    by_cases c2 : κ = 32
    · subst c2
      rw [if_neg (fun x => x (show nn 32 = 32 from rfl)), if_pos (by omega)]
      rfl
    · rw [if_pos (show ¬ nn κ = 32 from ne_nn (k := 32) (by omega) (by omega) c2), if_neg (by omega)]
      rfl
def bgM (κ : Nat) : Nat := if κ < 10 ∨ κ = 24 ∨ κ = 28 ∨ κ = 29 ∨ κ = 30 ∨ κ = 32 then 1 else 0
def fitM (x2 κ sh : Nat) : Nat := if κ = 34 then 0 else if x2 = 0 then bgM κ else if x2 = 1 then (if 10 ≤ κ ∧ κ ≤ 27 then 1 else sh) else if x2 = 2 then (if κ = 32 then 1 else 0) else (if κ = 30 then 1 else 0)
theorem m108_eq {κ : Nat} (hκ : κ < 100) (I : dI) (J : dJ) : m_108 (nn κ) I J = some (nn (bgM κ)) := by
  unfold bgM
  by_cases h : κ < 10 ∨ κ = 24 ∨ κ = 28 ∨ κ = 29 ∨ κ = 30 ∨ κ = 32
  · rw [if_pos h]
    rcases h with h | h | h | h | h | h
    · simp (disch := omega) only [m_108, b_108_0, nn_l, nn_o, nn_lt, nn_le, nn_eq, nn_cl, nn_add, nn_sub, if_pos, if_neg, lt_, Option.bind_some, ↓reduceIte, not_true_eq_false, not_false_eq_true, Nat.add_sub_cancel, Nat.add_zero, Nat.reduceSub, Nat.reduceAdd, Nat.reduceMul, Nat.reduceEqDiff, Nat.reduceLT, Nat.reduceLeDiff, or_false, false_or, Nat.not_lt_zero]
    all_goals (subst h; rfl)
  · rw [if_neg h]
    simp (disch := omega) only [m_108, b_108_0, nn_l, nn_o, nn_lt, nn_le, nn_eq, nn_cl, nn_add, nn_sub, if_pos, if_neg, lt_, Option.bind_some, ↓reduceIte, not_true_eq_false, not_false_eq_true, Nat.add_sub_cancel, Nat.add_zero, Nat.reduceSub, Nat.reduceAdd, Nat.reduceMul, Nat.reduceEqDiff, Nat.reduceLT, Nat.reduceLeDiff, or_false, false_or, Nat.not_lt_zero]
theorem m109_eq {κ : Nat} (hκ : κ < 100) (I : dI) (J : dJ) : m_109 (nn κ) I J = some (nn (if 10 ≤ κ ∧ κ ≤ 27 then 1 else 0)) := by
  by_cases h : 10 ≤ κ ∧ κ ≤ 27
  · rw [if_pos h]
    simp (disch := omega) only [m_109, b_109_0, nn_l, nn_o, nn_lt, nn_le, nn_eq, nn_cl, nn_add, nn_sub, if_pos, if_neg, lt_, Option.bind_some, ↓reduceIte, not_true_eq_false, not_false_eq_true, Nat.add_sub_cancel, Nat.add_zero, Nat.reduceSub, Nat.reduceAdd, Nat.reduceMul, Nat.reduceEqDiff, Nat.reduceLT, Nat.reduceLeDiff, or_false, false_or, Nat.not_lt_zero]
  · rw [if_neg h]
    by_cases h2 : κ < 10
    · simp (disch := omega) only [m_109, b_109_0, nn_l, nn_o, nn_lt, nn_le, nn_eq, nn_cl, nn_add, nn_sub, if_pos, if_neg, lt_, Option.bind_some, ↓reduceIte, not_true_eq_false, not_false_eq_true, Nat.add_sub_cancel, Nat.add_zero, Nat.reduceSub, Nat.reduceAdd, Nat.reduceMul, Nat.reduceEqDiff, Nat.reduceLT, Nat.reduceLeDiff, or_false, false_or, Nat.not_lt_zero]
    · simp (disch := omega) only [m_109, b_109_0, nn_l, nn_o, nn_lt, nn_le, nn_eq, nn_cl, nn_add, nn_sub, if_pos, if_neg, lt_, Option.bind_some, ↓reduceIte, not_true_eq_false, not_false_eq_true, Nat.add_sub_cancel, Nat.add_zero, Nat.reduceSub, Nat.reduceAdd, Nat.reduceMul, Nat.reduceEqDiff, Nat.reduceLT, Nat.reduceLeDiff, or_false, false_or, Nat.not_lt_zero]
theorem rd_127 {κ x2 sh : Nat} {x1 : Int32} {I : dI} {J : dJ} {h24 : Int32 → Int32 → dI → dJ → Option (Int32 × dI × dJ)} (hκ : κ < 100) (hx : x2 ≤ 3) (hs : sh ≤ 1) (h : I 92 22 = nn κ) : b_100_127 h24 x1 (nn x2) (nn sh) I J = b_100_225 h24 x1 (nn x2) (nn sh) (nn (fitM x2 κ sh)) (nn (opM κ)) I J := by
  rw [← rd_200 hκ h]
  unfold b_100_127 fitM
  rw [h]
  by_cases c34 : κ = 34
  · subst c34
    rw [if_pos (show nn 34 = 34 from rfl), if_pos rfl]
    rfl
  · rw [if_neg (show ¬ nn κ = 34 from ne_nn (k := 34) (by omega) (by omega) c34), if_neg c34]
    have hx4 : x2 = 0 ∨ x2 = 1 ∨ x2 = 2 ∨ x2 = 3 := by omega
    rcases hx4 with rfl | rfl | rfl | rfl
    · rw [if_neg (fun x => x (show nn 0 = 0 from rfl)), m108_eq hκ, Option.bind_some, if_pos rfl]
      unfold bgM
      by_cases h : κ < 10 ∨ κ = 24 ∨ κ = 28 ∨ κ = 29 ∨ κ = 30 ∨ κ = 32
      · rw [if_pos h, if_neg (show ¬ nn 1 = 0 by decide)]
        rfl
      · rw [if_neg h, if_pos (show nn 0 = 0 from rfl)]
        rfl
    · rw [if_pos (show ¬ nn 1 = 0 by decide), if_neg (fun x => x (show nn 1 = 1 from rfl)), m109_eq hκ, Option.bind_some, if_neg (show ¬ (1 : Nat) = 0 by omega), if_pos (show (1 : Nat) = 1 from rfl)]
      by_cases h : 10 ≤ κ ∧ κ ≤ 27
      · rw [if_pos h, if_pos h, if_pos (show ¬ nn 1 = 0 by decide)]
        rfl
      · rw [if_neg h, if_neg h, if_neg (fun x => x (show nn 0 = 0 from rfl))]
        have hs2 : sh = 0 ∨ sh = 1 := by omega
        rcases hs2 with rfl | rfl
        · rw [if_pos (show nn 0 = 0 from rfl)]
          rfl
        · rw [if_neg (show ¬ nn 1 = 0 by decide)]
          rfl
    · rw [if_pos (show ¬ nn 2 = 0 by decide), if_pos (show ¬ nn 2 = 1 by decide), if_neg (fun x => x (show nn 2 = 2 from rfl)), if_neg (show ¬ (2 : Nat) = 0 by omega), if_neg (show ¬ (2 : Nat) = 1 by omega), if_pos (show (2 : Nat) = 2 from rfl)]
      unfold b_100_192
      by_cases c : κ = 32
      · subst c
        rw [if_neg (fun x => x (show nn 32 = 32 from rfl)), if_pos rfl]
        rfl
      · rw [if_pos (show ¬ nn κ = 32 from ne_nn (k := 32) (by omega) (by omega) c), if_neg c]
        rfl
    · rw [if_pos (show ¬ nn 3 = 0 by decide), if_pos (show ¬ nn 3 = 1 by decide), if_pos (show ¬ nn 3 = 2 by decide), if_neg (show ¬ (3 : Nat) = 0 by omega), if_neg (show ¬ (3 : Nat) = 1 by omega), if_neg (show ¬ (3 : Nat) = 2 by omega)]
      unfold b_100_192
      by_cases c : κ = 30
      · subst c
        rw [if_neg (fun x => x (show nn 30 = 30 from rfl)), if_pos rfl]
        rfl
      · rw [if_pos (show ¬ nn κ = 30 from ne_nn (k := 30) (by omega) (by omega) c), if_neg c]
        rfl
/-! faults -/
theorem rd_f1 {n j : Nat} {x2 x3 s0 : Int32} {I : dI} {J : dJ} {h24 : Int32 → Int32 → dI → dJ → Option (Int32 × dI × dJ)} (hj : j ≤ 200) (h26 : I 92 26 = nn 0) (h23 : I 92 23 = nn j) : b_100_225 h24 (nn n) x2 x3 (nn 0) s0 I J = some (nn n, sI I 92 26 (nn (1 + 8 * j)), J) := by
  unfold b_100_225
  rw [if_neg (fun x => x (show nn 0 = 0 from rfl)), h23, show (1 : Int32) = nn 1 from rfl, rd_meet h26, Option.bind_some, rd_308f (F := 1 + 8 * j) (by omega) (by omega) sI_eq]
theorem rd_f2 {n j : Nat} {x2 x3 s0 : Int32} {I : dI} {J : dJ} {h24 : Int32 → Int32 → dI → dJ → Option (Int32 × dI × dJ)} (hj : j ≤ 200) (h26 : I 92 26 = nn 0) (h23 : I 92 23 = nn j) (h22 : I 92 22 = nn 0) : b_100_225 h24 (nn n) x2 x3 (nn 1) s0 I J = some (nn n, sI I 92 26 (nn (2 + 8 * j)), J) := by
  unfold b_100_225
  rw [if_pos (show ¬ nn 1 = 0 by decide), h22, if_neg (fun x => x (show nn 0 = 0 from rfl)), h23, show (2 : Int32) = nn 2 from rfl, rd_meet h26, Option.bind_some, rd_308f (F := 2 + 8 * j) (by omega) (by omega) sI_eq]
theorem rd_f3 {j κ : Nat} {x2 s0 : Int32} {I : dI} {J : dJ} {h24 : Int32 → Int32 → dI → dJ → Option (Int32 × dI × dJ)} (hj : j ≤ 200) (h26 : I 92 26 = nn 0) (h23 : I 92 23 = nn j) (h22 : I 92 22 = nn κ) (hκ : κ < 100) (h0 : κ ≠ 0) : b_100_225 h24 (nn 40) x2 (nn 0) (nn 1) s0 I J = some (nn 40, sI I 92 26 (nn (3 + 8 * j)), J) := by
  unfold b_100_225
  rw [if_pos (show ¬ nn 1 = 0 by decide), h22, if_pos (show ¬ nn κ = 0 from ne_nn (k := 0) (by omega) (by omega) h0), if_neg (fun x => x (show nn 0 = 0 from rfl)), if_neg (fun x => x (show nn 40 = 40 from rfl)), h23, show (3 : Int32) = nn 3 from rfl, rd_meet h26, Option.bind_some, rd_308f (F := 3 + 8 * j) (by omega) (by omega) sI_eq]
theorem rd_285 {n κ sh : Nat} {x2 s0 : Int32} {I : dI} {J : dJ} {h24 : Int32 → Int32 → dI → dJ → Option (Int32 × dI × dJ)} (h22 : I 92 22 = nn κ) (hκ : κ < 100) (h0 : κ ≠ 0) (hs : sh ≤ 1) (hn : n ≤ 40) (h : sh = 1 ∨ n ≠ 40) : b_100_225 h24 (nn n) x2 (nn sh) (nn 1) s0 I J = b_100_285 h24 (nn n) x2 (nn sh) s0 I J := by
  unfold b_100_225
  rw [if_pos (show ¬ nn 1 = 0 by decide), h22, if_pos (show ¬ nn κ = 0 from ne_nn (k := 0) (by omega) (by omega) h0)]
  by_cases c : sh = 1
  · subst c
    rw [if_pos (show ¬ nn 1 = 0 by decide)]
  · have c0 : sh = 0 := by omega
    subst c0
    rw [if_neg (fun x => x (show nn 0 = 0 from rfl)), if_pos (show ¬ nn n = 40 from ne_nn (k := 40) (by omega) (by omega) (by omega))]
theorem rd_f4 {n j : Nat} {x2 x3 : Int32} {I : dI} {J : dJ} {h24 : Int32 → Int32 → dI → dJ → Option (Int32 × dI × dJ)} (hj : j ≤ 200) (h26 : I 92 26 = nn 0) (h23 : I 92 23 = nn j) (h25 : I 92 25 = nn 8) : b_100_285 h24 (nn n) x2 x3 (nn 1) I J = some (nn n, sI I 92 26 (nn (4 + 8 * j)), J) := by
  unfold b_100_285
  rw [if_neg (show ¬ nn 1 = 0 by decide), h25, if_neg (fun x => x (show nn 8 = 8 from rfl)), h23, show (4 : Int32) = nn 4 from rfl, rd_meet h26, Option.bind_some, rd_308f (F := 4 + 8 * j) (by omega) (by omega) sI_eq]
theorem rd_308 {b op : Nat} {x1 x2 x3 : Int32} {I : dI} {J : dJ} {h24 : Int32 → Int32 → dI → dJ → Option (Int32 × dI × dJ)} (hb : b ≤ 8) (ho : op ≤ 1) (h25 : I 92 25 = nn b) (h : op = 0 ∨ b ≠ 8) : b_100_285 h24 x1 x2 x3 (nn op) I J = b_100_308 h24 x1 x2 x3 (nn op) I J := by
  unfold b_100_285
  by_cases c : op = 0
  · subst c
    rw [if_pos (show nn 0 = 0 from rfl)]
  · have c1 : op = 1 := by omega
    subst c1
    rw [if_neg (show ¬ nn 1 = 0 by decide), h25, if_pos (show ¬ nn b = 8 from ne_nn (k := 8) (by omega) (by omega) (by omega))]
theorem rd_shut {x1 x2 x5 : Int32} {I I' : dI} {J J' : dJ} {h24 : Int32 → Int32 → dI → dJ → Option (Int32 × dI × dJ)} (h26 : I 92 26 = nn 0) (h : m_111 I J = some (I', J')) : b_100_308 h24 x1 x2 (nn 1) x5 I J = h24 x1 x2 I' J' := by
  unfold b_100_308
  rw [if_pos (show I 92 26 ≤ 0 by rw [h26]; decide), if_neg (show ¬ nn 1 = 0 by decide), h, Option.bind_some]
theorem rd_plain {n : Nat} {x2 : Int32} {I : dI} {J : dJ} {h24 : Int32 → Int32 → dI → dJ → Option (Int32 × dI × dJ)} (h26 : I 92 26 = nn 0) : b_100_308 h24 (nn n) x2 (nn 0) (nn 0) I J = b_100_360 h24 (nn (n + 1)) I J := by
  unfold b_100_308
  rw [if_pos (show I 92 26 ≤ 0 by rw [h26]; decide), if_pos (show nn 0 = 0 from rfl), if_pos (show nn 0 = 0 from rfl), nn_l, nn_add]
theorem rd_open {n t b : Nat} {x2 : Int32} {I : dI} {J : dJ} {h24 : Int32 → Int32 → dI → dJ → Option (Int32 × dI × dJ)} (h26 : I 92 26 = nn 0) (h25 : I 92 25 = nn b) (h24' : I 92 24 = nn t) (hb : b < 8) : b_100_308 h24 (nn n) x2 (nn 0) (nn 1) I J = b_100_360 h24 (nn (n + 1)) (sI (sI I 112 b (nn t)) 92 25 (nn (b + 1))) J := by
  unfold b_100_308
  rw [if_pos (show I 92 26 ≤ 0 by rw [h26]; decide), if_pos (show nn 0 = 0 from rfl), if_neg (show ¬ nn 1 = 0 by decide), h25, h24', nn_cl (by omega), if_pos (show ¬ (nn b < 0 ∨ 10 ≤ b) by rw [nn_l, nn_lt (by omega) (by omega)]; omega)]
  show b_100_360 h24 (nn n + 1) (sI (sI I 112 b (nn t)) 92 25 ((sI I 112 b (nn t)) 92 25 + 1)) J = _
  rw [sI_ne (by omega), h25, nn_l, nn_add, nn_add]
def tkI (I : dI) (t κ : Nat) : dI := sI (sI (sI I 110 t (nn κ)) 111 t (-(nn 1))) 92 24 (nn (t + 1))
theorem rd_take {t κ : Nat} {I : dI} {J : dJ} (h24 : I 92 24 = nn t) (h22 : I 92 22 = nn κ) (ht : t < 120) : m_112 I J = some (tkI I t κ, sJ J 113 t (J 92 27)) := by
  simp (disch := omega) only [m_112, b_112_0, h24, h22, tkI, sI_ne, nn_l, nn_o, nn_lt, nn_le, nn_eq, nn_cl, nn_add, nn_sub, if_pos, if_neg, lt_, Option.bind_some, ↓reduceIte, not_true_eq_false, not_false_eq_true, Nat.add_sub_cancel, Nat.add_zero, Nat.reduceSub, Nat.reduceAdd, Nat.reduceMul, Nat.reduceEqDiff, Nat.reduceLT, Nat.reduceLeDiff, or_false, false_or, Nat.not_lt_zero]
def stM (κ : Nat) : Nat := if κ = 6 ∨ κ = 7 then 2 else if κ = 8 ∨ κ = 9 then 3 else if κ < 6 then 1 else 0
theorem rd_360 {n t κ : Nat} {I : dI} {J : dJ} {hh : Int32 → Int32 → dI → dJ → Option (Int32 × dI × dJ)} (h24 : I 92 24 = nn t) (h22 : I 92 22 = nn κ) (ht : t < 120) (hκ : κ < 100) : b_100_360 hh (nn n) I J = hh (nn n) (nn (stM κ)) (tkI I t κ) (sJ J 113 t (J 92 27)) := by
  have e22 : (tkI I t κ) 92 22 = nn κ := by
    rw [tkI, sI_nk (by omega), sI_ne (by omega), sI_ne (by omega)]; exact h22
  unfold b_100_360
  rw [rd_take h24 h22 ht, Option.bind_some]
  dsimp only
  simp only [e22]
  unfold stM
  by_cases c6 : κ = 6
  · subst c6
    rw [if_pos (show nn 6 = 6 from rfl), if_pos (by omega)]
    rfl
  · rw [if_neg (show ¬ nn κ = 6 from ne_nn (k := 6) (by omega) (by omega) c6)]
    by_cases c7 : κ = 7
    · subst c7
      rw [if_neg (fun x => x (show nn 7 = 7 from rfl)), if_pos (by omega)]
      rfl
    · rw [if_pos (show ¬ nn κ = 7 from ne_nn (k := 7) (by omega) (by omega) c7), if_neg (show ¬ (κ = 6 ∨ κ = 7) by omega)]
      by_cases c8 : κ = 8
      · subst c8
        rw [if_pos (show nn 8 = 8 from rfl), if_pos (by omega)]
        rfl
      · rw [if_neg (show ¬ nn κ = 8 from ne_nn (k := 8) (by omega) (by omega) c8)]
        by_cases c9 : κ = 9
        · subst c9
          rw [if_neg (fun x => x (show nn 9 = 9 from rfl)), if_pos (by omega)]
          rfl
        · rw [if_pos (show ¬ nn κ = 9 from ne_nn (k := 9) (by omega) (by omega) c9), if_neg (show ¬ (κ = 8 ∨ κ = 9) by omega)]
          by_cases c : κ < 6
          · rw [if_neg (show ¬ (6 : Int32) ≤ nn κ by rw [nn_l, nn_le (by omega) (by omega)]; omega), if_pos c]
            rfl
          · rw [if_pos (show (6 : Int32) ≤ nn κ by rw [nn_l, nn_le (by omega) (by omega)]; omega), if_neg c]
            rfl
def shI (I : dI) (b p t κ : Nat) : dI := sI (tkI (sI (sI I 92 25 (nn b)) 111 p (nn t)) t κ) 111 t (nn p)
theorem rd_111 {b p t κ : Nat} {I : dI} {J : dJ} (h25 : I 92 25 = nn (b + 1)) (hb : b < 8) (hp : I 112 b = nn p) (hp2 : p < t) (h24 : I 92 24 = nn t) (h22 : I 92 22 = nn κ) (ht : t < 120) : m_111 I J = some (shI I b p t κ, sJ J 113 t (J 92 27)) := by
  have e1 := rd_take (t := t) (κ := κ) (I := sI (sI I 92 25 (nn b)) 111 p (nn t)) (J := J) (by rw [sI_ne (by omega), sI_nk (by omega)]; exact h24) (by rw [sI_ne (by omega), sI_nk (by omega)]; exact h22) ht
  have e2 : (sI I 92 25 (nn b)) 92 25 = nn b := sI_eq
  have e3 : (sI I 92 25 (nn b)) 112 b = nn p := by rw [sI_ne (by omega)]; exact hp
  have e4 : (tkI (sI (sI I 92 25 (nn b)) 111 p (nn t)) t κ) 92 25 = nn b := by
    rw [tkI, sI_nk (by omega), sI_ne (by omega), sI_ne (by omega), sI_ne (by omega), sI_eq]
  have e5 : (tkI (sI (sI I 92 25 (nn b)) 111 p (nn t)) t κ) 92 24 = nn (t + 1) := sI_eq
  have e6 : (tkI (sI (sI I 92 25 (nn b)) 111 p (nn t)) t κ) 112 b = nn p := by
    rw [tkI, sI_ne (by omega), sI_ne (by omega), sI_ne (by omega), sI_ne (by omega), sI_ne (by omega)]; exact hp
  have e7 : (sI I 92 25 (nn b)) 92 24 = nn t := by rw [sI_nk (by omega)]; exact h24
  unfold m_111 b_111_0
  simp (disch := omega) only [h25, e2, e3, e7, e1, e4, e5, e6, shI, nn_l, nn_o, nn_lt, nn_le, nn_eq, nn_cl, nn_add, nn_sub, if_pos, if_neg, lt_, Option.bind_some, ↓reduceIte, not_true_eq_false, not_false_eq_true, Nat.add_sub_cancel, Nat.add_zero, Nat.reduceSub, Nat.reduceAdd, Nat.reduceMul, Nat.reduceEqDiff, Nat.reduceLT, Nat.reduceLeDiff, or_false, false_or, Nat.not_lt_zero]
