/-! Signs in the text. -/
def dbl (c : Nat) : Nat := if c = 38 then 17 else if c = 60 then 27 else if c = 61 then 18 else if c = 62 then 28 else if c = 124 then 16 else 1
def weq (c : Nat) : Nat := if c = 33 then 19 else if c = 60 then 21 else if c = 62 then 23 else 1
def sng (c : Nat) : Nat := if c = 33 then 14 else if c = 37 then 33 else if c = 38 then 26 else if c = 40 then 10 else if c = 41 then 11 else if c = 42 then 31 else if c = 43 then 29 else if c = 45 then 30 else if c = 47 then 32 else if c = 60 then 20 else if c = 62 then 22 else if c = 91 then 12 else if c = 93 then 13 else if c = 94 then 25 else if c = 124 then 24 else if c = 126 then 15 else 1
def kc2 (c d : Nat) : Nat := if c = d then dbl c else if d = 61 then weq c else 1
def kcs (c d : Nat) : Nat := if kc2 c d = 1 then sng c else kc2 c d
def two (c d : Nat) : Nat := if c = 124 ∧ d = 124 then 10 else if c = 38 ∧ d = 38 then 11 else if c = 61 ∧ d = 61 then 12 else if c = 33 ∧ d = 61 then 13 else if c = 60 ∧ d = 61 then 15 else if c = 62 ∧ d = 61 then 17 else if c = 60 ∧ d = 60 then 21 else if c = 62 ∧ d = 62 then 22 else 0
def one (c : Nat) : Nat := if c = 60 then 14 else if c = 62 then 16 else if c = 124 then 18 else if c = 94 then 19 else if c = 38 then 20 else if c = 43 then 23 else if c = 45 then 24 else if c = 42 then 25 else if c = 47 then 26 else if c = 37 then 27 else if c = 33 then 28 else if c = 126 then 29 else if c = 40 then 30 else if c = 41 then 31 else if c = 91 then 32 else if c = 93 then 33 else 34
theorem m59_eq {c : Nat} (h : c < 1000) (I : dI) (J : dJ) : m_59 (nn c) I J = some (nn (dbl c)) := by
  simp (disch := omega) only [m_59, b_59_0, dbl, nn_l, nn_eq, apply_ite nn, apply_ite some]
theorem m60_eq {c : Nat} (h : c < 1000) (I : dI) (J : dJ) : m_60 (nn c) I J = some (nn (weq c)) := by
  simp (disch := omega) only [m_60, b_60_0, weq, nn_l, nn_eq, apply_ite nn, apply_ite some]
theorem ne_nn {c k : Nat} (hc : c < 1000) (hk : k < 1000) (h : c ≠ k) : ¬ nn c = nn k := by
  rw [nn_eq (by omega) (by omega)]
  exact h
theorem m61_eq {c : Nat} (hc : c < 1000) (I : dI) (J : dJ) : m_61 (nn c) I J = some (nn (sng c)) := by
  by_cases h : c = 33 ∨ c = 37 ∨ c = 38 ∨ c = 40 ∨ c = 41 ∨ c = 42 ∨ c = 43 ∨ c = 45 ∨ c = 47 ∨ c = 60 ∨ c = 62 ∨ c = 91 ∨ c = 93 ∨ c = 94 ∨ c = 124 ∨ c = 126
  · rcases h with h | h | h | h | h | h | h | h | h | h | h | h | h | h | h | h <;> subst h <;> rfl
  · unfold m_61 b_61_0 sng
    rw [if_neg (show ¬ nn c = 33 from ne_nn (k := 33) hc (by omega) (by omega)), if_neg (show ¬ nn c = 37 from ne_nn (k := 37) hc (by omega) (by omega)), if_neg (show ¬ nn c = 38 from ne_nn (k := 38) hc (by omega) (by omega)), if_neg (show ¬ nn c = 40 from ne_nn (k := 40) hc (by omega) (by omega)), if_neg (show ¬ nn c = 41 from ne_nn (k := 41) hc (by omega) (by omega)), if_neg (show ¬ nn c = 42 from ne_nn (k := 42) hc (by omega) (by omega)), if_neg (show ¬ nn c = 43 from ne_nn (k := 43) hc (by omega) (by omega)), if_neg (show ¬ nn c = 45 from ne_nn (k := 45) hc (by omega) (by omega)), if_neg (show ¬ nn c = 47 from ne_nn (k := 47) hc (by omega) (by omega)), if_neg (show ¬ nn c = 60 from ne_nn (k := 60) hc (by omega) (by omega)), if_neg (show ¬ nn c = 62 from ne_nn (k := 62) hc (by omega) (by omega)), if_neg (show ¬ nn c = 91 from ne_nn (k := 91) hc (by omega) (by omega)), if_neg (show ¬ nn c = 93 from ne_nn (k := 93) hc (by omega) (by omega)), if_neg (show ¬ nn c = 94 from ne_nn (k := 94) hc (by omega) (by omega)), if_neg (show ¬ nn c = 124 from ne_nn (k := 124) hc (by omega) (by omega)), if_neg (show ¬ nn c = 126 from ne_nn (k := 126) hc (by omega) (by omega))]
    rw [if_neg (show ¬ c = 33 by omega), if_neg (show ¬ c = 37 by omega), if_neg (show ¬ c = 38 by omega), if_neg (show ¬ c = 40 by omega), if_neg (show ¬ c = 41 by omega), if_neg (show ¬ c = 42 by omega), if_neg (show ¬ c = 43 by omega), if_neg (show ¬ c = 45 by omega), if_neg (show ¬ c = 47 by omega), if_neg (show ¬ c = 60 by omega), if_neg (show ¬ c = 62 by omega), if_neg (show ¬ c = 91 by omega), if_neg (show ¬ c = 93 by omega), if_neg (show ¬ c = 94 by omega), if_neg (show ¬ c = 124 by omega), if_neg (show ¬ c = 126 by omega)]
    rfl
theorem dbl_lt (c : Nat) : dbl c < 100 := by unfold dbl; repeat' split
                                             all_goals omega
theorem weq_lt (c : Nat) : weq c < 100 := by unfold weq; repeat' split
                                             all_goals omega
theorem sng_lt (c : Nat) : sng c < 100 := by
  by_cases h : c = 33 ∨ c = 37 ∨ c = 38 ∨ c = 40 ∨ c = 41 ∨ c = 42 ∨ c = 43 ∨ c = 45 ∨ c = 47 ∨ c = 60 ∨ c = 62 ∨ c = 91 ∨ c = 93 ∨ c = 94 ∨ c = 124 ∨ c = 126
  · rcases h with h | h | h | h | h | h | h | h | h | h | h | h | h | h | h | h <;> subst h <;> decide
  · unfold sng
    rw [if_neg (show ¬ c = 33 by omega), if_neg (show ¬ c = 37 by omega), if_neg (show ¬ c = 38 by omega), if_neg (show ¬ c = 40 by omega), if_neg (show ¬ c = 41 by omega), if_neg (show ¬ c = 42 by omega), if_neg (show ¬ c = 43 by omega), if_neg (show ¬ c = 45 by omega), if_neg (show ¬ c = 47 by omega), if_neg (show ¬ c = 60 by omega), if_neg (show ¬ c = 62 by omega), if_neg (show ¬ c = 91 by omega), if_neg (show ¬ c = 93 by omega), if_neg (show ¬ c = 94 by omega), if_neg (show ¬ c = 124 by omega), if_neg (show ¬ c = 126 by omega)]
    omega
theorem m58_eq {s j : Nat} {T : Nat → Nat} {I : dI} {J : dJ} (hT : Txc s T I) (hj : j < s) (h1 : I 18 1 = nn j) : m_58 I J = some (sI (sI I 18 3 (nn (kcs (T j) (ch s T (j + 1))))) 18 2 (nn (j + (if kc2 (T j) (ch s T (j + 1)) = 1 then 1 else 2))), J) := by
  have hs := hT.2.1
  have hc := hT.2.2 j hj
  have hd := ch_le hT (j + 1)
  have h53 : ∀ k, k < 100 → b_58_53 (nn (T j)) (nn k) I J = some (sI (sI I 18 3 (nn (if k = 1 then sng (T j) else k))) 18 2 (nn (j + (if k = 1 then 1 else 2))), J) := by
    intro k hk
    have hsn := sng_lt (T j)
    by_cases c : k = 1
    · subst c
      have e1 : ∀ x y z : Int32, sI (sI (sI (sI I 18 3 x) 18 2 y) 18 3 z) 18 2 (nn (j + 1)) = sI (sI I 18 3 z) 18 2 (nn (j + 1)) := by
        intro x y z
        refine dI_ext fun q i => ?_
        simp only [sI_get]
        repeat' split
        all_goals first | rfl | (exfalso; omega)
      simp (disch := omega) only [b_58_53, sI_eq, sI_nk, h1, m61_eq, e1, nn_l, nn_o, nn_lt, nn_le, nn_eq, nn_cl, nn_add, nn_sub, if_pos, if_neg, lt_, Option.bind_some, ↓reduceIte, not_true_eq_false, not_false_eq_true, Nat.add_sub_cancel, Nat.add_zero, Nat.reduceSub, Nat.reduceAdd, Nat.reduceMul, Nat.reduceEqDiff, Nat.reduceLT, Nat.reduceLeDiff, or_false, false_or, Nat.not_lt_zero]
    · simp (disch := omega) only [b_58_53, sI_eq, sI_nk, h1, nn_l, nn_o, nn_lt, nn_le, nn_eq, nn_cl, nn_add, nn_sub, if_pos, if_neg, lt_, Option.bind_some, ↓reduceIte, not_true_eq_false, not_false_eq_true, Nat.add_sub_cancel, Nat.add_zero, Nat.reduceSub, Nat.reduceAdd, Nat.reduceMul, Nat.reduceEqDiff, Nat.reduceLT, Nat.reduceLeDiff, or_false, false_or, Nat.not_lt_zero]
  unfold kcs kc2
  by_cases c1 : T j = ch s T (j + 1)
  · have := h53 (dbl (T j)) (dbl_lt _)
    rw [if_pos c1]
    simp (disch := omega) only [m_58, b_58_0, h1, m48_eq hT (show j < 1000 by omega), m48_eq hT (show j + 1 < 1000 by omega), ch_in hj, ← c1, m59_eq, this, not_true_eq_false, ↓reduceIte, nn_l, nn_o, nn_lt, nn_le, nn_eq, nn_cl, nn_add, nn_sub, if_pos, if_neg, lt_, Option.bind_some, ↓reduceIte, not_true_eq_false, not_false_eq_true, Nat.add_sub_cancel, Nat.add_zero, Nat.reduceSub, Nat.reduceAdd, Nat.reduceMul, Nat.reduceEqDiff, Nat.reduceLT, Nat.reduceLeDiff, or_false, false_or, Nat.not_lt_zero]
  · rw [if_neg c1]
    by_cases c2 : ch s T (j + 1) = 61
    · have := h53 (weq (T j)) (weq_lt _)
      rw [if_pos c2]
      rw [c2] at c1
      simp (disch := omega) only [m_58, b_58_0, h1, m48_eq hT (show j < 1000 by omega), m48_eq hT (show j + 1 < 1000 by omega), ch_in hj, c2, m60_eq, this, nn_l, nn_o, nn_lt, nn_le, nn_eq, nn_cl, nn_add, nn_sub, if_pos, if_neg, lt_, Option.bind_some, ↓reduceIte, not_true_eq_false, not_false_eq_true, Nat.add_sub_cancel, Nat.add_zero, Nat.reduceSub, Nat.reduceAdd, Nat.reduceMul, Nat.reduceEqDiff, Nat.reduceLT, Nat.reduceLeDiff, or_false, false_or, Nat.not_lt_zero]
    · have := h53 1 (by omega)
      rw [if_neg c2]
      simp (disch := omega) only [m_58, b_58_0, h1, m48_eq hT (show j < 1000 by omega), m48_eq hT (show j + 1 < 1000 by omega), ch_in hj, this, nn_l, nn_o, nn_lt, nn_le, nn_eq, nn_cl, nn_add, nn_sub, if_pos, if_neg, lt_, Option.bind_some, ↓reduceIte, not_true_eq_false, not_false_eq_true, Nat.add_sub_cancel, Nat.add_zero, Nat.reduceSub, Nat.reduceAdd, Nat.reduceMul, Nat.reduceEqDiff, Nat.reduceLT, Nat.reduceLeDiff, or_false, false_or, Nat.not_lt_zero]
theorem b423_eq {t2 t1 j : Nat} {I : dI} {J : dJ} (h2 : t2 < 100) (h1 : t1 < 100) (hj : j < 1000) (h : I 92 21 = nn j) : b_102_423 (nn t2) (nn t1) I J = some (sI (sI I 92 22 (nn (if 0 < t2 then t2 else t1))) 92 21 (nn (j + (if 0 < t2 then 2 else 1))), J) := by
  by_cases c : 0 < t2
  · simp (disch := omega) only [b_102_423, b_102_436, b_102_453, h, sI_nk, nn_l, nn_o, nn_lt, nn_le, nn_eq, nn_cl, nn_add, nn_sub, if_pos, if_neg, lt_, Option.bind_some, ↓reduceIte, not_true_eq_false, not_false_eq_true, Nat.add_sub_cancel, Nat.add_zero, Nat.reduceSub, Nat.reduceAdd, Nat.reduceMul, Nat.reduceEqDiff, Nat.reduceLT, Nat.reduceLeDiff, or_false, false_or, Nat.not_lt_zero]
  · simp (disch := omega) only [b_102_423, b_102_436, b_102_453, h, sI_nk, nn_l, nn_o, nn_lt, nn_le, nn_eq, nn_cl, nn_add, nn_sub, if_pos, if_neg, lt_, Option.bind_some, ↓reduceIte, not_true_eq_false, not_false_eq_true, Nat.add_sub_cancel, Nat.add_zero, Nat.reduceSub, Nat.reduceAdd, Nat.reduceMul, Nat.reduceEqDiff, Nat.reduceLT, Nat.reduceLeDiff, or_false, false_or, Nat.not_lt_zero]
theorem one_lt (c : Nat) : one c < 100 := by
  by_cases h : c = 60 ∨ c = 62 ∨ c = 124 ∨ c = 94 ∨ c = 38 ∨ c = 43 ∨ c = 45 ∨ c = 42 ∨ c = 47 ∨ c = 37 ∨ c = 33 ∨ c = 126 ∨ c = 40 ∨ c = 41 ∨ c = 91 ∨ c = 93
  · rcases h with h | h | h | h | h | h | h | h | h | h | h | h | h | h | h | h <;> subst h <;> decide
  · unfold one
    rw [if_neg (show ¬ c = 60 by omega), if_neg (show ¬ c = 62 by omega), if_neg (show ¬ c = 124 by omega), if_neg (show ¬ c = 94 by omega), if_neg (show ¬ c = 38 by omega), if_neg (show ¬ c = 43 by omega), if_neg (show ¬ c = 45 by omega), if_neg (show ¬ c = 42 by omega), if_neg (show ¬ c = 47 by omega), if_neg (show ¬ c = 37 by omega), if_neg (show ¬ c = 33 by omega), if_neg (show ¬ c = 126 by omega), if_neg (show ¬ c = 40 by omega), if_neg (show ¬ c = 41 by omega), if_neg (show ¬ c = 91 by omega), if_neg (show ¬ c = 93 by omega)]
    omega
theorem two_lt (c d : Nat) : two c d < 100 := by unfold two; repeat' split
                                                 all_goals omega
theorem b244_eq {c t2 : Nat} {I : dI} {J : dJ} (hc : c < 1000) : b_102_244 (nn c) (nn t2) I J = b_102_423 (nn t2) (nn (one c)) I J := by
  by_cases h : c = 60 ∨ c = 62 ∨ c = 124 ∨ c = 94 ∨ c = 38 ∨ c = 43 ∨ c = 45 ∨ c = 42 ∨ c = 47 ∨ c = 37 ∨ c = 33 ∨ c = 126 ∨ c = 40 ∨ c = 41 ∨ c = 91 ∨ c = 93
  · rcases h with h | h | h | h | h | h | h | h | h | h | h | h | h | h | h | h <;> subst h <;> rfl
  · unfold b_102_244 one
    rw [if_pos (show ¬ nn c = 60 from ne_nn (k := 60) hc (by omega) (by omega)), if_pos (show ¬ nn c = 62 from ne_nn (k := 62) hc (by omega) (by omega)), if_pos (show ¬ nn c = 124 from ne_nn (k := 124) hc (by omega) (by omega)), if_pos (show ¬ nn c = 94 from ne_nn (k := 94) hc (by omega) (by omega)), if_pos (show ¬ nn c = 38 from ne_nn (k := 38) hc (by omega) (by omega)), if_pos (show ¬ nn c = 43 from ne_nn (k := 43) hc (by omega) (by omega)), if_pos (show ¬ nn c = 45 from ne_nn (k := 45) hc (by omega) (by omega)), if_pos (show ¬ nn c = 42 from ne_nn (k := 42) hc (by omega) (by omega)), if_pos (show ¬ nn c = 47 from ne_nn (k := 47) hc (by omega) (by omega)), if_pos (show ¬ nn c = 37 from ne_nn (k := 37) hc (by omega) (by omega)), if_pos (show ¬ nn c = 33 from ne_nn (k := 33) hc (by omega) (by omega)), if_pos (show ¬ nn c = 126 from ne_nn (k := 126) hc (by omega) (by omega)), if_pos (show ¬ nn c = 40 from ne_nn (k := 40) hc (by omega) (by omega)), if_pos (show ¬ nn c = 41 from ne_nn (k := 41) hc (by omega) (by omega)), if_pos (show ¬ nn c = 91 from ne_nn (k := 91) hc (by omega) (by omega)), if_pos (show ¬ nn c = 93 from ne_nn (k := 93) hc (by omega) (by omega))]
    rw [if_neg (show ¬ c = 60 by omega), if_neg (show ¬ c = 62 by omega), if_neg (show ¬ c = 124 by omega), if_neg (show ¬ c = 94 by omega), if_neg (show ¬ c = 38 by omega), if_neg (show ¬ c = 43 by omega), if_neg (show ¬ c = 45 by omega), if_neg (show ¬ c = 42 by omega), if_neg (show ¬ c = 47 by omega), if_neg (show ¬ c = 37 by omega), if_neg (show ¬ c = 33 by omega), if_neg (show ¬ c = 126 by omega), if_neg (show ¬ c = 40 by omega), if_neg (show ¬ c = 41 by omega), if_neg (show ¬ c = 91 by omega), if_neg (show ¬ c = 93 by omega)]
    rfl
theorem ite2 {α : Type} {X Y : Prop} [Decidable X] [Decidable Y] {A B : α} : (if ¬ X then A else (if ¬ Y then A else B)) = if X ∧ Y then B else A := by
  by_cases x : X <;> by_cases y : Y <;> simp [x, y]
theorem cv2 {c d k l : Nat} (hc : c < 1000) (hd : d < 1000) (hk : k < 1000) (hl : l < 1000) : (nn c = nn k ∧ nn d = nn l) = (c = k ∧ d = l) := by
  rw [nn_eq (by omega) (by omega), nn_eq (by omega) (by omega)]
theorem b_102_124_e (x1 x2 : Int32) (I : dI) (J : dJ) : b_102_124 x1 x2 I J = if x1 = 38 ∧ x2 = 38 then b_102_244 x1 11 I J else b_102_141 x1 x2 I J := ite2
theorem b_102_141_e (x1 x2 : Int32) (I : dI) (J : dJ) : b_102_141 x1 x2 I J = if x1 = 61 ∧ x2 = 61 then b_102_244 x1 12 I J else b_102_158 x1 x2 I J := ite2
theorem b_102_158_e (x1 x2 : Int32) (I : dI) (J : dJ) : b_102_158 x1 x2 I J = if x1 = 33 ∧ x2 = 61 then b_102_244 x1 13 I J else b_102_175 x1 x2 I J := ite2
theorem b_102_175_e (x1 x2 : Int32) (I : dI) (J : dJ) : b_102_175 x1 x2 I J = if x1 = 60 ∧ x2 = 61 then b_102_244 x1 15 I J else b_102_192 x1 x2 I J := ite2
theorem b_102_192_e (x1 x2 : Int32) (I : dI) (J : dJ) : b_102_192 x1 x2 I J = if x1 = 62 ∧ x2 = 61 then b_102_244 x1 17 I J else b_102_209 x1 x2 I J := ite2
theorem b_102_209_e (x1 x2 : Int32) (I : dI) (J : dJ) : b_102_209 x1 x2 I J = if x1 = 60 ∧ x2 = 60 then b_102_244 x1 21 I J else b_102_226 x1 x2 I J := ite2
theorem b_102_226_e (x1 x2 : Int32) (I : dI) (J : dJ) : b_102_226 x1 x2 I J = if x1 = 62 ∧ x2 = 62 then b_102_244 x1 22 I J else b_102_243 x1 I J := ite2
theorem cvp {c d k l : Nat} (g : c = k ∧ d = l) : nn c = nn k ∧ nn d = nn l := by
  rw [g.1, g.2]
  exact ⟨rfl, rfl⟩
theorem cvn {c d k l : Nat} (hc : c < 1000) (hd : d < 1000) (hk : k < 1000) (hl : l < 1000) (g : ¬ (c = k ∧ d = l)) : ¬ (nn c = nn k ∧ nn d = nn l) := by
  rw [cv2 hc hd hk hl]
  exact g
theorem m102_sg {s j : Nat} {T : Nat → Nat} {I : dI} {J : dJ} (hT : Txm s T I) (hj : j < s) (h21 : I 92 21 = nn j) (h32 : T j ≠ 32) (hp : ¬ Pl (T j)) : m_102 I J = some (sI (sI (sI I 92 23 (nn j)) 92 22 (nn (if 0 < two (T j) (ch s T (j + 1)) then two (T j) (ch s T (j + 1)) else one (T j)))) 92 21 (nn (j + (if 0 < two (T j) (ch s T (j + 1)) then 2 else 1))), J) := by
  obtain ⟨F, hF⟩ : ∃ F, FU = F + 1 := ⟨4999, rfl⟩
  have hs := hT.2.1
  have hc := hT.2.2 j hj
  have hd : ch s T (j + 1) < 1000 := by
    by_cases c : j + 1 < s
    · rw [ch_in c]; have := hT.2.2 (j + 1) c; omega
    · rw [ch_out (by omega)]; omega
  have hT' : Txm s T (sI I 92 23 (nn j)) := txm_s (by omega) hT
  have e21 : (sI I 92 23 (nn j)) 92 21 = nn j := by rw [sI_nk (by omega)]; exact h21
  have fin : ∀ t2, t2 < 100 → b_102_244 (nn (T j)) (nn t2) (sI I 92 23 (nn j)) J = some (sI (sI (sI I 92 23 (nn j)) 92 22 (nn (if 0 < t2 then t2 else one (T j)))) 92 21 (nn (j + (if 0 < t2 then 2 else 1))), J) := by
    intro t2 h2
    rw [b244_eq (by omega), b423_eq h2 (one_lt _) (by omega) e21]
  have key : ∀ c d, c < 1000 → d < 1000 → (if ¬ nn c = nn 124 then (b_102_124 (nn c) (nn d) (sI I 92 23 (nn j)) J) else (if ¬ nn d = nn 124 then (b_102_124 (nn c) (nn d) (sI I 92 23 (nn j)) J) else (b_102_244 (nn c) (nn 10) (sI I 92 23 (nn j)) J))) = b_102_244 (nn c) (nn (two c d)) (sI I 92 23 (nn j)) J := by
    intro c d c1 d1
    unfold two
    rw [ite2]
    by_cases g0 : c = 124 ∧ d = 124
    · rw [if_pos (show nn c = nn 124 ∧ nn d = nn 124 from cvp g0), if_pos g0]
    rw [if_neg (show ¬ (nn c = nn 124 ∧ nn d = nn 124) from cvn (k := 124) (l := 124) c1 d1 (by omega) (by omega) g0), if_neg g0, b_102_124_e]
    by_cases g1 : c = 38 ∧ d = 38
    · rw [if_pos (show nn c = 38 ∧ nn d = 38 from cvp g1), if_pos g1]
      rfl
    rw [if_neg (show ¬ (nn c = 38 ∧ nn d = 38) from cvn (k := 38) (l := 38) c1 d1 (by omega) (by omega) g1), if_neg g1, b_102_141_e]
    by_cases g2 : c = 61 ∧ d = 61
    · rw [if_pos (show nn c = 61 ∧ nn d = 61 from cvp g2), if_pos g2]
      rfl
    rw [if_neg (show ¬ (nn c = 61 ∧ nn d = 61) from cvn (k := 61) (l := 61) c1 d1 (by omega) (by omega) g2), if_neg g2, b_102_158_e]
    by_cases g3 : c = 33 ∧ d = 61
    · rw [if_pos (show nn c = 33 ∧ nn d = 61 from cvp g3), if_pos g3]
      rfl
    rw [if_neg (show ¬ (nn c = 33 ∧ nn d = 61) from cvn (k := 33) (l := 61) c1 d1 (by omega) (by omega) g3), if_neg g3, b_102_175_e]
    by_cases g4 : c = 60 ∧ d = 61
    · rw [if_pos (show nn c = 60 ∧ nn d = 61 from cvp g4), if_pos g4]
      rfl
    rw [if_neg (show ¬ (nn c = 60 ∧ nn d = 61) from cvn (k := 60) (l := 61) c1 d1 (by omega) (by omega) g4), if_neg g4, b_102_192_e]
    by_cases g5 : c = 62 ∧ d = 61
    · rw [if_pos (show nn c = 62 ∧ nn d = 61 from cvp g5), if_pos g5]
      rfl
    rw [if_neg (show ¬ (nn c = 62 ∧ nn d = 61) from cvn (k := 62) (l := 61) c1 d1 (by omega) (by omega) g5), if_neg g5, b_102_209_e]
    by_cases g6 : c = 60 ∧ d = 60
    · rw [if_pos (show nn c = 60 ∧ nn d = 60 from cvp g6), if_pos g6]
      rfl
    rw [if_neg (show ¬ (nn c = 60 ∧ nn d = 60) from cvn (k := 60) (l := 60) c1 d1 (by omega) (by omega) g6), if_neg g6, b_102_226_e]
    by_cases g7 : c = 62 ∧ d = 62
    · rw [if_pos (show nn c = 62 ∧ nn d = 62 from cvp g7), if_pos g7]
      rfl
    rw [if_neg (show ¬ (nn c = 62 ∧ nn d = 62) from cvn (k := 62) (l := 62) c1 d1 (by omega) (by omega) g7), if_neg g7]
    rfl
  have key' := key (T j) (ch s T (j + 1)) (by omega) hd
  rw [fin _ (two_lt _ _)] at key'
  have n32 : ¬ nn (T j) = 32 := ne_nn (k := 32) (by omega) (by omega) h32
  have q1 : m_101 (I 92 21) I J = some (nn (T j)) := by rw [h21, m101_eq hT (by omega), ch_in hj]
  have q2 : m_101 ((sI I 92 23 (nn j)) 92 21) (sI I 92 23 (nn j)) J = some (nn (T j)) := by rw [e21, m101_eq hT' (by omega), ch_in hj]
  have q3 : m_101 ((sI I 92 23 (nn j)) 92 21 + 1) (sI I 92 23 (nn j)) J = some (nn (ch s T (j + 1))) := by rw [e21, nn_l, nn_add, m101_eq hT' (by omega)]
  have q4 := m103_f (sI I 92 23 (nn j)) J (show T j < 1000 by omega) hp
  show b_102_0 FU I J = _
  rw [hF, b_102_0, q1, Option.bind_some, if_pos n32, h21]
  show (m_101 ((sI I 92 23 (nn j)) 92 21) (sI I 92 23 (nn j)) J).bind _ = _
  rw [q2, Option.bind_some, q4, Option.bind_some, if_pos (show nn 0 = 0 from rfl), q3, Option.bind_some]
  exact key'
def TR (kc : Nat) (v : Int64) (κ : Nat) (w : Int64) : Prop := (kc = 2 ∧ κ = 0) ∨ (kc = 3 ∧ κ = 1 ∧ v = w) ∨ (kc = 4 ∧ κ = 2 ∧ v = w ∧ ∃ z, z < 32 ∧ w = Int64.ofNat z) ∨ (kc = 4 ∧ κ = 3 ∧ v = Int64.ofNat 32) ∨ (kc = 4 ∧ κ = 4 ∧ v = Int64.ofNat 33) ∨ (kc = κ ∧ 5 ≤ kc ∧ kc ≤ 9) ∨ (kc = 10 ∧ κ = 30) ∨ (kc = 11 ∧ κ = 31) ∨ (kc = 12 ∧ κ = 32) ∨ (kc = 13 ∧ κ = 33) ∨ (kc = 14 ∧ κ = 28) ∨ (kc = 15 ∧ κ = 29) ∨ (kc = κ + 6 ∧ 10 ≤ κ ∧ κ ≤ 27)
theorem sg_rel : ∀ c d : Fin 127, (kcs c.val d.val = 1 ∧ 0 = two c.val d.val ∧ one c.val = 34) ∨ ((kc2 c.val d.val = 1 ↔ two c.val d.val = 0) ∧ ((kcs c.val d.val = 10 ∧ (if 0 < two c.val d.val then two c.val d.val else one c.val) = 30) ∨ (kcs c.val d.val = 11 ∧ (if 0 < two c.val d.val then two c.val d.val else one c.val) = 31) ∨ (kcs c.val d.val = 12 ∧ (if 0 < two c.val d.val then two c.val d.val else one c.val) = 32) ∨ (kcs c.val d.val = 13 ∧ (if 0 < two c.val d.val then two c.val d.val else one c.val) = 33) ∨ (kcs c.val d.val = 14 ∧ (if 0 < two c.val d.val then two c.val d.val else one c.val) = 28) ∨ (kcs c.val d.val = 15 ∧ (if 0 < two c.val d.val then two c.val d.val else one c.val) = 29) ∨ (kcs c.val d.val = (if 0 < two c.val d.val then two c.val d.val else one c.val) + 6 ∧ 10 ≤ (if 0 < two c.val d.val then two c.val d.val else one c.val) ∧ (if 0 < two c.val d.val then two c.val d.val else one c.val) ≤ 27))) := by
  decide +kernel
