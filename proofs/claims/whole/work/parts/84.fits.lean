/-! The builder of the class: what fits, faults, what a token does. -/
def bgC (c : Nat) : Nat := if c = 2 ∨ c = 3 ∨ c = 4 ∨ c = 5 ∨ c = 6 ∨ c = 7 ∨ c = 8 ∨ c = 9 ∨ c = 10 ∨ c = 12 ∨ c = 14 ∨ c = 15 ∨ c = 30 then 1 else 0
theorem m64_eq {c : Nat} (hc : c < 1000) (I : dI) (J : dJ) : m_64 (nn c) I J = some (nn (bgC c)) := by
  unfold bgC
  by_cases h : c = 2 ∨ c = 3 ∨ c = 4 ∨ c = 5 ∨ c = 6 ∨ c = 7 ∨ c = 8 ∨ c = 9 ∨ c = 10 ∨ c = 12 ∨ c = 14 ∨ c = 15 ∨ c = 30
  · rw [if_pos h]
    rcases h with h | h | h | h | h | h | h | h | h | h | h | h | h <;> subst h <;> rfl
  · rw [if_neg h]
    unfold m_64 b_64_0
    rw [if_neg (show ¬ nn c = 2 from ne_nn (k := 2) hc (by omega) (by omega)), if_neg (show ¬ nn c = 3 from ne_nn (k := 3) hc (by omega) (by omega)), if_neg (show ¬ nn c = 4 from ne_nn (k := 4) hc (by omega) (by omega)), if_neg (show ¬ nn c = 5 from ne_nn (k := 5) hc (by omega) (by omega)), if_neg (show ¬ nn c = 6 from ne_nn (k := 6) hc (by omega) (by omega)), if_neg (show ¬ nn c = 7 from ne_nn (k := 7) hc (by omega) (by omega)), if_neg (show ¬ nn c = 8 from ne_nn (k := 8) hc (by omega) (by omega)), if_neg (show ¬ nn c = 9 from ne_nn (k := 9) hc (by omega) (by omega)), if_neg (show ¬ nn c = 10 from ne_nn (k := 10) hc (by omega) (by omega)), if_neg (show ¬ nn c = 12 from ne_nn (k := 12) hc (by omega) (by omega)), if_neg (show ¬ nn c = 14 from ne_nn (k := 14) hc (by omega) (by omega)), if_neg (show ¬ nn c = 15 from ne_nn (k := 15) hc (by omega) (by omega)), if_neg (show ¬ nn c = 30 from ne_nn (k := 30) hc (by omega) (by omega))]
    rfl
def topB (B : List Nat) : Nat := match B with
  | [] => 0
  | b :: _ => b
def foC (c : Nat) (B : List Nat) : Nat := if c = 0 then (if B.length = 0 then 1 else 0) else if c = 11 then (if topB B = 10 then 1 else 0) else if c = 13 then (if topB B = 12 then 1 else 0) else (if 16 ≤ c ∧ c ≤ 33 then 1 else 0)
theorem m66_b {B : List Nat} {I : dI} {J : dJ} (h : Pil 16 I B) (hB : B.length ≤ 8) (hb : ∀ x, x ∈ B → x = 10 ∨ x = 12) (k : Nat) (hk : k = 10 ∨ k = 12) : ∃ r, m_66 16 8 I J = some r ∧ ((r = nn k) ↔ topB B = k) := by
  cases B with
  | nil =>
    refine ⟨_, pil_none J h, ?_⟩
    constructor
    · intro e
      rw [nn_m1e (by omega)] at e
      exact e.elim
    · intro e
      have : (0 : Nat) = k := e
      omega
  | cons b B =>
    rw [List.length_cons] at hB
    have hb' := hb b List.mem_cons_self
    refine ⟨_, pil_top J h (by omega) (by omega), ?_⟩
    rw [nn_eq (by omega) (by omega)]
    exact Iff.rfl
theorem m65_eq {c : Nat} {B : List Nat} {I : dI} {J : dJ} (hc : c < 1000) (h : Pil 16 I B) (hB : B.length ≤ 8) (hb : ∀ x, x ∈ B → x = 10 ∨ x = 12) : m_65 (nn c) I J = some (nn (foC c B)) := by
  unfold m_65 b_65_0 foC
  by_cases c0 : c = 0
  · subst c0
    rw [if_pos (show nn 0 = 0 from rfl), if_pos rfl, h.1]
    by_cases e : B.length = 0
    · rw [if_pos e, e]
      rfl
    · rw [if_neg e, if_pos (show ¬ nn B.length = 0 from ne_nn (k := 0) (by omega) (by omega) e)]
      rfl
  · rw [if_neg (show ¬ nn c = 0 from ne_nn (k := 0) hc (by omega) c0), if_neg c0]
    by_cases c11 : c = 11
    · subst c11
      rw [if_pos (show nn 11 = 11 from rfl), if_pos rfl]
      obtain ⟨r, r1, r2⟩ := m66_b (J := J) h hB hb 10 (by omega)
      rw [r1, Option.bind_some]
      by_cases e : topB B = 10
      · rw [if_pos e, if_neg (fun x => x (r2.mpr e))]
        rfl
      · rw [if_neg e, if_pos (show ¬ r = 10 from fun x => e (r2.mp x))]
        rfl
    · rw [if_neg (show ¬ nn c = 11 from ne_nn (k := 11) hc (by omega) c11), if_neg c11]
      by_cases c13 : c = 13
      · subst c13
        rw [if_pos (show nn 13 = 13 from rfl), if_pos rfl]
        obtain ⟨r, r1, r2⟩ := m66_b (J := J) h hB hb 12 (by omega)
        rw [r1, Option.bind_some]
        by_cases e : topB B = 12
        · rw [if_pos e, if_neg (fun x => x (r2.mpr e))]
          rfl
        · rw [if_neg e, if_pos (show ¬ r = 12 from fun x => e (r2.mp x))]
          rfl
      · rw [if_neg (show ¬ nn c = 13 from ne_nn (k := 13) hc (by omega) c13), if_neg c13]
        by_cases e : 16 ≤ c ∧ c ≤ 33
        · have e67 : m_67 (nn c) I J = some (nn 1) := by simp (disch := omega) only [m_67, b_67_0, nn_l, nn_o, nn_lt, nn_le, nn_eq, nn_cl, nn_add, nn_sub, if_pos, if_neg, lt_, Option.bind_some, ↓reduceIte, not_true_eq_false, not_false_eq_true, Nat.add_sub_cancel, Nat.add_zero, Nat.reduceSub, Nat.reduceAdd, Nat.reduceMul, Nat.reduceEqDiff, Nat.reduceLT, Nat.reduceLeDiff, or_false, false_or, Nat.not_lt_zero]
          rw [e67, Option.bind_some, if_pos e, if_pos (Or.inr (show nn 1 = 1 from rfl))]
        · have e67 : m_67 (nn c) I J = some (nn 0) := by
            by_cases e2 : c < 16
            · simp (disch := omega) only [m_67, b_67_0, nn_l, nn_o, nn_lt, nn_le, nn_eq, nn_cl, nn_add, nn_sub, if_pos, if_neg, lt_, Option.bind_some, ↓reduceIte, not_true_eq_false, not_false_eq_true, Nat.add_sub_cancel, Nat.add_zero, Nat.reduceSub, Nat.reduceAdd, Nat.reduceMul, Nat.reduceEqDiff, Nat.reduceLT, Nat.reduceLeDiff, or_false, false_or, Nat.not_lt_zero]
            · simp (disch := omega) only [m_67, b_67_0, nn_l, nn_o, nn_lt, nn_le, nn_eq, nn_cl, nn_add, nn_sub, if_pos, if_neg, lt_, Option.bind_some, ↓reduceIte, not_true_eq_false, not_false_eq_true, Nat.add_sub_cancel, Nat.add_zero, Nat.reduceSub, Nat.reduceAdd, Nat.reduceMul, Nat.reduceEqDiff, Nat.reduceLT, Nat.reduceLeDiff, or_false, false_or, Nat.not_lt_zero]
          rw [e67, Option.bind_some, if_neg e, if_pos (Or.inl (show nn 0 = 0 from rfl))]
def fitC (st c : Nat) (B : List Nat) : Nat := if st = 0 then bgC c else if st = 2 then (if c = 10 then 1 else 0) else if st = 3 then (if c = 12 then 1 else 0) else foC c B
theorem bgC_01 (c : Nat) : bgC c = 0 ∨ bgC c = 1 := by
  unfold bgC
  split
  · exact Or.inr rfl
  · exact Or.inl rfl
theorem foC_01 (c : Nat) (B : List Nat) : foC c B = 0 ∨ foC c B = 1 := by
  unfold foC
  repeat' split
  all_goals first | exact Or.inl rfl | exact Or.inr rfl
theorem m63_eq {st c : Nat} {B : List Nat} {I : dI} {J : dJ} (hc : c < 1000) (hst : st ≤ 3) (h6 : I 6 6 = nn st) (h : Pil 16 I B) (hB : B.length ≤ 8) (hb : ∀ x, x ∈ B → x = 10 ∨ x = 12) : m_63 (nn c) I J = some (nn (fitC st c B)) := by
  have z01 : ∀ x, x = 0 ∨ x = 1 → (nn x = 0 ∨ nn x = 1) := by
    intro x hx
    rcases hx with rfl | rfl
    · exact Or.inl rfl
    · exact Or.inr rfl
  unfold m_63 b_63_0 fitC
  rw [h6]
  have h4 : st = 0 ∨ st = 1 ∨ st = 2 ∨ st = 3 := by omega
  rcases h4 with rfl | rfl | rfl | rfl
  · rw [if_pos (show nn 0 = 0 from rfl), m64_eq hc, Option.bind_some, if_pos (z01 _ (bgC_01 c)), if_pos (show (0 : Nat) = 0 from rfl)]
  · rw [if_neg (show ¬ nn 1 = 0 by decide), if_neg (show ¬ nn 1 = 2 by decide), if_neg (show ¬ nn 1 = 3 by decide), m65_eq hc h hB hb, Option.bind_some, if_pos (z01 _ (foC_01 c B)), if_neg (show ¬ (1 : Nat) = 0 by omega), if_neg (show ¬ (1 : Nat) = 2 by omega), if_neg (show ¬ (1 : Nat) = 3 by omega)]
  · rw [if_neg (show ¬ nn 2 = 0 by decide), if_pos (show nn 2 = 2 from rfl), if_neg (show ¬ (2 : Nat) = 0 by omega), if_pos (show (2 : Nat) = 2 from rfl)]
    by_cases e : c = 10
    · subst e
      rw [if_neg (fun x => x (show nn 10 = 10 from rfl)), if_pos rfl]
      rfl
    · rw [if_pos (show ¬ nn c = 10 from ne_nn (k := 10) hc (by omega) e), if_neg e]
      rfl
  · rw [if_neg (show ¬ nn 3 = 0 by decide), if_neg (show ¬ nn 3 = 2 by decide), if_pos (show nn 3 = 3 from rfl), if_neg (show ¬ (3 : Nat) = 0 by omega), if_neg (show ¬ (3 : Nat) = 2 by omega), if_pos (show (3 : Nat) = 3 from rfl)]
    by_cases e : c = 12
    · subst e
      rw [if_neg (fun x => x (show nn 12 = 12 from rfl)), if_pos rfl]
      rfl
    · rw [if_pos (show ¬ nn c = 12 from ne_nn (k := 12) hc (by omega) e), if_neg e]
      rfl
theorem m68_t {c : Nat} (hc : c < 1000) (h : c ≠ 0 ∧ c ≠ 11 ∧ c ≠ 13) (I : dI) (J : dJ) : m_68 (nn c) I J = some (nn 1) := by
  simp (disch := omega) only [m_68, b_68_0, nn_l, nn_o, nn_lt, nn_le, nn_eq, nn_cl, nn_add, nn_sub, if_pos, if_neg, lt_, Option.bind_some, ↓reduceIte, not_true_eq_false, not_false_eq_true, Nat.add_sub_cancel, Nat.add_zero, Nat.reduceSub, Nat.reduceAdd, Nat.reduceMul, Nat.reduceEqDiff, Nat.reduceLT, Nat.reduceLeDiff, or_false, false_or, Nat.not_lt_zero]
theorem m68_f {c : Nat} (h : c = 0 ∨ c = 11 ∨ c = 13) (I : dI) (J : dJ) : m_68 (nn c) I J = some (nn 0) := by
  rcases h with rfl | rfl | rfl <;> rfl
theorem m69_t {c : Nat} (h : c = 10 ∨ c = 12) (I : dI) (J : dJ) : m_69 (nn c) I J = some (nn 1) := by
  rcases h with rfl | rfl <;> rfl
theorem m69_f {c : Nat} (hc : c < 1000) (h : c ≠ 10 ∧ c ≠ 12) (I : dI) (J : dJ) : m_69 (nn c) I J = some (nn 0) := by
  simp (disch := omega) only [m_69, b_69_0, nn_l, nn_o, nn_lt, nn_le, nn_eq, nn_cl, nn_add, nn_sub, if_pos, if_neg, lt_, Option.bind_some, ↓reduceIte, not_true_eq_false, not_false_eq_true, Nat.add_sub_cancel, Nat.add_zero, Nat.reduceSub, Nat.reduceAdd, Nat.reduceMul, Nat.reduceEqDiff, Nat.reduceLT, Nat.reduceLeDiff, or_false, false_or, Nat.not_lt_zero]
/-- the fault of a token -/
def fltC (st c n : Nat) (B : List Nat) : Nat := if fitC st c B = 0 then 1 else if c = 2 then 2 else if (c ≠ 0 ∧ c ≠ 11 ∧ c ≠ 13) ∧ 40 ≤ n then 3 else if (c = 10 ∨ c = 12) ∧ 8 ≤ B.length then 4 else 0
theorem m62_eq {st c n : Nat} {B : List Nat} {I : dI} {J : dJ} (hc : c < 1000) (hst : st ≤ 3) (hn : n ≤ 40) (h6 : I 6 6 = nn st) (h7 : I 7 5 = nn n) (h : Pil 16 I B) (hB : B.length ≤ 8) (hb : ∀ x, x ∈ B → x = 10 ∨ x = 12) : m_62 (nn c) I J = some (nn (fltC st c n B)) := by
  have h38 : b_62_38 (nn c) I J = some (nn (if (c = 10 ∨ c = 12) ∧ 8 ≤ B.length then 4 else 0)) := by
    by_cases e : c = 10 ∨ c = 12
    · by_cases e2 : 8 ≤ B.length
      · rw [if_pos ⟨e, e2⟩]
        simp (disch := omega) only [b_62_38, m69_t e, h.1, nn_l, nn_o, nn_lt, nn_le, nn_eq, nn_cl, nn_add, nn_sub, if_pos, if_neg, lt_, Option.bind_some, ↓reduceIte, not_true_eq_false, not_false_eq_true, Nat.add_sub_cancel, Nat.add_zero, Nat.reduceSub, Nat.reduceAdd, Nat.reduceMul, Nat.reduceEqDiff, Nat.reduceLT, Nat.reduceLeDiff, or_false, false_or, Nat.not_lt_zero]
      · rw [if_neg (fun x => e2 x.2)]
        simp (disch := omega) only [b_62_38, m69_t e, h.1, nn_l, nn_o, nn_lt, nn_le, nn_eq, nn_cl, nn_add, nn_sub, if_pos, if_neg, lt_, Option.bind_some, ↓reduceIte, not_true_eq_false, not_false_eq_true, Nat.add_sub_cancel, Nat.add_zero, Nat.reduceSub, Nat.reduceAdd, Nat.reduceMul, Nat.reduceEqDiff, Nat.reduceLT, Nat.reduceLeDiff, or_false, false_or, Nat.not_lt_zero]
    · rw [if_neg (fun x => e x.1)]
      simp (disch := omega) only [b_62_38, m69_f hc (show c ≠ 10 ∧ c ≠ 12 by omega), nn_l, nn_o, nn_lt, nn_le, nn_eq, nn_cl, nn_add, nn_sub, if_pos, if_neg, lt_, Option.bind_some, ↓reduceIte, not_true_eq_false, not_false_eq_true, Nat.add_sub_cancel, Nat.add_zero, Nat.reduceSub, Nat.reduceAdd, Nat.reduceMul, Nat.reduceEqDiff, Nat.reduceLT, Nat.reduceLeDiff, or_false, false_or, Nat.not_lt_zero]
  have hf : fitC st c B = 0 ∨ fitC st c B = 1 := by
    unfold fitC
    repeat' split
    all_goals first | exact bgC_01 c | exact foC_01 c B | exact Or.inl rfl | exact Or.inr rfl
  unfold m_62 b_62_0 fltC
  rw [m63_eq hc hst h6 h hB hb, Option.bind_some]
  rcases hf with hf | hf
  · rw [hf, if_neg (fun x => x (show nn 0 = 0 from rfl)), if_pos rfl]
    rfl
  · rw [hf, if_pos (show ¬ nn 1 = 0 by decide), if_neg (show ¬ (1 : Nat) = 0 by omega)]
    by_cases e2 : c = 2
    · subst e2
      rw [if_neg (fun x => x (show nn 2 = 2 from rfl)), if_pos rfl]
      rfl
    · rw [if_pos (show ¬ nn c = 2 from ne_nn (k := 2) hc (by omega) e2), if_neg e2]
      by_cases e3 : c ≠ 0 ∧ c ≠ 11 ∧ c ≠ 13
      · rw [m68_t hc e3, Option.bind_some, if_neg (show ¬ nn 1 = 0 by decide), h7]
        by_cases e4 : 40 ≤ n
        · rw [if_neg (show ¬ nn n < 40 by rw [nn_l, nn_lt (by omega) (by omega)]; omega), if_pos ⟨e3, e4⟩]
          rfl
        · rw [if_pos (show nn n < 40 by rw [nn_l, nn_lt (by omega) (by omega)]; omega), if_neg (fun x => e4 x.2), h38]
      · rw [m68_f (by omega), Option.bind_some, if_pos (show nn 0 = 0 from rfl), if_neg (fun x => e3 x.1), h38]
