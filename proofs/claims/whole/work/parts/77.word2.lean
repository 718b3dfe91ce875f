/-! What a word is. -/
def Rg (T : Nat → Nat) (j e r : Nat) : Prop := T j = 120 ∧ ((e = j + 2 ∧ Dg (T (j + 1)) ∧ r = T (j + 1) - 48) ∨ (e = j + 3 ∧ Dg (T (j + 1)) ∧ T (j + 1) ≠ 48 ∧ Dg (T (j + 2)) ∧ r = (T (j + 1) - 48) * 10 + T (j + 2) - 48 ∧ r < 32))
theorem wl_pc : Wl wPc := wl_of (by decide) (by decide)
theorem wl_pid : Wl wPid := wl_of (by decide) (by decide)
theorem wl_count : Wl wCount := wl_of (by decide) (by decide)
theorem wl_byte : Wl wByte := wl_of (by decide) (by decide)
theorem wl_half : Wl wHalf := wl_of (by decide) (by decide)
theorem wl_old : Wl wOld := wl_of (by decide) (by decide)
theorem wl_chg : Wl wChg := wl_of (by decide) (by decide)
theorem wd_first {T : Nat → Nat} {st e : Nat} {ws : List Nat} (h : Wd T st e ws) (hl : 0 < ws.length) : T st = ws.getD 0 0 := h.2 0 hl
/-- the class: the register's number, or -1 -/
theorem m55_pc {s j e : Nat} {T : Nat → Nat} {I : dI} {J : dJ} (hT : Txc s T I) (h1 : I 18 1 = nn j) (h2 : I 18 2 = nn e) (he : e ≤ s) (h : Wd T j e wPc) : m_55 I J = some (nn 32) := by
  simp (disch := omega) only [m_55, b_55_0, m56_y sb_6 hT h1 h2 he h, nn_l, nn_o, nn_lt, nn_le, nn_eq, nn_cl, nn_add, nn_sub, if_pos, if_neg, lt_, Option.bind_some, ↓reduceIte, not_true_eq_false, not_false_eq_true, Nat.add_sub_cancel, Nat.add_zero, Nat.reduceSub, Nat.reduceAdd, Nat.reduceMul, Nat.reduceEqDiff, Nat.reduceLT, Nat.reduceLeDiff, or_false, false_or, Nat.not_lt_zero]
theorem m55_pid {s j e : Nat} {T : Nat → Nat} {I : dI} {J : dJ} (hT : Txc s T I) (h1 : I 18 1 = nn j) (h2 : I 18 2 = nn e) (hj : j < e) (he : e ≤ s) (h0 : ¬ Wd T j e wPc) (h : Wd T j e wPid) : m_55 I J = some (nn 33) := by
  simp (disch := omega) only [m_55, b_55_0, m56_n sb_6 wl_pc hT h1 h2 (Nat.le_of_lt hj) he h0, m56_y sb_7 hT h1 h2 he h, nn_l, nn_o, nn_lt, nn_le, nn_eq, nn_cl, nn_add, nn_sub, if_pos, if_neg, lt_, Option.bind_some, ↓reduceIte, not_true_eq_false, not_false_eq_true, Nat.add_sub_cancel, Nat.add_zero, Nat.reduceSub, Nat.reduceAdd, Nat.reduceMul, Nat.reduceEqDiff, Nat.reduceLT, Nat.reduceLeDiff, or_false, false_or, Nat.not_lt_zero]
theorem m55_rg {s j e r : Nat} {T : Nat → Nat} {I : dI} {J : dJ} (hT : Txc s T I) (h1 : I 18 1 = nn j) (h2 : I 18 2 = nn e) (hj : j < e) (he : e ≤ s) (h : Rg T j e r) : m_55 I J = some (nn r) ∧ r < 32 := by
  have hs := hT.2.1
  obtain ⟨r1, r2⟩ := h
  have n0 : ¬ Wd T j e wPc := fun x => by
    have := wd_first x (by decide); rw [r1] at this; exact absurd this (by decide)
  have n1 : ¬ Wd T j e wPid := fun x => by
    have := wd_first x (by decide); rw [r1] at this; exact absurd this (by decide)
  rcases r2 with ⟨e1, d1, e2⟩ | ⟨e1, d1, z1, d2, e2, e3⟩
  · have d1' := d1
    unfold Dg at d1'
    subst e1
    refine ⟨?_, by omega⟩
    rw [e2]
    simp (disch := omega) only [m_55, b_55_0, b_55_90, m56_n sb_6 wl_pc hT h1 h2 (Nat.le_of_lt hj) he n0, m56_n sb_7 wl_pid hT h1 h2 (Nat.le_of_lt hj) he n1, h1, h2, m48_eq hT (show j < 1000 by omega), m48_eq hT (show j + 1 < 1000 by omega), ch_in (show j < s by omega), ch_in (show j + 1 < s by omega), r1, m49_t I J d1, show j + 2 - j - 1 = 1 by omega, show j + 2 - j = 2 by omega, nn_l, nn_o, nn_lt, nn_le, nn_eq, nn_cl, nn_add, nn_sub, if_pos, if_neg, lt_, Option.bind_some, ↓reduceIte, not_true_eq_false, not_false_eq_true, Nat.add_sub_cancel, Nat.add_zero, Nat.reduceSub, Nat.reduceAdd, Nat.reduceMul, Nat.reduceEqDiff, Nat.reduceLT, Nat.reduceLeDiff, or_false, false_or, Nat.not_lt_zero]
  · have d1' := d1
    have d2' := d2
    unfold Dg at d1' d2'
    subst e1
    refine ⟨?_, e3⟩
    rw [e2] at e3 ⊢
    simp (disch := omega) only [m_55, b_55_0, b_55_90, m56_n sb_6 wl_pc hT h1 h2 (Nat.le_of_lt hj) he n0, m56_n sb_7 wl_pid hT h1 h2 (Nat.le_of_lt hj) he n1, h1, h2, m48_eq hT (show j < 1000 by omega), m48_eq hT (show j + 1 < 1000 by omega), m48_eq hT (show j + 2 < 1000 by omega), ch_in (show j < s by omega), ch_in (show j + 1 < s by omega), ch_in (show j + 2 < s by omega), r1, m49_t I J d1, m49_t I J d2, nn_mul, show j + 3 - j - 1 = 2 by omega, show j + 3 - j = 3 by omega, nn_l, nn_o, nn_lt, nn_le, nn_eq, nn_cl, nn_add, nn_sub, if_pos, if_neg, lt_, Option.bind_some, ↓reduceIte, not_true_eq_false, not_false_eq_true, Nat.add_sub_cancel, Nat.add_zero, Nat.reduceSub, Nat.reduceAdd, Nat.reduceMul, Nat.reduceEqDiff, Nat.reduceLT, Nat.reduceLeDiff, or_false, false_or, Nat.not_lt_zero]
theorem m55_no {s j e : Nat} {T : Nat → Nat} {I : dI} {J : dJ} (hT : Txc s T I) (h1 : I 18 1 = nn j) (h2 : I 18 2 = nn e) (hj : j < e) (he : e ≤ s) (n0 : ¬ Wd T j e wPc) (n1 : ¬ Wd T j e wPid) (h : ¬ ∃ r, Rg T j e r) : m_55 I J = some (-(nn 1)) := by
  have hs := hT.2.1
  have hcj := hT.2.2 j (by omega)
  obtain ⟨l, el⟩ : ∃ l, e = j + 1 + l := ⟨e - j - 1, by omega⟩
  subst el
  have w6 := m56_n (J := J) sb_6 wl_pc hT h1 h2 (Nat.le_of_lt hj) he n0
  have w7 := m56_n (J := J) sb_7 wl_pid hT h1 h2 (Nat.le_of_lt hj) he n1
  have cj := ch_in (s := s) (T := T) (show j < s by omega)
  have c48 := m48_eq (J := J) hT (show j < 1000 by omega)
  have c481 := m48_eq (J := J) hT (show j + 1 < 1000 by omega)
  have c482 := m48_eq (J := J) hT (show j + 2 < 1000 by omega)
  by_cases c1 : T j = 120
  · by_cases c2 : l < 1
    · simp (disch := omega) only [m_55, b_55_0, w6, w7, h1, h2, c48, cj, c1, show j + 1 + l - j - 1 = l by omega, nn_l, nn_o, nn_lt, nn_le, nn_eq, nn_cl, nn_add, nn_sub, if_pos, if_neg, lt_, Option.bind_some, ↓reduceIte, not_true_eq_false, not_false_eq_true, Nat.add_sub_cancel, Nat.add_zero, Nat.reduceSub, Nat.reduceAdd, Nat.reduceMul, Nat.reduceEqDiff, Nat.reduceLT, Nat.reduceLeDiff, or_false, false_or, Nat.not_lt_zero]
    · by_cases c3 : l ≤ 2
      · have hc1 := hT.2.2 (j + 1) (by omega)
        have cj1 := ch_in (s := s) (T := T) (show j + 1 < s by omega)
        by_cases c4 : Dg (T (j + 1))
        · have c4' := c4
          unfold Dg at c4'
          have c5 : ¬ l = 1 := fun x => h ⟨_, c1, Or.inl ⟨by omega, c4, rfl⟩⟩
          have hc2 := hT.2.2 (j + 2) (by omega)
          have cj2 := ch_in (s := s) (T := T) (show j + 2 < s by omega)
          by_cases c6 : T (j + 1) = 48
          · simp (disch := omega) only [m_55, b_55_0, b_55_90, w6, w7, h1, h2, c48, cj, c481, cj1, c482, cj2, c1, c6, m49_t I J c4, m49_t I J (show Dg 48 from ⟨by omega, by omega⟩), show j + 1 + l - j - 1 = l by omega, nn_l, nn_o, nn_lt, nn_le, nn_eq, nn_cl, nn_add, nn_sub, if_pos, if_neg, lt_, Option.bind_some, ↓reduceIte, not_true_eq_false, not_false_eq_true, Nat.add_sub_cancel, Nat.add_zero, Nat.reduceSub, Nat.reduceAdd, Nat.reduceMul, Nat.reduceEqDiff, Nat.reduceLT, Nat.reduceLeDiff, or_false, false_or, Nat.not_lt_zero]
          · by_cases c7 : Dg (T (j + 2))
            · have c7' := c7
              unfold Dg at c7'
              have c8 : 32 ≤ (T (j + 1) - 48) * 10 + T (j + 2) - 48 := by
                refine Classical.byContradiction fun x => h ⟨(T (j + 1) - 48) * 10 + T (j + 2) - 48, c1, Or.inr ⟨by omega, c4, c6, c7, rfl, by omega⟩⟩
              simp (disch := omega) only [m_55, b_55_0, b_55_90, w6, w7, h1, h2, c48, cj, c481, cj1, c482, cj2, c1, m49_t I J c4, m49_t I J c7, nn_mul, show j + 1 + l - j - 1 = l by omega, nn_l, nn_o, nn_lt, nn_le, nn_eq, nn_cl, nn_add, nn_sub, if_pos, if_neg, lt_, Option.bind_some, ↓reduceIte, not_true_eq_false, not_false_eq_true, Nat.add_sub_cancel, Nat.add_zero, Nat.reduceSub, Nat.reduceAdd, Nat.reduceMul, Nat.reduceEqDiff, Nat.reduceLT, Nat.reduceLeDiff, or_false, false_or, Nat.not_lt_zero]
            · simp (disch := omega) only [m_55, b_55_0, b_55_90, w6, w7, h1, h2, c48, cj, c481, cj1, c482, cj2, c1, m49_t I J c4, m49_f I J (show T (j + 2) < 1000 by omega) c7, show j + 1 + l - j - 1 = l by omega, nn_l, nn_o, nn_lt, nn_le, nn_eq, nn_cl, nn_add, nn_sub, if_pos, if_neg, lt_, Option.bind_some, ↓reduceIte, not_true_eq_false, not_false_eq_true, Nat.add_sub_cancel, Nat.add_zero, Nat.reduceSub, Nat.reduceAdd, Nat.reduceMul, Nat.reduceEqDiff, Nat.reduceLT, Nat.reduceLeDiff, or_false, false_or, Nat.not_lt_zero]
        · simp (disch := omega) only [m_55, b_55_0, b_55_90, w6, w7, h1, h2, c48, cj, c481, cj1, c1, m49_f I J (show T (j + 1) < 1000 by omega) c4, show j + 1 + l - j - 1 = l by omega, nn_l, nn_o, nn_lt, nn_le, nn_eq, nn_cl, nn_add, nn_sub, if_pos, if_neg, lt_, Option.bind_some, ↓reduceIte, not_true_eq_false, not_false_eq_true, Nat.add_sub_cancel, Nat.add_zero, Nat.reduceSub, Nat.reduceAdd, Nat.reduceMul, Nat.reduceEqDiff, Nat.reduceLT, Nat.reduceLeDiff, or_false, false_or, Nat.not_lt_zero]
      · simp (disch := omega) only [m_55, b_55_0, w6, w7, h1, h2, c48, cj, c1, show j + 1 + l - j - 1 = l by omega, nn_l, nn_o, nn_lt, nn_le, nn_eq, nn_cl, nn_add, nn_sub, if_pos, if_neg, lt_, Option.bind_some, ↓reduceIte, not_true_eq_false, not_false_eq_true, Nat.add_sub_cancel, Nat.add_zero, Nat.reduceSub, Nat.reduceAdd, Nat.reduceMul, Nat.reduceEqDiff, Nat.reduceLT, Nat.reduceLeDiff, or_false, false_or, Nat.not_lt_zero]
  · simp (disch := omega) only [m_55, b_55_0, w6, w7, h1, h2, c48, cj, nn_l, nn_o, nn_lt, nn_le, nn_eq, nn_cl, nn_add, nn_sub, if_pos, if_neg, lt_, Option.bind_some, ↓reduceIte, not_true_eq_false, not_false_eq_true, Nat.add_sub_cancel, Nat.add_zero, Nat.reduceSub, Nat.reduceAdd, Nat.reduceMul, Nat.reduceEqDiff, Nat.reduceLT, Nat.reduceLeDiff, or_false, false_or, Nat.not_lt_zero]
theorem m54_run {s e : Nat} {T : Nat → Nat} {J : dJ} (he : e ≤ s) (hE : e < s → ¬ Pl (T e)) : ∀ n i fu I, i + n = e → n < fu → (∀ x, i ≤ x → x < e → Pl (T x)) → Txc s T I → I 18 2 = nn i → b_54_0 fu I J = b_54_44 (sI I 18 2 (nn e)) J := by
  intro n
  induction n with
  | zero =>
    intro i fu I hi hf hP hT h2
    obtain ⟨f, rfl⟩ : ∃ f, fu = f + 1 := ⟨fu - 1, by omega⟩
    have hs := hT.2.1
    have ei : i = e := by omega
    subst ei
    rw [sI_id h2]
    by_cases c : i < s
    · have hc := hT.2.2 i c
      simp (disch := omega) only [b_54_0, hT.1, h2, m48_eq hT (show i < 1000 by omega), ch_in c, m52_f I J (show T i < 1000 by omega) (hE c), nn_l, nn_o, nn_lt, nn_le, nn_eq, nn_cl, nn_add, nn_sub, if_pos, if_neg, lt_, Option.bind_some, ↓reduceIte, not_true_eq_false, not_false_eq_true, Nat.add_sub_cancel, Nat.add_zero, Nat.reduceSub, Nat.reduceAdd, Nat.reduceMul, Nat.reduceEqDiff, Nat.reduceLT, Nat.reduceLeDiff, or_false, false_or, Nat.not_lt_zero]
    · simp (disch := omega) only [b_54_0, hT.1, h2, nn_l, nn_o, nn_lt, nn_le, nn_eq, nn_cl, nn_add, nn_sub, if_pos, if_neg, lt_, Option.bind_some, ↓reduceIte, not_true_eq_false, not_false_eq_true, Nat.add_sub_cancel, Nat.add_zero, Nat.reduceSub, Nat.reduceAdd, Nat.reduceMul, Nat.reduceEqDiff, Nat.reduceLT, Nat.reduceLeDiff, or_false, false_or, Nat.not_lt_zero]
  | succ n ih =>
    intro i fu I hi hf hP hT h2
    obtain ⟨f, rfl⟩ : ∃ f, fu = f + 1 := ⟨fu - 1, by omega⟩
    have hs := hT.2.1
    have q := ih (i + 1) f (sI I 18 2 (nn (i + 1))) (by omega) (by omega) (fun x a b => hP x (by omega) b) (txc_s hT) sI_eq
    rw [sI_sI] at q
    simp (disch := omega) only [b_54_0, hT.1, h2, m48_eq hT (show i < 1000 by omega), ch_in (show i < s by omega), m52_t I J (hP i (by omega) (by omega)), q, nn_l, nn_o, nn_lt, nn_le, nn_eq, nn_cl, nn_add, nn_sub, if_pos, if_neg, lt_, Option.bind_some, ↓reduceIte, not_true_eq_false, not_false_eq_true, Nat.add_sub_cancel, Nat.add_zero, Nat.reduceSub, Nat.reduceAdd, Nat.reduceMul, Nat.reduceEqDiff, Nat.reduceLT, Nat.reduceLeDiff, or_false, false_or, Nat.not_lt_zero]
theorem m50_run {s e : Nat} {T : Nat → Nat} {x1 : Int32} (he : e ≤ s) (hE : e < s → ¬ Pl (T e)) : ∀ n i fu I J, i + n = e → n < fu → (∀ x, i ≤ x → x < e → Pl (T x)) → Txm s T I → I 92 21 = nn i → b_102_50 fu x1 I J = b_102_50 1 x1 (sI I 92 21 (nn e)) J := by
  intro n
  induction n with
  | zero =>
    intro i fu I J hi hf hP hT h2
    obtain ⟨f, rfl⟩ : ∃ f, fu = f + 1 := ⟨fu - 1, by omega⟩
    have hs := hT.2.1
    have ei : i = e := by omega
    subst ei
    rw [sI_id h2]
    have hnp : ¬ Pl (ch s T i) ∧ ch s T i < 1000 := by
      by_cases c : i < s
      · rw [ch_in c]
        have := hT.2.2 i c
        exact ⟨hE c, by omega⟩
      · rw [ch_out (by omega)]
        unfold Pl Dg Lr
        omega
    simp (disch := omega) only [b_102_50, h2, m101_eq hT (show i < 1000 by omega), m103_f I J hnp.2 hnp.1, nn_l, nn_o, nn_lt, nn_le, nn_eq, nn_cl, nn_add, nn_sub, if_pos, if_neg, lt_, Option.bind_some, ↓reduceIte, not_true_eq_false, not_false_eq_true, Nat.add_sub_cancel, Nat.add_zero, Nat.reduceSub, Nat.reduceAdd, Nat.reduceMul, Nat.reduceEqDiff, Nat.reduceLT, Nat.reduceLeDiff, or_false, false_or, Nat.not_lt_zero]
  | succ n ih =>
    intro i fu I J hi hf hP hT h2
    obtain ⟨f, rfl⟩ : ∃ f, fu = f + 1 := ⟨fu - 1, by omega⟩
    have hs := hT.2.1
    have q := ih (i + 1) f (sI I 92 21 (nn (i + 1))) J (by omega) (by omega) (fun x a b => hP x (by omega) b) (txm_s (by omega) hT) sI_eq
    rw [sI_sI] at q
    rw [b_102_50]
    simp (disch := omega) only [h2, m101_eq hT (show i < 1000 by omega), ch_in (show i < s by omega), m103_t I J (hP i (by omega) (by omega)), q, nn_l, nn_o, nn_lt, nn_le, nn_eq, nn_cl, nn_add, nn_sub, if_pos, if_neg, lt_, Option.bind_some, ↓reduceIte, not_true_eq_false, not_false_eq_true, Nat.add_sub_cancel, Nat.add_zero, Nat.reduceSub, Nat.reduceAdd, Nat.reduceMul, Nat.reduceEqDiff, Nat.reduceLT, Nat.reduceLeDiff, or_false, false_or, Nat.not_lt_zero]
