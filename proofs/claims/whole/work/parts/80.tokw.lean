/-! A token that is a word: both sides. -/
theorem l_32 : (32 : Int64) = Int64.ofNat 32 := rfl
theorem b172_lo {v : Nat} {I : dI} {J : dJ} (hv : v < 32) : b_106_172 (nn 1) (Int64.ofNat v) I J = some (sI I 92 22 (nn 2), sJ J 92 27 (Int64.ofNat v)) := by
  simp (disch := omega) only [b_106_172, b_106_354, sJ_eq, lg_ge0, l_32, l_le, nn_l, nn_o, nn_lt, nn_le, nn_eq, nn_cl, nn_add, nn_sub, if_pos, if_neg, lt_, Option.bind_some, ↓reduceIte, not_true_eq_false, not_false_eq_true, Nat.add_sub_cancel, Nat.add_zero, Nat.reduceSub, Nat.reduceAdd, Nat.reduceMul, Nat.reduceEqDiff, Nat.reduceLT, Nat.reduceLeDiff, or_false, false_or, Nat.not_lt_zero]
theorem b172_hi {v : Nat} {I : dI} {J : dJ} (hv : 32 ≤ v) (hv2 : v < 1000) : b_106_172 (nn 1) (Int64.ofNat v) I J = b_106_195 I (sJ J 92 27 (Int64.ofNat v)) := by
  simp (disch := omega) only [b_106_172, sJ_eq, lg_ge0, l_32, l_le, nn_l, nn_o, nn_lt, nn_le, nn_eq, nn_cl, nn_add, nn_sub, if_pos, if_neg, lt_, Option.bind_some, ↓reduceIte, not_true_eq_false, not_false_eq_true, Nat.add_sub_cancel, Nat.add_zero, Nat.reduceSub, Nat.reduceAdd, Nat.reduceMul, Nat.reduceEqDiff, Nat.reduceLT, Nat.reduceLeDiff, or_false, false_or, Nat.not_lt_zero]
theorem b172_0 {x : Int64} {I : dI} {J : dJ} : b_106_172 (nn 0) x I J = b_106_195 I (sJ J 92 27 x) := by
  simp (disch := omega) only [b_106_172, nn_l, nn_o, nn_lt, nn_le, nn_eq, nn_cl, nn_add, nn_sub, if_pos, if_neg, lt_, Option.bind_some, ↓reduceIte, not_true_eq_false, not_false_eq_true, Nat.add_sub_cancel, Nat.add_zero, Nat.reduceSub, Nat.reduceAdd, Nat.reduceMul, Nat.reduceEqDiff, Nat.reduceLT, Nat.reduceLeDiff, or_false, false_or, Nat.not_lt_zero]
theorem b106_2 {s j : Nat} {T : Nat → Nat} {I : dI} {J : dJ} (hT : Txm s T I) (h : j + 1 < s) (h23 : I 92 23 = nn j) (hd : Dg (T (j + 1))) : b_106_101 (nn 2) I J = b_106_172 (nn 1) (Int64.ofNat (T (j + 1) - 48)) I J := by
  have hs := hT.2.1
  have hc := hT.2.2 (j + 1) h
  have hd' := hd
  unfold Dg at hd'
  simp (disch := omega) only [b_106_101, b_106_106, h23, hc.1, nn_long, nn_l, nn_o, nn_lt, nn_le, nn_eq, nn_cl, nn_add, nn_sub, if_pos, if_neg, lt_, Option.bind_some, ↓reduceIte, not_true_eq_false, not_false_eq_true, Nat.add_sub_cancel, Nat.add_zero, Nat.reduceSub, Nat.reduceAdd, Nat.reduceMul, Nat.reduceEqDiff, Nat.reduceLT, Nat.reduceLeDiff, or_false, false_or, Nat.not_lt_zero]
theorem b106_3 {s j : Nat} {T : Nat → Nat} {I : dI} {J : dJ} (hT : Txm s T I) (h : j + 2 < s) (h23 : I 92 23 = nn j) (hd : Dg (T (j + 1))) (hd2 : Dg (T (j + 2))) : b_106_101 (nn 3) I J = b_106_172 (nn 1) (Int64.ofNat (10 * (T (j + 1) - 48) + T (j + 2) - 48)) I J := by
  have hs := hT.2.1
  have hc := hT.2.2 (j + 1) (by omega)
  have hc2 := hT.2.2 (j + 2) h
  have hd' := hd
  have hd2' := hd2
  unfold Dg at hd' hd2'
  simp (disch := omega) only [b_106_101, b_106_106, h23, hc.1, hc2.1, nn_mul, nn_long, nn_l, nn_o, nn_lt, nn_le, nn_eq, nn_cl, nn_add, nn_sub, if_pos, if_neg, lt_, Option.bind_some, ↓reduceIte, not_true_eq_false, not_false_eq_true, Nat.add_sub_cancel, Nat.add_zero, Nat.reduceSub, Nat.reduceAdd, Nat.reduceMul, Nat.reduceEqDiff, Nat.reduceLT, Nat.reduceLeDiff, or_false, false_or, Nat.not_lt_zero]
theorem b106_n {n : Nat} {I : dI} {J : dJ} : b_106_105 (nn n) I J = b_106_195 I (sJ J 92 27 0) := by
  simp (disch := omega) only [b_106_105, b_106_106, b172_0, nn_l, nn_o, nn_lt, nn_le, nn_eq, nn_cl, nn_add, nn_sub, if_pos, if_neg, lt_, Option.bind_some, ↓reduceIte, not_true_eq_false, not_false_eq_true, Nat.add_sub_cancel, Nat.add_zero, Nat.reduceSub, Nat.reduceAdd, Nat.reduceMul, Nat.reduceEqDiff, Nat.reduceLT, Nat.reduceLeDiff, or_false, false_or, Nat.not_lt_zero]
theorem m106_rg {s j e r : Nat} {T : Nat → Nat} {I : dI} {J : dJ} (hT : Txm s T I) (he : e ≤ s) (h21 : I 92 21 = nn e) (h23 : I 92 23 = nn j) (h : Rg T j e r) (hr : r < 32) : m_106 I J = some (sI I 92 22 (nn 2), sJ J 92 27 (Int64.ofNat r)) := by
  have hs := hT.2.1
  obtain ⟨r1, r2⟩ := h
  rcases r2 with ⟨e1, d1, e2⟩ | ⟨e1, d1, z1, d2, e2, e3⟩
  · subst e1
    have hc := hT.2.2 j (by omega)
    have hc1 := hT.2.2 (j + 1) (by omega)
    have q := b106_2 (J := J) hT (show j + 1 < s by omega) h23 d1
    rw [← e2, b172_lo hr] at q
    simp (disch := omega) only [m_106, b_106_0, h21, h23, hc.1, hc1.1, r1, m104_t _ _ d1, q, show j + 2 - j = 2 by omega, nn_l, nn_o, nn_lt, nn_le, nn_eq, nn_cl, nn_add, nn_sub, if_pos, if_neg, lt_, Option.bind_some, ↓reduceIte, not_true_eq_false, not_false_eq_true, Nat.add_sub_cancel, Nat.add_zero, Nat.reduceSub, Nat.reduceAdd, Nat.reduceMul, Nat.reduceEqDiff, Nat.reduceLT, Nat.reduceLeDiff, or_false, false_or, Nat.not_lt_zero]
  · subst e1
    have hc := hT.2.2 j (by omega)
    have hc1 := hT.2.2 (j + 1) (by omega)
    have hc2 := hT.2.2 (j + 2) (by omega)
    have d1' := d1
    unfold Dg at d1'
    have q := b106_3 (J := J) hT (show j + 2 < s by omega) h23 d1 d2
    rw [show 10 * (T (j + 1) - 48) + T (j + 2) - 48 = r by omega, b172_lo hr] at q
    simp (disch := omega) only [m_106, b_106_0, b_106_46, h21, h23, hc.1, hc1.1, hc2.1, r1, m104_t _ _ d1, m104_t _ _ d2, q, show j + 3 - j = 3 by omega, nn_l, nn_o, nn_lt, nn_le, nn_eq, nn_cl, nn_add, nn_sub, if_pos, if_neg, lt_, Option.bind_some, ↓reduceIte, not_true_eq_false, not_false_eq_true, Nat.add_sub_cancel, Nat.add_zero, Nat.reduceSub, Nat.reduceAdd, Nat.reduceMul, Nat.reduceEqDiff, Nat.reduceLT, Nat.reduceLeDiff, or_false, false_or, Nat.not_lt_zero]
theorem m106_no {s j e : Nat} {T : Nat → Nat} {I : dI} {J : dJ} (hT : Txm s T I) (hj : j < e) (he : e ≤ s) (h21 : I 92 21 = nn e) (h23 : I 92 23 = nn j) (h : ¬ ∃ r, Rg T j e r) : ∃ x, m_106 I J = b_106_195 I (sJ J 92 27 x) := by
  have hs := hT.2.1
  have hc := hT.2.2 j (by omega)
  obtain ⟨l, el⟩ : ∃ l, e = j + l := ⟨e - j, by omega⟩
  subst el
  have ej : j + l - j = l := by omega
  by_cases c1 : T j = 120
  · by_cases c2 : l = 2
    · subst c2
      have hc1 := hT.2.2 (j + 1) (by omega)
      have c3 : ¬ Dg (T (j + 1)) := fun d => h ⟨_, c1, Or.inl ⟨rfl, d, rfl⟩⟩
      refine ⟨0, ?_⟩
      simp (disch := omega) only [m_106, b_106_0, b_106_46, b106_n, h21, h23, hc.1, hc1.1, c1, m104_f _ _ (show T (j + 1) < 1000 by omega) c3, ej, nn_l, nn_o, nn_lt, nn_le, nn_eq, nn_cl, nn_add, nn_sub, if_pos, if_neg, lt_, Option.bind_some, ↓reduceIte, not_true_eq_false, not_false_eq_true, Nat.add_sub_cancel, Nat.add_zero, Nat.reduceSub, Nat.reduceAdd, Nat.reduceMul, Nat.reduceEqDiff, Nat.reduceLT, Nat.reduceLeDiff, or_false, false_or, Nat.not_lt_zero]
    · by_cases c4 : l = 3
      · subst c4
        have hc1 := hT.2.2 (j + 1) (by omega)
        have hc2 := hT.2.2 (j + 2) (by omega)
        by_cases c5 : Dg (T (j + 1))
        · have c5' := c5
          unfold Dg at c5'
          by_cases c6 : T (j + 1) ≤ 48
          · refine ⟨0, ?_⟩
            simp (disch := omega) only [m_106, b_106_0, b_106_46, b106_n, h21, h23, hc.1, hc1.1, c1, m104_t _ _ c5, ej, nn_l, nn_o, nn_lt, nn_le, nn_eq, nn_cl, nn_add, nn_sub, if_pos, if_neg, lt_, Option.bind_some, ↓reduceIte, not_true_eq_false, not_false_eq_true, Nat.add_sub_cancel, Nat.add_zero, Nat.reduceSub, Nat.reduceAdd, Nat.reduceMul, Nat.reduceEqDiff, Nat.reduceLT, Nat.reduceLeDiff, or_false, false_or, Nat.not_lt_zero]
          · by_cases c7 : Dg (T (j + 2))
            · have c7' := c7
              unfold Dg at c7'
              have q := b106_3 (J := J) hT (show j + 2 < s by omega) h23 c5 c7
              have c8 : 32 ≤ 10 * (T (j + 1) - 48) + T (j + 2) - 48 := by
                refine Classical.byContradiction fun x => h ⟨_, c1, Or.inr ⟨rfl, c5, by omega, c7, rfl, by omega⟩⟩
              rw [b172_hi c8 (by omega)] at q
              refine ⟨Int64.ofNat (10 * (T (j + 1) - 48) + T (j + 2) - 48), ?_⟩
              simp (disch := omega) only [m_106, b_106_0, b_106_46, h21, h23, hc.1, hc1.1, hc2.1, c1, m104_t _ _ c5, m104_t _ _ c7, q, ej, nn_l, nn_o, nn_lt, nn_le, nn_eq, nn_cl, nn_add, nn_sub, if_pos, if_neg, lt_, Option.bind_some, ↓reduceIte, not_true_eq_false, not_false_eq_true, Nat.add_sub_cancel, Nat.add_zero, Nat.reduceSub, Nat.reduceAdd, Nat.reduceMul, Nat.reduceEqDiff, Nat.reduceLT, Nat.reduceLeDiff, or_false, false_or, Nat.not_lt_zero]
            · refine ⟨0, ?_⟩
              simp (disch := omega) only [m_106, b_106_0, b_106_46, b106_n, h21, h23, hc.1, hc1.1, hc2.1, c1, m104_t _ _ c5, m104_f _ _ (show T (j + 2) < 1000 by omega) c7, ej, nn_l, nn_o, nn_lt, nn_le, nn_eq, nn_cl, nn_add, nn_sub, if_pos, if_neg, lt_, Option.bind_some, ↓reduceIte, not_true_eq_false, not_false_eq_true, Nat.add_sub_cancel, Nat.add_zero, Nat.reduceSub, Nat.reduceAdd, Nat.reduceMul, Nat.reduceEqDiff, Nat.reduceLT, Nat.reduceLeDiff, or_false, false_or, Nat.not_lt_zero]
        · refine ⟨0, ?_⟩
          simp (disch := omega) only [m_106, b_106_0, b_106_46, b106_n, h21, h23, hc.1, hc1.1, c1, m104_f _ _ (show T (j + 1) < 1000 by omega) c5, ej, nn_l, nn_o, nn_lt, nn_le, nn_eq, nn_cl, nn_add, nn_sub, if_pos, if_neg, lt_, Option.bind_some, ↓reduceIte, not_true_eq_false, not_false_eq_true, Nat.add_sub_cancel, Nat.add_zero, Nat.reduceSub, Nat.reduceAdd, Nat.reduceMul, Nat.reduceEqDiff, Nat.reduceLT, Nat.reduceLeDiff, or_false, false_or, Nat.not_lt_zero]
      · refine ⟨0, ?_⟩
        simp (disch := omega) only [m_106, b_106_0, b_106_46, b106_n, h21, h23, hc.1, c1, ej, nn_l, nn_o, nn_lt, nn_le, nn_eq, nn_cl, nn_add, nn_sub, if_pos, if_neg, lt_, Option.bind_some, ↓reduceIte, not_true_eq_false, not_false_eq_true, Nat.add_sub_cancel, Nat.add_zero, Nat.reduceSub, Nat.reduceAdd, Nat.reduceMul, Nat.reduceEqDiff, Nat.reduceLT, Nat.reduceLeDiff, or_false, false_or, Nat.not_lt_zero]
  · refine ⟨0, ?_⟩
    simp (disch := omega) only [m_106, b_106_0, b106_n, h21, h23, hc.1, ej, nn_l, nn_o, nn_lt, nn_le, nn_eq, nn_cl, nn_add, nn_sub, if_pos, if_neg, lt_, Option.bind_some, ↓reduceIte, not_true_eq_false, not_false_eq_true, Nat.add_sub_cancel, Nat.add_zero, Nat.reduceSub, Nat.reduceAdd, Nat.reduceMul, Nat.reduceEqDiff, Nat.reduceLT, Nat.reduceLeDiff, or_false, false_or, Nat.not_lt_zero]
/-- which of the words -/
def Wk (T : Nat → Nat) (j e κ : Nat) : Prop := (Wd T j e wPc ∧ κ = 3) ∨ (¬ Wd T j e wPc ∧ Wd T j e wPid ∧ κ = 4) ∨ (¬ Wd T j e wPc ∧ ¬ Wd T j e wPid ∧ ((Wd T j e wCount ∧ κ = 5) ∨ (¬ Wd T j e wCount ∧ Wd T j e wByte ∧ κ = 6) ∨ (¬ Wd T j e wCount ∧ ¬ Wd T j e wByte ∧ Wd T j e wHalf ∧ κ = 7) ∨ (¬ Wd T j e wCount ∧ ¬ Wd T j e wByte ∧ ¬ Wd T j e wHalf ∧ Wd T j e wOld ∧ κ = 8) ∨ (¬ Wd T j e wCount ∧ ¬ Wd T j e wByte ∧ ¬ Wd T j e wHalf ∧ ¬ Wd T j e wOld ∧ Wd T j e wChg ∧ κ = 9) ∨ (¬ Wd T j e wCount ∧ ¬ Wd T j e wByte ∧ ¬ Wd T j e wHalf ∧ ¬ Wd T j e wOld ∧ ¬ Wd T j e wChg ∧ κ = 0)))
theorem wk_ex (T : Nat → Nat) (j e : Nat) : ∃ κ, Wk T j e κ := by
  by_cases a1 : Wd T j e wPc
  · exact ⟨3, Or.inl ⟨a1, rfl⟩⟩
  by_cases a2 : Wd T j e wPid
  · exact ⟨4, Or.inr (Or.inl ⟨a1, a2, rfl⟩)⟩
  by_cases a3 : Wd T j e wCount
  · exact ⟨5, Or.inr (Or.inr ⟨a1, a2, Or.inl ⟨a3, rfl⟩⟩)⟩
  by_cases a4 : Wd T j e wByte
  · exact ⟨6, Or.inr (Or.inr ⟨a1, a2, Or.inr (Or.inl ⟨a3, a4, rfl⟩)⟩)⟩
  by_cases a5 : Wd T j e wHalf
  · exact ⟨7, Or.inr (Or.inr ⟨a1, a2, Or.inr (Or.inr (Or.inl ⟨a3, a4, a5, rfl⟩))⟩)⟩
  by_cases a6 : Wd T j e wOld
  · exact ⟨8, Or.inr (Or.inr ⟨a1, a2, Or.inr (Or.inr (Or.inr (Or.inl ⟨a3, a4, a5, a6, rfl⟩)))⟩)⟩
  by_cases a7 : Wd T j e wChg
  · exact ⟨9, Or.inr (Or.inr ⟨a1, a2, Or.inr (Or.inr (Or.inr (Or.inr (Or.inl ⟨a3, a4, a5, a6, a7, rfl⟩))))⟩)⟩
  · exact ⟨0, Or.inr (Or.inr ⟨a1, a2, Or.inr (Or.inr (Or.inr (Or.inr (Or.inr ⟨a3, a4, a5, a6, a7, rfl⟩))))⟩)⟩
theorem b195_eq {s j e κ : Nat} {T : Nat → Nat} {I : dI} {J : dJ} (hT : Txm s T I) (hj : j < e) (he : e ≤ s) (h21 : I 92 21 = nn e) (h23 : I 92 23 = nn j) (hW : Wk T j e κ) : b_106_195 I J = some (sI I 92 22 (nn κ), J) := by
  have w1 := m107_eq (J := J) (N := 25456) (ws := wPc) hT he hj (by omega) (by decide) wl_pc (by decide)
  have w2 := m107_eq (J := J) (N := 6580592) (ws := wPid) hT he hj (by omega) (by decide) wl_pid (by decide)
  have w3 := m107_eq (J := J) (N := 500069396323) (ws := wCount) hT he hj (by omega) (by decide) wl_count (by decide)
  have w4 := m107_eq (J := J) (N := 1702132066) (ws := wByte) hT he hj (by omega) (by decide) wl_byte (by decide)
  have w5 := m107_eq (J := J) (N := 1718378856) (ws := wHalf) hT he hj (by omega) (by decide) wl_half (by decide)
  have w6 := m107_eq (J := J) (N := 6581359) (ws := wOld) hT he hj (by omega) (by decide) wl_old (by decide)
  have w7 := m107_eq (J := J) (N := 28258992578979939) (ws := wChg) hT he hj (by omega) (by decide) wl_chg (by decide)
  have z0 : ¬ nn 1 = 0 := by decide
  have z1 : nn 0 = 0 := rfl
  unfold b_106_195
  rw [h21, h23]
  rcases hW with ⟨a1, k⟩ | ⟨a1, a2, k⟩ | ⟨a1, a2, hW⟩
  · subst k
    rw [show (25456 : Int64) = Int64.ofNat 25456 from rfl, w1.1 a1, Option.bind_some, if_neg z0]
    rfl
  · subst k
    rw [show (25456 : Int64) = Int64.ofNat 25456 from rfl, w1.2 a1, Option.bind_some, if_pos z1, show (6580592 : Int64) = Int64.ofNat 6580592 from rfl, w2.1 a2, Option.bind_some, if_neg z0]
    rfl
  · rw [show (25456 : Int64) = Int64.ofNat 25456 from rfl, w1.2 a1, Option.bind_some, if_pos z1, show (6580592 : Int64) = Int64.ofNat 6580592 from rfl, w2.2 a2, Option.bind_some, if_pos z1, show (500069396323 : Int64) = Int64.ofNat 500069396323 from rfl]
    rcases hW with ⟨a3, k⟩ | ⟨a3, a4, k⟩ | ⟨a3, a4, a5, k⟩ | ⟨a3, a4, a5, a6, k⟩ | ⟨a3, a4, a5, a6, a7, k⟩ | ⟨a3, a4, a5, a6, a7, k⟩
    · subst k
      rw [w3.1 a3, Option.bind_some, if_neg z0]
      rfl
    · subst k
      rw [w3.2 a3, Option.bind_some, if_pos z1, show (1702132066 : Int64) = Int64.ofNat 1702132066 from rfl, w4.1 a4, Option.bind_some, if_neg z0]
      rfl
    · subst k
      rw [w3.2 a3, Option.bind_some, if_pos z1, show (1702132066 : Int64) = Int64.ofNat 1702132066 from rfl, w4.2 a4, Option.bind_some, if_pos z1, show (1718378856 : Int64) = Int64.ofNat 1718378856 from rfl, w5.1 a5, Option.bind_some, if_neg z0]
      rfl
    · subst k
      rw [w3.2 a3, Option.bind_some, if_pos z1, show (1702132066 : Int64) = Int64.ofNat 1702132066 from rfl, w4.2 a4, Option.bind_some, if_pos z1, show (1718378856 : Int64) = Int64.ofNat 1718378856 from rfl, w5.2 a5, Option.bind_some, if_pos z1, show (6581359 : Int64) = Int64.ofNat 6581359 from rfl, w6.1 a6, Option.bind_some, if_neg z0]
      rfl
    · subst k
      rw [w3.2 a3, Option.bind_some, if_pos z1, show (1702132066 : Int64) = Int64.ofNat 1702132066 from rfl, w4.2 a4, Option.bind_some, if_pos z1, show (1718378856 : Int64) = Int64.ofNat 1718378856 from rfl, w5.2 a5, Option.bind_some, if_pos z1, show (6581359 : Int64) = Int64.ofNat 6581359 from rfl, w6.2 a6, Option.bind_some, if_pos z1, show (28258992578979939 : Int64) = Int64.ofNat 28258992578979939 from rfl, w7.1 a7, Option.bind_some, if_neg z0]
      rfl
    · subst k
      rw [w3.2 a3, Option.bind_some, if_pos z1, show (1702132066 : Int64) = Int64.ofNat 1702132066 from rfl, w4.2 a4, Option.bind_some, if_pos z1, show (1718378856 : Int64) = Int64.ofNat 1718378856 from rfl, w5.2 a5, Option.bind_some, if_pos z1, show (6581359 : Int64) = Int64.ofNat 6581359 from rfl, w6.2 a6, Option.bind_some, if_pos z1, show (28258992578979939 : Int64) = Int64.ofNat 28258992578979939 from rfl, w7.2 a7, Option.bind_some, if_pos z1]
      rfl
theorem m57_eq {s j e κ kc : Nat} {T : Nat → Nat} {I : dI} {J : dJ} (hT : Txc s T I) (hj : j < e) (he : e ≤ s) (h1 : I 18 1 = nn j) (h2 : I 18 2 = nn e) (hW : (Wd T j e wCount ∧ κ = 5) ∨ (¬ Wd T j e wCount ∧ Wd T j e wByte ∧ κ = 6) ∨ (¬ Wd T j e wCount ∧ ¬ Wd T j e wByte ∧ Wd T j e wHalf ∧ κ = 7) ∨ (¬ Wd T j e wCount ∧ ¬ Wd T j e wByte ∧ ¬ Wd T j e wHalf ∧ Wd T j e wOld ∧ κ = 8) ∨ (¬ Wd T j e wCount ∧ ¬ Wd T j e wByte ∧ ¬ Wd T j e wHalf ∧ ¬ Wd T j e wOld ∧ Wd T j e wChg ∧ κ = 9) ∨ (¬ Wd T j e wCount ∧ ¬ Wd T j e wByte ∧ ¬ Wd T j e wHalf ∧ ¬ Wd T j e wOld ∧ ¬ Wd T j e wChg ∧ κ = 0)) (hk : kc = if κ = 0 then 2 else κ) : m_57 I J = some (nn kc) := by
  have z0 : ¬ nn 1 = 0 := by decide
  have z1 : nn 0 = 0 := rfl
  have hje := Nat.le_of_lt hj
  have w3 := fun a => m56_n (J := J) sb_8 wl_count hT h1 h2 hje he a
  have w4 := fun a => m56_n (J := J) sb_9 wl_byte hT h1 h2 hje he a
  have w5 := fun a => m56_n (J := J) sb_10 wl_half hT h1 h2 hje he a
  have w6 := fun a => m56_n (J := J) sb_11 wl_old hT h1 h2 hje he a
  have w7 := fun a => m56_n (J := J) sb_12 wl_chg hT h1 h2 hje he a
  unfold m_57 b_57_0
  rcases hW with ⟨a3, k⟩ | ⟨a3, a4, k⟩ | ⟨a3, a4, a5, k⟩ | ⟨a3, a4, a5, a6, k⟩ | ⟨a3, a4, a5, a6, a7, k⟩ | ⟨a3, a4, a5, a6, a7, k⟩
  · subst k
    subst hk
    rw [m56_y sb_8 hT h1 h2 he a3, Option.bind_some, if_neg z0]
    rfl
  · subst k
    subst hk
    rw [w3 a3, Option.bind_some, if_pos z1, m56_y sb_9 hT h1 h2 he a4, Option.bind_some, if_neg z0]
    rfl
  · subst k
    subst hk
    rw [w3 a3, Option.bind_some, if_pos z1, w4 a4, Option.bind_some, if_pos z1, m56_y sb_10 hT h1 h2 he a5, Option.bind_some, if_neg z0]
    rfl
  · subst k
    subst hk
    rw [w3 a3, Option.bind_some, if_pos z1, w4 a4, Option.bind_some, if_pos z1, w5 a5, Option.bind_some, if_pos z1, m56_y sb_11 hT h1 h2 he a6, Option.bind_some, if_neg z0]
    rfl
  · subst k
    subst hk
    rw [w3 a3, Option.bind_some, if_pos z1, w4 a4, Option.bind_some, if_pos z1, w5 a5, Option.bind_some, if_pos z1, w6 a6, Option.bind_some, if_pos z1, m56_y sb_12 hT h1 h2 he a7, Option.bind_some, if_neg z0]
    rfl
  · subst k
    subst hk
    rw [w3 a3, Option.bind_some, if_pos z1, w4 a4, Option.bind_some, if_pos z1, w5 a5, Option.bind_some, if_pos z1, w6 a6, Option.bind_some, if_pos z1, w7 a7, Option.bind_some, if_pos z1]
    rfl
theorem b44_reg {r : Nat} {I : dI} {J : dJ} (hr : r < 1000) (h : m_55 I J = some (nn r)) : b_54_44 I J = some (sI I 18 3 (nn 4), sJ J 18 4 (Int64.ofNat r)) := by
  simp (disch := omega) only [b_54_44, h, nn_long, nn_l, nn_o, nn_lt, nn_le, nn_eq, nn_cl, nn_add, nn_sub, if_pos, if_neg, lt_, Option.bind_some, ↓reduceIte, not_true_eq_false, not_false_eq_true, Nat.add_sub_cancel, Nat.add_zero, Nat.reduceSub, Nat.reduceAdd, Nat.reduceMul, Nat.reduceEqDiff, Nat.reduceLT, Nat.reduceLeDiff, or_false, false_or, Nat.not_lt_zero]
theorem b44_kw {kc : Nat} {I : dI} {J : dJ} (h : m_55 I J = some (-(nn 1))) (h2 : m_57 I J = some (nn kc)) : b_54_44 I J = some (sI I 18 3 (nn kc), J) := by
  simp (disch := omega) only [b_54_44, h, h2, nn_m1, nn_l, nn_o, nn_lt, nn_le, nn_eq, nn_cl, nn_add, nn_sub, if_pos, if_neg, lt_, Option.bind_some, ↓reduceIte, not_true_eq_false, not_false_eq_true, Nat.add_sub_cancel, Nat.add_zero, Nat.reduceSub, Nat.reduceAdd, Nat.reduceMul, Nat.reduceEqDiff, Nat.reduceLT, Nat.reduceLeDiff, or_false, false_or, Nat.not_lt_zero]
theorem tok_word {s j : Nat} {T : Nat → Nat} (hs : s ≤ 120) (hR : ∀ i, i < s → 32 ≤ T i ∧ T i ≤ 126) (hj : j < s) (hn : T j ≠ 32) (hd : ¬ Dg (T j)) (hl : Lr (T j)) : Tok s T j := by
  obtain ⟨e, e1, e2, e3, e4⟩ := runs s T (s - j) j (by omega)
  obtain ⟨F, hF, hF2⟩ : ∃ F, FU = F ∧ 2000 < F := ⟨5000, rfl, by decide⟩
  have hc := hR j hj
  have hje : j < e := by
    refine Classical.byContradiction fun c => ?_
    have : e = j := by omega
    subst this
    exact e4 hj (Or.inr hl)
  have hm : ∀ I J, Txm s T I → I 92 21 = nn j → m_102 I J = m_106 (M5 I j e) J := by
    intro I J hT h21
    rw [m102_pl hT hje e2 h21 e3 e4, m104_f _ _ (by omega) hd, Option.bind_some, if_pos (show nn 0 = 0 from rfl)]
  have hcl : ∀ I J i, Txc s T I → I 18 2 = nn i → i ≤ j → (∀ x, i ≤ x → x < j → T x = 32) → m_46 I J = b_54_44 (sI (S3 I j) 18 2 (nn e)) (sJ J 18 4 0) := by
    intro I J i hT h18 hij hb
    rw [m46_word hT h18 hij hj hb hn hd hl]
    show b_54_0 FU (S3 I j) (sJ J 18 4 0) = _
    rw [hF]
    exact m54_run e2 e4 (e - j) j F (S3 I j) (by omega) (by omega) e3 (s3_t hT) s3_2
  have hct : ∀ I, Txc s T I → Txc s T (sI (S3 I j) 18 2 (nn e)) := fun I hT => txc_s (s3_t hT)
  have hc1 : ∀ I : dI, (sI (S3 I j) 18 2 (nn e)) 18 1 = nn j := fun I => by rw [sI_nk (by omega)]; exact s3_1
  have fin : ∀ kc v κ w, (∀ I J, Txc s T I → ∃ J', b_54_44 (sI (S3 I j) 18 2 (nn e)) (sJ J 18 4 0) = some (sI (sI (S3 I j) 18 2 (nn e)) 18 3 (nn kc), J') ∧ J' 18 4 = v ∧ ∀ q, q ≠ 18 → J' q = J q) → (∀ I J, Txm s T I → ∃ J', m_106 (M5 I j e) J = some (sI (M5 I j e) 92 22 (nn κ), J') ∧ OS I J I J' ∧ (κ = 1 ∨ κ = 2 → J' 92 27 = w)) → kc ≠ 1 → κ ≠ 34 → TR kc v κ w → Tok s T j := by
    intro kc v κ w h1 h2 h3 h4 h5
    refine ⟨kc, v, κ, w, e, ?_, ?_, Or.inr ⟨h3, h4, hje, e2, h5⟩⟩
    · intro I J i hT h18 hij hb
      obtain ⟨J', q1, q2, q3⟩ := h1 I J hT
      refine ⟨sI (sI (S3 I j) 18 2 (nn e)) 18 3 (nn kc), J', by rw [hcl I J i hT h18 hij hb]; exact q1, ⟨fun q hq => ⟨?_, q3 q hq⟩, ?_, sI_eq, fun _ => ⟨?_, q2⟩⟩⟩
      · rw [sI_ne hq, sI_ne hq, S3, sI_ne hq, sI_ne hq]
      · rw [sI_nk (by omega)]; exact hc1 I
      · rw [sI_nk (by omega), sI_eq]
    · intro I J hT h21
      obtain ⟨J', q1, q2, q3⟩ := h2 I J hT
      refine ⟨sI (M5 I j e) 92 22 (nn κ), J', by rw [hm I J hT h21]; exact q1, ?_, ?_, sI_eq, fun _ => ?_, q3⟩
      · have o := os_s (k := 22) (v := nn κ) (mtk_os (I := I) (J := J) (j := j) (e := e)) (by omega)
        exact ⟨fun q hq => ⟨(o.1 q hq).1, (q2.1 q hq).2⟩, o.2.1, q2.2.2⟩
      · rw [sI_nk (by omega), m5_23]
      · rw [sI_nk (by omega), m5_21]
  have jne : ∀ (J : dJ) (v : Int64), ∀ q, q ≠ 18 → (sJ (sJ J 18 4 0) 18 4 v) q = J q := fun J v q hq => by rw [sJ_ne hq, sJ_ne hq]
  have jne0 : ∀ (J : dJ), ∀ q, q ≠ 18 → (sJ J 18 4 0) q = J q := fun J q hq => by rw [sJ_ne hq]
  by_cases hr : ∃ r, Rg T j e r
  · obtain ⟨r, hr⟩ := hr
    have hr32 : r < 32 := by
      rcases hr.2 with ⟨_, d1, e5⟩ | ⟨_, _, _, _, _, e5⟩
      · unfold Dg at d1; omega
      · exact e5
    refine fin 4 (Int64.ofNat r) 2 (Int64.ofNat r) (fun I J hT => ⟨_, b44_reg (by omega) (m55_rg (hct I hT) (hc1 I) sI_eq hje e2 hr).1, sJ_eq, jne J _⟩) (fun I J hT => ⟨_, m106_rg (m5_t hT) e2 m5_21 m5_23 hr hr32, os_j (os_r I J), fun _ => sJ_eq⟩) (by omega) (by omega) (Or.inr (Or.inr (Or.inl ⟨rfl, rfl, rfl, r, hr32, rfl⟩)))
  · obtain ⟨κ, hW⟩ := wk_ex T j e
    have hmod : κ ≠ 1 → κ ≠ 2 → ∀ I J, Txm s T I → ∃ J', m_106 (M5 I j e) J = some (sI (M5 I j e) 92 22 (nn κ), J') ∧ OS I J I J' ∧ (κ = 1 ∨ κ = 2 → J' 92 27 = 0) := by
      intro k1 k2 I J hT
      obtain ⟨x, hx⟩ := m106_no (J := J) (m5_t (j := j) (e := e) hT) hje e2 m5_21 m5_23 hr
      refine ⟨sJ J 92 27 x, ?_, os_j (os_r I J), fun h => by omega⟩
      rw [hx, b195_eq (m5_t hT) hje e2 m5_21 m5_23 hW]
    have hW' := hW
    rcases hW with ⟨a1, k⟩ | ⟨a1, a2, k⟩ | ⟨a1, a2, hW⟩
    · refine fin 4 (Int64.ofNat 32) κ 0 (fun I J hT => ⟨_, b44_reg (by omega) (m55_pc (hct I hT) (hc1 I) sI_eq e2 a1), sJ_eq, jne J _⟩) (hmod (by omega) (by omega)) (by omega) (by omega) (Or.inr (Or.inr (Or.inr (Or.inl ⟨rfl, k, rfl⟩))))
    · refine fin 4 (Int64.ofNat 33) κ 0 (fun I J hT => ⟨_, b44_reg (by omega) (m55_pid (hct I hT) (hc1 I) sI_eq hje e2 a1 a2), sJ_eq, jne J _⟩) (hmod (by omega) (by omega)) (by omega) (by omega) (Or.inr (Or.inr (Or.inr (Or.inr (Or.inl ⟨rfl, k, rfl⟩)))))
    · have kb : κ = 0 ∨ (5 ≤ κ ∧ κ ≤ 9) := by
        rcases hW with ⟨_, k⟩ | ⟨_, _, k⟩ | ⟨_, _, _, k⟩ | ⟨_, _, _, _, k⟩ | ⟨_, _, _, _, _, k⟩ | ⟨_, _, _, _, _, k⟩ <;> omega
      refine fin (if κ = 0 then 2 else κ) 0 κ 0 (fun I J hT => ⟨_, b44_kw (m55_no (hct I hT) (hc1 I) sI_eq hje e2 a1 a2 hr) (m57_eq (hct I hT) hje e2 (hc1 I) sI_eq hW rfl), sJ_eq, jne0 J⟩) (hmod (by omega) (by omega)) (by split <;> omega) (by omega) ?_
      rcases kb with kb | kb
      · exact Or.inl ⟨by rw [if_pos kb], kb⟩
      · exact Or.inr (Or.inr (Or.inr (Or.inr (Or.inr (Or.inl ⟨by rw [if_neg (by omega)], by rw [if_neg (by omega)]; omega, by rw [if_neg (by omega)]; omega⟩)))))
theorem tok_all {s j : Nat} {T : Nat → Nat} (hs : s ≤ 120) (hR : ∀ i, i < s → 32 ≤ T i ∧ T i ≤ 126) (hj : j < s) (hn : T j ≠ 32) : Tok s T j := by
  by_cases hd : Dg (T j)
  · exact tok_num hs hR hj hn hd
  · by_cases hl : Lr (T j)
    · exact tok_word hs hR hj hn hd hl
    · exact tok_sg hR hj hn hd hl
