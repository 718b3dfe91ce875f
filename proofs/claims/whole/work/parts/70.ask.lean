/-! Asking: the class's side, the reference's side. -/
theorem work_m {k n a b g : Nat} {Im : dI} {Jm : dJ} {v : Int64} {e : Int32} (h : MR (nn k) Im Jm n a b v e g) (hn : n ≤ 60) (hab : b - a ≤ 600) : ∃ I' J', m_120 (nn k) (nn a) (nn b) Im Jm = some ((if e = nn 0 then v else 0), I', J') ∧ Ag Im Jm I' J' ∧ I' 92 33 = Im 92 33 + nn g ∧ I' 92 34 = e := by
  obtain ⟨t, I', J', q1, q2, q3, q4, q5, q6, q7⟩ := h 0 (bg (sI (sI Im 92 34 (nn 0)) 92 32 (nn 0)) 0 a b) Jm (by omega) (bg_ag (ag_I (ag_I (ag_rf Im Jm) (by omega)) (by omega))) bg_top (by rw [bg_92 (by omega), sI_nk (by omega), sI_eq])
  have h32 : I' 92 32 = nn 0 := by
    by_cases he : e = nn 0
    · exact (q6 he).1
    · exact (q7 he).1
  obtain ⟨F, hF, hF2⟩ : ∃ F, FU = F ∧ 2000 < F := ⟨5000, rfl, by decide⟩
  have hl := its_loop (fu := F) (u := 0) q2 h32 (by omega) (by omega)
  have hbg := bg_ok (I := sI (sI Im 92 34 (nn 0)) 92 32 (nn 0)) (f := 0) (a := a) (b := b) Jm sI_eq (by omega)
  refine ⟨I', J', ?_, q3, by rw [q5, bg_92 (by omega), sI_nk (by omega), sI_nk (by omega)], ?_⟩
  · unfold m_120 b_120_0
    rw [hF]
    simp only [lt_, nn_l, hbg, Option.bind_some, hl]
    by_cases he : e = nn 0
    · rw [(q6 he).2.1, if_pos he]
    · rw [(q7 he).2.1, if_neg he]
  · by_cases he : e = nn 0
    · rw [(q6 he).2.2, he]
    · exact (q7 he).2.2
def AgP (p : Nat) (J J' : dJ) : Prop := ∀ q, q ≠ p + 7 → J' q = J q
theorem rem_c {p sz : Nat} {I : dI} {J : dJ} (hz : I (p + 1) 4 = nn sz) (hs : sz ≤ 40) (H : ∀ n J1, n < sz → AgP p J J1 → (I (p + 1 + 1) n = nn 8 ∨ I (p + 1 + 1) n = nn 9) → ∃ c v e g, I (p + 1 + 2) n = nn c ∧ c < n ∧ CR p I J1 c v e g) : ∀ d i fu x y J1, i + d = sz → d < fu → AgP p J J1 → ∃ x' y' J2, b_36_2 p fu (nn i) (wI I p x y) J1 = b_36_86 p (wI I p x' y') J2 ∧ AgP p J J2 ∧ (∀ n, n < i → J2 (p + 7) n = J1 (p + 7) n) ∧ ∀ n, i ≤ n → n < sz → (I (p + 1 + 1) n = nn 8 ∨ I (p + 1 + 1) n = nn 9) → ∃ J3 c v e g, AgP p J J3 ∧ I (p + 1 + 2) n = nn c ∧ c < n ∧ CR p I J3 c v e g ∧ J2 (p + 7) n = if e = nn 0 then v else 0 := by
  intro d
  induction d with
  | zero =>
    intro i fu x y J1 hi hf hA
    obtain ⟨f, rfl⟩ : ∃ f, fu = f + 1 := ⟨fu - 1, by omega⟩
    refine ⟨x, y, J1, ?_, hA, fun _ _ => rfl, fun n a b => by omega⟩
    by_cases c : 40 ≤ i
    · simp (disch := omega) only [b_36_2, nn_l, nn_o, nn_lt, nn_le, nn_eq, nn_cl, nn_add, nn_sub, if_pos, if_neg, lt_, Option.bind_some, ↓reduceIte, not_true_eq_false, not_false_eq_true, Nat.add_sub_cancel, Nat.add_zero, Nat.reduceSub, Nat.reduceAdd, Nat.reduceMul, Nat.reduceEqDiff, Nat.reduceLT, Nat.reduceLeDiff, or_false, false_or, Nat.not_lt_zero]
    · simp (disch := omega) only [b_36_2, wI_ne, hz, nn_l, nn_o, nn_lt, nn_le, nn_eq, nn_cl, nn_add, nn_sub, if_pos, if_neg, lt_, Option.bind_some, ↓reduceIte, not_true_eq_false, not_false_eq_true, Nat.add_sub_cancel, Nat.add_zero, Nat.reduceSub, Nat.reduceAdd, Nat.reduceMul, Nat.reduceEqDiff, Nat.reduceLT, Nat.reduceLeDiff, or_false, false_or, Nat.not_lt_zero]
  | succ d ih =>
    intro i fu x y J1 hi hf hA
    obtain ⟨f, rfl⟩ : ∃ f, fu = f + 1 := ⟨fu - 1, by omega⟩
    by_cases h89 : I (p + 1 + 1) i = nn 8 ∨ I (p + 1 + 1) i = nn 9
    · obtain ⟨c, v, e, g, c1, c2, c3⟩ := H i J1 (by omega) hA h89
      have c4 : ∀ x, wkF p (nn c) (nn 1) (wI I p x (nn 0)) J1 = some (v, wI I p (x + nn g) e, J1) := fun x => c3 60 1 x (by omega) (by omega)
      have hst : b_36_2 p (f + 1) (nn i) (wI I p x y) J1 = b_36_2 p f (nn (i + 1)) (wI I p (x + nn g) e) (sJ J1 (p + 7) i (if e = nn 0 then v else 0)) := by
        by_cases he : e = nn 0
        · subst he
          rcases h89 with h | h <;> simp (disch := omega) only [b_36_2, b_36_43, b_36_79, b_36_80, m_17, b_17_0, m_21, b_21_0, wI_ne, wI_6, wI_s6, hz, h, c1, c4, not_true_eq_false, ↓reduceIte, nn_l, nn_o, nn_lt, nn_le, nn_eq, nn_cl, nn_add, nn_sub, if_pos, if_neg, lt_, Option.bind_some, ↓reduceIte, not_true_eq_false, not_false_eq_true, Nat.add_sub_cancel, Nat.add_zero, Nat.reduceSub, Nat.reduceAdd, Nat.reduceMul, Nat.reduceEqDiff, Nat.reduceLT, Nat.reduceLeDiff, or_false, false_or, Nat.not_lt_zero]
        · rcases h89 with h | h <;> simp (disch := omega) only [b_36_2, b_36_43, b_36_79, b_36_80, m_17, b_17_0, m_21, b_21_0, wI_ne, wI_6, wI_s6, hz, h, c1, c4, he, not_false_eq_true, ↓reduceIte, nn_l, nn_o, nn_lt, nn_le, nn_eq, nn_cl, nn_add, nn_sub, if_pos, if_neg, lt_, Option.bind_some, ↓reduceIte, not_true_eq_false, not_false_eq_true, Nat.add_sub_cancel, Nat.add_zero, Nat.reduceSub, Nat.reduceAdd, Nat.reduceMul, Nat.reduceEqDiff, Nat.reduceLT, Nat.reduceLeDiff, or_false, false_or, Nat.not_lt_zero]
      have hA2 : AgP p J (sJ J1 (p + 7) i (if e = nn 0 then v else 0)) := fun q hq => by
        rw [sJ_ne hq]
        exact hA q hq
      obtain ⟨x', y', J2, q1, q2, q3, q4⟩ := ih (i + 1) f (x + nn g) e _ (by omega) (by omega) hA2
      refine ⟨x', y', J2, hst.trans q1, q2, fun n hn => ?_, fun n a b h => ?_⟩
      · rw [q3 n (by omega), sJ_nk (by omega)]
      · by_cases hn : n = i
        · subst hn
          refine ⟨J1, c, v, e, g, hA, c1, c2, c3, ?_⟩
          rw [q3 n (by omega), sJ_eq]
        · exact q4 n (by omega) b h
    · have h8 : ¬ I (p + 1 + 1) i = nn 8 := fun q => h89 (Or.inl q)
      have h9 : ¬ I (p + 1 + 1) i = nn 9 := fun q => h89 (Or.inr q)
      have hst : b_36_2 p (f + 1) (nn i) (wI I p x y) J1 = b_36_2 p f (nn (i + 1)) (wI I p x y) J1 := by
        simp (disch := omega) only [b_36_2, b_36_80, m_17, b_17_0, wI_ne, hz, h8, h9, not_false_eq_true, ↓reduceIte, nn_l, nn_o, nn_lt, nn_le, nn_eq, nn_cl, nn_add, nn_sub, if_pos, if_neg, lt_, Option.bind_some, ↓reduceIte, not_true_eq_false, not_false_eq_true, Nat.add_sub_cancel, Nat.add_zero, Nat.reduceSub, Nat.reduceAdd, Nat.reduceMul, Nat.reduceEqDiff, Nat.reduceLT, Nat.reduceLeDiff, or_false, false_or, Nat.not_lt_zero]
      obtain ⟨x', y', J2, q1, q2, q3, q4⟩ := ih (i + 1) f x y J1 (by omega) (by omega) hA
      refine ⟨x', y', J2, hst.trans q1, q2, fun n hn => q3 n (by omega), fun n a b h => ?_⟩
      by_cases hn : n = i
      · subst hn
        exact absurd h h89
      · exact q4 n (by omega) b h
def Pv (p : Nat) (I : dI) (J : dJ) (n : Nat) (r : Int64) : Prop := ∃ J3 c v e g, AgP p J J3 ∧ I (p + 1 + 2) n = nn c ∧ c < n ∧ CR p I J3 c v e g ∧ r = if e = nn 0 then v else 0
theorem wall_c {p sz g : Nat} {I : dI} {J : dJ} {v : Int64} {e : Int32} (hz : I (p + 1) 4 = nn sz) (hs1 : 1 ≤ sz) (hs : sz ≤ 40) (H : ∀ n J1, n < sz → AgP p J J1 → (I (p + 1 + 1) n = nn 8 ∨ I (p + 1 + 1) n = nn 9) → ∃ c v e g, I (p + 1 + 2) n = nn c ∧ c < n ∧ CR p I J1 c v e g) (hR : CR p I J (sz - 1) v e g) : ∃ J', m_14 p I J = some ((if e = nn 0 then v else 0), wI (sI I p 4 (nn 1)) p (nn g) e, J') ∧ (∀ q, q ≠ p + 6 → q ≠ p + 7 → J' q = J q) ∧ ∀ n, n < sz → (I (p + 1 + 1) n = nn 8 ∨ I (p + 1 + 1) n = nn 9) → Pv p I J n (J' (p + 6) n) := by
  have c4 : wkF p (nn (sz - 1)) (nn 1) (wI I p (nn 0) (nn 0)) J = some (v, wI I p (nn 0 + nn g) e, J) := hR 60 1 (nn 0) (by omega) (by omega)
  obtain ⟨F, hF, hF2⟩ : ∃ F, FU = F ∧ 2000 < F := ⟨5000, rfl, by decide⟩
  rw [nn_add, Nat.zero_add] at c4
  obtain ⟨x', y', J2, q1, q2, q3, q4⟩ := rem_c hz hs H sz 0 F (nn g) e J (by omega) (by omega) (fun _ _ => rfl)
  refine ⟨rJ J2 (p + 6) (va_cpy (J2 (p + 7)) (J2 (p + 6)) 0 0 40), ?_, fun q h6 h7 => ?_, fun n hn h => ?_⟩
  · have e1 : sI (sI I p 5 (nn 0)) p 6 (nn 0) = wI I p (nn 0) (nn 0) := rfl
    have e2 : sI (sI (sI (wI I p x' y') p 4 (nn 1)) p 5 (nn g)) p 6 e = wI (sI I p 4 (nn 1)) p (nn g) e := by
      refine dI_ext fun q j => ?_
      simp only [wI, sI_get]
      repeat' split
      all_goals first | rfl | (exfalso; omega)
    have e4 : (I (p + 1) 4) - 1 = nn (sz - 1) := by rw [hz, nn_l, nn_sub (by omega)]
    have h36 : m_36 p (wI I p (nn g) e) J = some (sI (wI I p x' y') p 4 (nn 1), rJ J2 (p + 6) (va_cpy (J2 (p + 7)) (J2 (p + 6)) 0 0 40)) := by
      unfold m_36 b_36_0
      rw [hF]
      simp only [nn_l]
      rw [q1]
      rfl
    unfold m_14 b_14_0
    simp only [lt_, nn_l, e1]
    rw [wI_ne (by omega), hz, nn_sub (by omega), c4, Option.bind_some, h36, Option.bind_some]
    simp only [wI_5, wI_6, e2]
    by_cases he : e = nn 0
    · simp only [he, not_true_eq_false, ↓reduceIte]
    · simp only [he, not_false_eq_true, ↓reduceIte]
  · rw [rJ_ne h6]
    exact q2 q h7
  · obtain ⟨J3, c, v', e', g', w1, w2, w2', w3, w4⟩ := q4 n (by omega) hn h
    refine ⟨J3, c, v', e', g', w1, w2, w2', w3, ?_⟩
    rw [rJ_eq]
    simp only [va_cpy]
    rw [if_pos (by omega), Nat.sub_zero, Nat.zero_add]
    exact w4
def AgN (I : dI) (J : dJ) (I' : dI) (J' : dJ) : Prop := (∀ q, q ≠ 92 → (q < 114 ∨ 118 < q) → I' q = I q) ∧ (∀ j, j < 32 ∨ 35 < j → I' 92 j = I 92 j) ∧ (∀ q, q ≠ 92 → q ≠ 118 → q ≠ 109 → J' q = J q) ∧ (∀ j, j ≠ 35 → J' 92 j = J 92 j)
theorem agn_ag {I I1 I2 : dI} {J J1 J2 : dJ} (h : AgN I J I1 J1) (h' : Ag I1 J1 I2 J2) : AgN I J I2 J2 :=
  ⟨fun q a b => (h'.1 q a b).trans (h.1 q a b), fun j a => (h'.2.1 j a).trans (h.2.1 j a), fun q a b c => (h'.2.2.1 q a b).trans (h.2.2.1 q a b c), fun j a => (h'.2.2.2 j a).trans (h.2.2.2 j a)⟩
theorem agn_s {I I1 : dI} {J J1 : dJ} {k : Nat} {v : Int64} (h : AgN I J I1 J1) : AgN I J I1 (sJ J1 109 k v) :=
  ⟨h.1, h.2.1, fun q a b c => by rw [sJ_ne c]; exact h.2.2.1 q a b c, fun j a => by rw [sJ_ne (by omega)]; exact h.2.2.2 j a⟩
def Nv (k : Nat) (I : dI) (J : dJ) (a b : Nat) (r : Int64) : Prop := ∃ I1 J1 n v e g, AgN I J I1 J1 ∧ n ≤ 60 ∧ MR (nn k) I1 J1 n a b v e g ∧ r = if e = nn 0 then v else 0
theorem rem_m {k mn : Nat} {I : dI} {J : dJ} (hk : k < 8) (hm : I 98 k = nn mn) (hm2 : mn ≤ 120) (H : ∀ t I1 J1, t < mn → AgN I J I1 J1 → (I 105 (120 * k + t) = nn 8 ∨ I 105 (120 * k + t) = nn 9) → ∃ n b v e g, I 106 (120 * k + t + 1) = nn b ∧ t + 1 < mn ∧ b ≤ 120 * k + mn ∧ n ≤ 60 ∧ MR (nn k) I1 J1 n (120 * k + t + 2) b v e g) : ∀ d t fu I1 J1, t + d = mn → d < fu → AgN I J I1 J1 → ∃ I2 J2, b_132_7 fu (nn k) (nn (120 * k)) (nn t) I1 J1 = b_132_77 FU (nn k) (nn (120 * k)) (nn 0) I2 J2 ∧ AgN I J I2 J2 ∧ (∀ i, i < t → J2 109 i = J1 109 i) ∧ ∀ i, t ≤ i → i < mn → (I 105 (120 * k + i) = nn 8 ∨ I 105 (120 * k + i) = nn 9) → ∃ b, I 106 (120 * k + i + 1) = nn b ∧ b ≤ 120 * k + mn ∧ Nv k I J (120 * k + i + 2) b (J2 109 i) := by
  intro d
  induction d with
  | zero =>
    intro t fu I1 J1 ht hf hA
    obtain ⟨f, rfl⟩ : ∃ f, fu = f + 1 := ⟨fu - 1, by omega⟩
    refine ⟨I1, J1, ?_, hA, fun _ _ => rfl, fun i a b => by omega⟩
    have e1 : I1 98 k = nn mn := by rw [hA.1 98 (by omega) (by omega)]; exact hm
    simp (disch := omega) only [b_132_7, e1, nn_l, nn_o, nn_lt, nn_le, nn_eq, nn_cl, nn_add, nn_sub, if_pos, if_neg, lt_, Option.bind_some, ↓reduceIte, not_true_eq_false, not_false_eq_true, Nat.add_sub_cancel, Nat.add_zero, Nat.reduceSub, Nat.reduceAdd, Nat.reduceMul, Nat.reduceEqDiff, Nat.reduceLT, Nat.reduceLeDiff, or_false, false_or, Nat.not_lt_zero]
  | succ d ih =>
    intro t fu I1 J1 ht hf hA
    obtain ⟨f, rfl⟩ : ∃ f, fu = f + 1 := ⟨fu - 1, by omega⟩
    have e1 : I1 98 k = nn mn := by rw [hA.1 98 (by omega) (by omega)]; exact hm
    have e5 : I1 105 = I 105 := hA.1 105 (by omega) (by omega)
    have e6 : I1 106 = I 106 := hA.1 106 (by omega) (by omega)
    by_cases h89 : I 105 (120 * k + t) = nn 8 ∨ I 105 (120 * k + t) = nn 9
    · obtain ⟨n, b, v, e, g, c1, c2, c3, c4, c5⟩ := H t I1 J1 (by omega) hA h89
      obtain ⟨I3, J3, w1, w2, w3, w4⟩ := work_m c5 c4 (by omega)
      have hst : b_132_7 (f + 1) (nn k) (nn (120 * k)) (nn t) I1 J1 = b_132_7 f (nn k) (nn (120 * k)) (nn (t + 1)) I3 (sJ J3 109 t (if e = nn 0 then v else 0)) := by
        rcases h89 with h | h <;> simp (disch := omega) only [b_132_7, b_132_43, b_132_69, e1, e5, e6, h, c1, w1, nn_l, nn_o, nn_lt, nn_le, nn_eq, nn_cl, nn_add, nn_sub, if_pos, if_neg, lt_, Option.bind_some, ↓reduceIte, not_true_eq_false, not_false_eq_true, Nat.add_sub_cancel, Nat.add_zero, Nat.reduceSub, Nat.reduceAdd, Nat.reduceMul, Nat.reduceEqDiff, Nat.reduceLT, Nat.reduceLeDiff, or_false, false_or, Nat.not_lt_zero]
      have hA2 := agn_s (k := t) (v := (if e = nn 0 then v else 0)) (agn_ag hA w2)
      obtain ⟨I2, J2, q1, q2, q3, q4⟩ := ih (t + 1) f I3 _ (by omega) (by omega) hA2
      refine ⟨I2, J2, hst.trans q1, q2, fun i hi => ?_, fun i a b' h => ?_⟩
      · rw [q3 i (by omega), sJ_nk (by omega), w2.2.2.1 109 (by omega) (by omega)]
      · by_cases hi : i = t
        · subst hi
          refine ⟨b, c1, c3, I1, J1, n, v, e, g, hA, c4, c5, ?_⟩
          rw [q3 i (by omega), sJ_eq]
        · exact q4 i (by omega) b' h
    · have h8 : ¬ I 105 (120 * k + t) = nn 8 := fun q => h89 (Or.inl q)
      have h9 : ¬ I 105 (120 * k + t) = nn 9 := fun q => h89 (Or.inr q)
      have hst : b_132_7 (f + 1) (nn k) (nn (120 * k)) (nn t) I1 J1 = b_132_7 f (nn k) (nn (120 * k)) (nn (t + 1)) I1 J1 := by
        simp (disch := omega) only [b_132_7, b_132_69, e1, e5, h8, h9, not_false_eq_true, ↓reduceIte, nn_l, nn_o, nn_lt, nn_le, nn_eq, nn_cl, nn_add, nn_sub, if_pos, if_neg, lt_, Option.bind_some, ↓reduceIte, not_true_eq_false, not_false_eq_true, Nat.add_sub_cancel, Nat.add_zero, Nat.reduceSub, Nat.reduceAdd, Nat.reduceMul, Nat.reduceEqDiff, Nat.reduceLT, Nat.reduceLeDiff, or_false, false_or, Nat.not_lt_zero]
      obtain ⟨I2, J2, q1, q2, q3, q4⟩ := ih (t + 1) f I1 J1 (by omega) (by omega) hA
      refine ⟨I2, J2, hst.trans q1, q2, fun i hi => q3 i (by omega), fun i a b' h => ?_⟩
      by_cases hi : i = t
      · subst hi
        exact absurd h h89
      · exact q4 i (by omega) b' h
theorem rem_cp {k mn : Nat} {I : dI} (hk : k < 8) (hm : I 98 k = nn mn) (hm2 : mn ≤ 120) : ∀ d t fu J1, t + d = mn → d < fu → ∃ J2, b_132_77 fu (nn k) (nn (120 * k)) (nn t) I J1 = some (sI I 97 k (nn 1), J2) ∧ (∀ q, q ≠ 108 → J2 q = J1 q) ∧ (∀ i, i < 120 * k + t ∨ 120 * k + mn ≤ i → J2 108 i = J1 108 i) ∧ ∀ i, t ≤ i → i < mn → J2 108 (120 * k + i) = J1 109 i := by
  intro d
  induction d with
  | zero =>
    intro t fu J1 ht hf
    obtain ⟨f, rfl⟩ : ∃ f, fu = f + 1 := ⟨fu - 1, by omega⟩
    refine ⟨J1, ?_, fun _ _ => rfl, fun _ _ => rfl, fun i a b => by omega⟩
    have e2 : vp_nar .boolean (nn 1) = nn 1 := by decide
    simp (disch := omega) only [b_132_77, hm, e2, nn_l, nn_o, nn_lt, nn_le, nn_eq, nn_cl, nn_add, nn_sub, if_pos, if_neg, lt_, Option.bind_some, ↓reduceIte, not_true_eq_false, not_false_eq_true, Nat.add_sub_cancel, Nat.add_zero, Nat.reduceSub, Nat.reduceAdd, Nat.reduceMul, Nat.reduceEqDiff, Nat.reduceLT, Nat.reduceLeDiff, or_false, false_or, Nat.not_lt_zero]
  | succ d ih =>
    intro t fu J1 ht hf
    obtain ⟨f, rfl⟩ : ∃ f, fu = f + 1 := ⟨fu - 1, by omega⟩
    obtain ⟨J2, q1, q2, q3, q4⟩ := ih (t + 1) f (sJ J1 108 (120 * k + t) (J1 109 t)) (by omega) (by omega)
    refine ⟨J2, ?_, fun q hq => ?_, fun i hi => ?_, fun i a b => ?_⟩
    · simp (disch := omega) only [b_132_77, hm, q1, nn_l, nn_o, nn_lt, nn_le, nn_eq, nn_cl, nn_add, nn_sub, if_pos, if_neg, lt_, Option.bind_some, ↓reduceIte, not_true_eq_false, not_false_eq_true, Nat.add_sub_cancel, Nat.add_zero, Nat.reduceSub, Nat.reduceAdd, Nat.reduceMul, Nat.reduceEqDiff, Nat.reduceLT, Nat.reduceLeDiff, or_false, false_or, Nat.not_lt_zero]
    · rw [q2 q hq, sJ_ne hq]
    · rw [q3 i (by omega), sJ_nk (by omega)]
    · by_cases hi : i = t
      · subst hi
        rw [q3 (120 * k + i) (by omega), sJ_eq]
      · rw [q4 i (by omega) b, sJ_ne (by omega)]
