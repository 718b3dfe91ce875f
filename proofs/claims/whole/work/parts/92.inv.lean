/-! What stands between two calls; compile. -/
def Inv2 (N : Nat) (Ic : dI) (Jc : dJ) (Im : dI) (Jm : dJ) : Prop := (∃ s T, Txc s T Ic ∧ Txm s T Im) ∧ Mac Ic Jc Im Jm ∧ Jm 92 20 = Jc 0 4 ∧ ∀ k, k < 8 → Ic (20 + 9 * k) 1 = Im 96 k ∧ (Im 96 k = nn 0 ∨ Im 96 k = nn 1) ∧ (Im 96 k = nn 1 → Live N k Ic Jc Im Jm)
def CF (I : dI) (J : dJ) (I' : dI) (J' : dJ) : Prop := ∀ q, 92 ≤ q → I' q = I q ∧ J' q = J q
def MF (I : dI) (J : dJ) (I' : dI) (J' : dJ) : Prop := ∀ q, q < 92 ∨ 119 ≤ q → I' q = I q ∧ J' q = J q
theorem inv2_fr {N N' : Nat} {Ic Im Ic' Im' : dI} {Jc Jm Jc' Jm' : dJ} (hN : N ≤ N') (hc : ∀ q, q < 92 → Ic' q = Ic q ∧ Jc' q = Jc q) (hm : ∀ q, 92 ≤ q → q < 119 → Im' q = Im q ∧ Jm' q = Jm q) (h : Inv2 N Ic Jc Im Jm) : Inv2 N' Ic' Jc' Im' Jm' := by
  obtain ⟨⟨s, T, h1, h2⟩, ⟨m1, m2, m3⟩, h3, h4⟩ := h
  refine ⟨⟨s, T, txc_row (hc 1 (by omega)).1 (hc 2 (by omega)).1 h1, txm_row (by rw [(hm 92 (by omega) (by omega)).1]) (hm 93 (by omega) (by omega)).1 h2⟩, ⟨fun r hr => ?_, fun w hw => ?_, ?_⟩, ?_, fun k hk => ?_⟩
  · rw [(hm 94 (by omega) (by omega)).1, (hc 4 (by omega)).1]; exact m1 r hr
  · rw [(hm 95 (by omega) (by omega)).1, (hc 5 (by omega)).1]; exact m2 w hw
  · rw [(hm 92 (by omega) (by omega)).2, (hc 3 (by omega)).2]; exact m3
  · rw [(hm 92 (by omega) (by omega)).2, (hc 0 (by omega)).2]; exact h3
  · obtain ⟨a1, a2, a3⟩ := h4 k hk
    rw [(hm 96 (by omega) (by omega)).1, (hc (20 + 9 * k) (by omega)).1]
    refine ⟨a1, a2, fun hl => live_fr hN (fun q u v => hc q (by omega)) (fun q u v => by rw [(hm q (by omega) (by omega)).1]) ⟨by rw [(hm 103 (by omega) (by omega)).2], by rw [(hm 104 (by omega) (by omega)).2]⟩ (fun i u v => ?_) (a3 hl)⟩
    rw [(hm 105 (by omega) (by omega)).1, (hm 106 (by omega) (by omega)).1, (hm 107 (by omega) (by omega)).2, (hm 108 (by omega) (by omega)).2]
    exact ⟨rfl, rfl, rfl, rfl⟩
theorem m40_eq {k : Nat} (hk : k < 8) (I : dI) (J : dJ) : m_40 (nn k) I J = some (some (20 + 9 * k)) := by
  simp (disch := omega) only [m_40, b_40_0, nn_l, nn_o, nn_lt, nn_le, nn_eq, nn_cl, nn_add, nn_sub, if_pos, if_neg, lt_, Option.bind_some, ↓reduceIte, not_true_eq_false, not_false_eq_true, Nat.add_sub_cancel, Nat.add_zero, Nat.reduceSub, Nat.reduceAdd, Nat.reduceMul, Nat.reduceEqDiff, Nat.reduceLT, Nat.reduceLeDiff, or_false, false_or, Nat.not_lt_zero]
theorem m99_0 (I : dI) (J : dJ) : m_99 (nn 0) (nn 0) I J = some (nn 0, sI I 92 0 (nn 0), J) := by
  simp (disch := omega) only [m_99, b_99_0, b_99_18, sI_eq, nn_l, nn_o, nn_lt, nn_le, nn_eq, nn_cl, nn_add, nn_sub, if_pos, if_neg, lt_, Option.bind_some, ↓reduceIte, not_true_eq_false, not_false_eq_true, Nat.add_sub_cancel, Nat.add_zero, Nat.reduceSub, Nat.reduceAdd, Nat.reduceMul, Nat.reduceEqDiff, Nat.reduceLT, Nat.reduceLeDiff, or_false, false_or, Nat.not_lt_zero]
theorem m99_1 (x : Int32) (I : dI) (J : dJ) : m_99 (nn 1) x I J = some (nn 1, sI I 92 0 (nn 1), J) := by
  simp (disch := omega) only [m_99, b_99_0, b_99_18, sI_eq, nn_l, nn_o, nn_lt, nn_le, nn_eq, nn_cl, nn_add, nn_sub, if_pos, if_neg, lt_, Option.bind_some, ↓reduceIte, not_true_eq_false, not_false_eq_true, Nat.add_sub_cancel, Nat.add_zero, Nat.reduceSub, Nat.reduceAdd, Nat.reduceMul, Nat.reduceEqDiff, Nat.reduceLT, Nat.reduceLeDiff, or_false, false_or, Nat.not_lt_zero]
theorem m99_2 (I : dI) (J : dJ) : m_99 (nn 0) (nn 1) I J = some (nn 1, sI I 92 0 (nn 2), J) := by
  simp (disch := omega) only [m_99, b_99_0, b_99_18, sI_eq, nn_l, nn_o, nn_lt, nn_le, nn_eq, nn_cl, nn_add, nn_sub, if_pos, if_neg, lt_, Option.bind_some, ↓reduceIte, not_true_eq_false, not_false_eq_true, Nat.add_sub_cancel, Nat.add_zero, Nat.reduceSub, Nat.reduceAdd, Nat.reduceMul, Nat.reduceEqDiff, Nat.reduceLT, Nat.reduceLeDiff, or_false, false_or, Nat.not_lt_zero]
theorem l_0 : (0 : Int64) = Int64.ofNat 0 := rfl
theorem m98_in {k hi : Nat} (hk : k ≤ hi) (hh : hi < 2147483648) (I : dI) (J : dJ) : m_98 (Int32.toInt64 (nn k)) 0 (Int64.ofNat hi) I J = some (nn 1) := by
  simp (disch := omega) only [m_98, b_98_0, nn_long, lg_lt0, lg_gt0, l_0, l_lt, nn_l, nn_o, nn_lt, nn_le, nn_eq, nn_cl, nn_add, nn_sub, if_pos, if_neg, lt_, Option.bind_some, ↓reduceIte, not_true_eq_false, not_false_eq_true, Nat.add_sub_cancel, Nat.add_zero, Nat.reduceSub, Nat.reduceAdd, Nat.reduceMul, Nat.reduceEqDiff, Nat.reduceLT, Nat.reduceLeDiff, or_false, false_or, Nat.not_lt_zero]
theorem cpy_lt {α : Type} {f g : Nat → α} {i : Nat} (h : i < 40) : va_cpy f g 0 0 40 i = f i := by
  simp only [va_cpy]
  rw [if_pos (by omega), Nat.sub_zero, Nat.zero_add]
theorem begin_c {k : Nat} {I : dI} {J : dJ} (hk : k < 8) : ∃ I' J', m_82 (20 + 9 * k) I J = some (I', J') ∧ (∀ q, q < 20 + 9 * k ∨ 29 + 9 * k ≤ q → I' q = I q ∧ J' q = J q) ∧ I' (20 + 9 * k) 1 = nn 1 ∧ I' (20 + 9 * k) 2 = nn 0 ∧ J' (20 + 9 * k) 3 = 0 ∧ J' (20 + 9 * k) 4 = 0 ∧ J' (20 + 9 * k) 5 = 0 ∧ J' (20 + 9 * k) 6 = 0 ∧ I' (20 + 9 * k + 1) 4 = nn 0 ∧ I' (20 + 9 * k + 1 + 1) 4 = I 7 4 ∧ I' (20 + 9 * k + 1 + 1) 5 = I 7 5 ∧ ∀ i, i < 40 → I' (20 + 9 * k + 1 + 1 + 1) i = I 8 i ∧ I' (20 + 9 * k + 1 + 1 + 2) i = I 9 i ∧ I' (20 + 9 * k + 1 + 1 + 3) i = I 10 i ∧ J' (20 + 9 * k + 1 + 1 + 4) i = J 11 i := by
  have e40 : Int32.toNatClampNeg 40 = 40 := by decide
  refine ⟨_, _, by simp only [m_82, b_82_0, m_83, b_83_0, m_84, b_84_0, lt_, Option.bind_some, nn_l]; rfl, fun q hq => ⟨?_, ?_⟩, ?_, ?_, ?_, ?_, ?_, ?_, ?_, ?_, ?_, fun i hi => ⟨?_, ?_, ?_, ?_⟩⟩
  · simp (disch := omega) only [sI_ne, rI_ne]
  · simp (disch := omega) only [sJ_ne, rJ_ne]
  · simp (disch := omega) only [sI_ne, sI_nk, sI_eq]
  · simp (disch := omega) only [sI_ne, sI_nk, sI_eq]
  · simp (disch := omega) only [sJ_ne, sJ_nk, sJ_eq]
  · simp (disch := omega) only [sJ_ne, sJ_nk, sJ_eq]
  · simp (disch := omega) only [sJ_ne, sJ_nk, sJ_eq]
  · simp (disch := omega) only [sJ_ne, sJ_nk, sJ_eq]
  · simp (disch := omega) only [sI_ne, sI_nk, sI_eq]
  · simp (disch := omega) only [sI_ne, sI_nk, sI_eq, rI_ne]
  · simp (disch := omega) only [sI_ne, sI_nk, sI_eq, rI_ne]
  · simp (disch := omega) only [sI_ne, rI_ne, rI_eq]
    exact cpy_lt hi
  · simp (disch := omega) only [sI_ne, rI_ne, rI_eq]
    exact cpy_lt hi
  · simp (disch := omega) only [sI_ne, rI_ne, rI_eq]
    exact cpy_lt hi
  · simp (disch := omega) only [sJ_ne, rJ_ne, rJ_eq]
    exact cpy_lt hi
theorem copy_m {k t : Nat} (hk : k < 8) (ht : t ≤ 120) : ∀ d i fu I J, i + d = t → d < fu → I 92 24 = nn t → ∃ I' J', b_97_117 fu (nn k) (nn i) I J = some (nn 0, I', J') ∧ (∀ q, q ≠ 105 → q ≠ 106 → I' q = I q) ∧ (∀ q, q ≠ 107 → J' q = J q) ∧ (∀ x, x < 120 * k + i ∨ 120 * k + t ≤ x → I' 105 x = I 105 x ∧ I' 106 x = I 106 x ∧ J' 107 x = J 107 x) ∧ ∀ x, i ≤ x → x < t → I' 105 (120 * k + x) = I 110 x ∧ I' 106 (120 * k + x) = nn (120 * k) + I 111 x ∧ J' 107 (120 * k + x) = J 113 x := by
  intro d
  induction d with
  | zero =>
    intro i fu I J hi hf h24
    obtain ⟨f, rfl⟩ : ∃ f, fu = f + 1 := ⟨fu - 1, by omega⟩
    refine ⟨I, J, ?_, fun _ _ _ => rfl, fun _ _ => rfl, fun _ _ => ⟨rfl, rfl, rfl⟩, fun x a b => by omega⟩
    simp (disch := omega) only [b_97_117, h24, nn_l, nn_o, nn_lt, nn_le, nn_eq, nn_cl, nn_add, nn_sub, if_pos, if_neg, lt_, Option.bind_some, ↓reduceIte, not_true_eq_false, not_false_eq_true, Nat.add_sub_cancel, Nat.add_zero, Nat.reduceSub, Nat.reduceAdd, Nat.reduceMul, Nat.reduceEqDiff, Nat.reduceLT, Nat.reduceLeDiff, or_false, false_or, Nat.not_lt_zero]
  | succ d ih =>
    intro i fu I J hi hf h24
    obtain ⟨f, rfl⟩ : ∃ f, fu = f + 1 := ⟨fu - 1, by omega⟩
    obtain ⟨I', J', q1, q2, q3, q4, q5⟩ := ih (i + 1) f (sI (sI I 105 (120 * k + i) (I 110 i)) 106 (120 * k + i) (nn (120 * k) + I 111 i)) (sJ J 107 (120 * k + i) (J 113 i)) (by omega) (by omega) (by rw [sI_ne (by omega), sI_ne (by omega)]; exact h24)
    refine ⟨I', J', ?_, fun q h5 h6 => ?_, fun q h7 => ?_, fun x hx => ?_, fun x a b => ?_⟩
    · simp (disch := omega) only [b_97_117, h24, nn_mul, sI_ne, q1, nn_l, nn_o, nn_lt, nn_le, nn_eq, nn_cl, nn_add, nn_sub, if_pos, if_neg, lt_, Option.bind_some, ↓reduceIte, not_true_eq_false, not_false_eq_true, Nat.add_sub_cancel, Nat.add_zero, Nat.reduceSub, Nat.reduceAdd, Nat.reduceMul, Nat.reduceEqDiff, Nat.reduceLT, Nat.reduceLeDiff, or_false, false_or, Nat.not_lt_zero]
    · rw [q2 q h5 h6, sI_ne h6, sI_ne h5]
    · rw [q3 q h7, sJ_ne h7]
    · obtain ⟨y1, y2, y3⟩ := q4 x (by omega)
      rw [y1, y2, y3, sI_ne (by omega), sI_nk (by omega), sI_nk (by omega), sI_ne (by omega), sJ_nk (by omega)]
      exact ⟨rfl, rfl, rfl⟩
    · by_cases hx : x = i
      · subst hx
        obtain ⟨y1, y2, y3⟩ := q4 (120 * k + x) (by omega)
        rw [y1, y2, y3, sI_ne (by omega), sI_eq, sI_eq, sJ_eq]
        exact ⟨rfl, rfl, rfl⟩
      · obtain ⟨y1, y2, y3⟩ := q5 x (by omega) b
        rw [y1, y2, y3, sI_ne (by omega), sI_ne (by omega), sI_ne (by omega), sI_ne (by omega), sJ_ne (by omega)]
        exact ⟨rfl, rfl, rfl⟩
theorem nb_1 : vp_nar .boolean (nn 1) = nn 1 := by decide
theorem nb_0 : vp_nar .boolean (nn 0) = nn 0 := by decide
theorem cm_bad {k nr F : Nat} {Im M1 : dI} {Jm E1 : dJ} (hk : k < 8) (z2 : m_100 (sI Im 92 0 (nn 0)) Jm = some (nn nr, M1, E1)) (z5 : M1 92 26 = nn F) (h0 : 0 < F) (hF : F < 2000) : m_97 (nn k) Im Jm = some (nn F, sI M1 92 1 (nn 0), E1) := by
  have e26 : (sI M1 92 1 (nn 0)) 92 26 = nn F := by rw [sI_nk (by omega)]; exact z5
  unfold m_97 b_97_0
  rw [show (7 : Int64) = Int64.ofNat 7 from rfl, m98_in (by omega) (by omega), Option.bind_some, if_pos (show ¬ nn 1 = 0 by decide)]
  unfold b_97_18
  rw [show (0 : Int32) = nn 0 from rfl, m99_0, Option.bind_some]
  dsimp only
  rw [if_pos (show nn 0 = nn 0 from rfl), z2, Option.bind_some]
  simp only [lt_, e26]
  rw [if_neg (show ¬ nn F ≤ nn 0 by rw [nn_le (by omega) (by omega)]; omega)]
def cmI (M1 : dI) (k nr t : Nat) : dI := sI (sI (sI (sI (sI (sI (sI (sI M1 92 1 (nn 0)) 96 k (nn 1)) 97 k (nn 0)) 98 k (nn t)) 99 k (nn nr)) 102 k (nn 0)) 101 k (nn 0)) 100 k (nn 0)
theorem cm_ok {k nr t : Nat} {Im M1 : dI} {Jm E1 : dJ} (hk : k < 8) (z2 : m_100 (sI Im 92 0 (nn 0)) Jm = some (nn nr, M1, E1)) (z5 : M1 92 26 = nn 0) (z24 : M1 92 24 = nn t) : m_97 (nn k) Im Jm = b_97_117 FU (nn k) (nn 0) (cmI M1 k nr t) (sJ (sJ E1 104 k 0) 103 k 0) := by
  have e26 : (sI M1 92 1 (nn 0)) 92 26 = nn 0 := by rw [sI_nk (by omega)]; exact z5
  obtain ⟨F, hF⟩ : ∃ F, FU = F := ⟨5000, rfl⟩
  unfold m_97 b_97_0
  rw [show (7 : Int64) = Int64.ofNat 7 from rfl, m98_in (by omega) (by omega), Option.bind_some, if_pos (show ¬ nn 1 = 0 by decide)]
  unfold b_97_18
  rw [show (0 : Int32) = nn 0 from rfl, m99_0, Option.bind_some]
  dsimp only
  rw [if_pos (show nn 0 = nn 0 from rfl), z2, Option.bind_some, hF]
  have n1 : vp_nar .boolean 1 = nn 1 := nb_1
  simp (disch := omega) only [e26, z24, nb_0, n1, nb_1, cmI, sI_ne, sI_nk, nn_l, nn_o, nn_lt, nn_le, nn_eq, nn_cl, nn_add, nn_sub, if_pos, if_neg, lt_, Option.bind_some, ↓reduceIte, not_true_eq_false, not_false_eq_true, Nat.add_sub_cancel, Nat.add_zero, Nat.reduceSub, Nat.reduceAdd, Nat.reduceMul, Nat.reduceEqDiff, Nat.reduceLT, Nat.reduceLeDiff, or_false, false_or, Nat.not_lt_zero]
theorem comp_2 {N k : Nat} {Ic Im : dI} {Jc Jm : dJ} (hk : k < 8) (h : Inv2 N Ic Jc Im Jm) : ∃ F Ic' Jc' Im' Jm', m_39 (nn k) Ic Jc = some (nn F, Ic', Jc') ∧ m_97 (nn k) Im Jm = some (nn F, Im', Jm') ∧ F < 2000 ∧ CF Ic Jc Ic' Jc' ∧ MF Im Jm Im' Jm' ∧ Im' 92 0 = nn 0 ∧ Inv2 (N + 1) Ic' Jc' Im' Jm' := by
  obtain ⟨⟨s, T, h1, h2⟩, ⟨m1, m2, m3⟩, h3, h4⟩ := h
  have h2' : Txm s T (sI Im 92 0 (nn 0)) := txm_s (by omega) h2
  obtain ⟨F, C1, D1, M1, E1, nr, z1, z2, ⟨z3, z3'⟩, ⟨z4, z4a, z4b, z4c⟩, z5, z6, z7, z8⟩ := build_both (Jc := Jc) (Jm := Jm) h1 h2'
  have e82 : m_81 C1 D1 = some (sI C1 1 1 (nn 0), D1) := by simp only [m_81, b_81_0, lt_, nn_l]
  have hT1 : Txc 0 T (sI C1 1 1 (nn 0)) := ⟨sI_eq, Nat.zero_le _, fun i hi => by omega⟩
  by_cases hF : F = 0
  · subst hF
    obtain ⟨z, tt, m, g1, g2, g3, g4, g5, g6, ⟨q, g7⟩, g8⟩ := z8 rfl
    obtain ⟨C2, D2, b1, b2, b3, b4, b5, b6, b7, b8, b9, b10, b11, b12⟩ := begin_c (I := sI C1 1 1 (nn 0)) (J := D1) hk
    obtain ⟨Fq, hFq, hFq2⟩ : ∃ F, FU = F ∧ 2000 < F := ⟨5000, rfl, by decide⟩
    obtain ⟨M2, E2, d1, d2, d3, d4, d5⟩ := copy_m hk g6 tt 0 Fq (cmI M1 k nr tt) (sJ (sJ E1 104 k 0) 103 k 0) (by omega) (by omega) (by
      simp (disch := omega) only [cmI, sI_ne, sI_nk]
      exact g5)
    have cm_ne : ∀ q, q ≠ 92 → q ≠ 96 → q ≠ 97 → q ≠ 98 → q ≠ 99 → q ≠ 100 → q ≠ 101 → q ≠ 102 → cmI M1 k nr tt q = M1 q := fun q x1 x2 x3 x4 x5 x6 x7 x8 => by
      simp (disch := omega) only [cmI, sI_ne]
    have cm_k : ∀ q i, 96 ≤ q → q ≤ 102 → i ≠ k → cmI M1 k nr tt q i = M1 q i := fun q i x1 x2 x3 => by
      simp only [cmI, sI_get]
      repeat rw [if_neg (by omega)]
    have m_ne : ∀ q, q ≠ 92 → q ≠ 96 → q ≠ 97 → q ≠ 98 → q ≠ 99 → q ≠ 100 → q ≠ 101 → q ≠ 102 → q ≠ 105 → q ≠ 106 → q ≠ 110 → q ≠ 111 → q ≠ 112 → M2 q = Im q := fun q x1 x2 x3 x4 x5 x6 x7 x8 x9 x10 x11 x12 x13 => by
      rw [d2 q x9 x10, cm_ne q x1 x2 x3 x4 x5 x6 x7 x8, z4 q x1 x11 x12 x13, sI_ne x1]
    have e_ne : ∀ q, q ≠ 92 → q ≠ 103 → q ≠ 104 → q ≠ 107 → q ≠ 113 → E2 q = Jm q := fun q x1 x2 x3 x4 x5 => by
      rw [d3 q x4, sJ_ne x2, sJ_ne x3, z4b q x1 x5]
    have c_ne : ∀ q, q ≠ 1 → (q < 6 ∨ 18 < q) → (q < 20 + 9 * k ∨ 29 + 9 * k ≤ q) → C2 q = Ic q := fun q x1 x2 x3 => by
      rw [(b2 q x3).1, sI_ne x1, z3 q x2]
    have dd_ne : ∀ q, q ≠ 11 → q ≠ 18 → (q < 20 + 9 * k ∨ 29 + 9 * k ≤ q) → D2 q = Jc q := fun q x1 x2 x3 => by
      rw [(b2 q x3).2, z3' q x1 x2]
    have m92 : ∀ j, j ≠ 1 → j < 21 ∨ 26 < j → M2 92 j = (sI Im 92 0 (nn 0)) 92 j := fun j x1 x2 => by
      rw [d2 92 (by omega) (by omega), ← z4a j x2]
      simp (disch := omega) only [cmI, sI_ne, sI_nk]
    have e92 : ∀ j, j ≠ 27 → E2 92 j = Jm 92 j := fun j x1 => by
      rw [d3 92 (by omega), sJ_ne (by omega), sJ_ne (by omega), z4c j x1]
    have odm : ∀ q n a b m, n < z → b ≤ tt → Opd (C1 8) (C1 9) (C1 10) (D1 11) (M1 110) (M1 111) (E1 113) q n a b m → Od (20 + 9 * k + 1) C2 D2 M2 E2 q n (120 * k + a) (120 * k + b) m := by
      intro q n a b m hn hb ho
      refine opd_move (120 * k) q n a b m (fun i hi => ?_) (fun i u v => ?_) ho
      · obtain ⟨y1, y2, y3, y4⟩ := b12 i (by omega)
        rw [y1, y2, y3, y4, sI_ne (by omega), sI_ne (by omega), sI_ne (by omega)]
        exact ⟨rfl, rfl, rfl, rfl⟩
      · obtain ⟨y1, y2, y3⟩ := d5 i (by omega) (by omega)
        rw [y1, y2, y3, cm_ne 110 (by omega) (by omega) (by omega) (by omega) (by omega) (by omega) (by omega) (by omega), cm_ne 111 (by omega) (by omega) (by omega) (by omega) (by omega) (by omega) (by omega) (by omega), sJ_ne (by omega), sJ_ne (by omega)]
        exact ⟨rfl, rfl, rfl⟩
    have kk : ∀ q, 96 ≤ q → q ≤ 102 → M2 q k = cmI M1 k nr tt q k := fun q x1 x2 => by rw [d2 q (by omega) (by omega)]
    have k96 : M2 96 k = nn 1 := by rw [kk 96 (by omega) (by omega)]; simp (disch := omega) only [cmI, sI_ne, sI_eq]
    have k97 : M2 97 k = nn 0 := by rw [kk 97 (by omega) (by omega)]; simp (disch := omega) only [cmI, sI_ne, sI_eq]
    have k98 : M2 98 k = nn tt := by rw [kk 98 (by omega) (by omega)]; simp (disch := omega) only [cmI, sI_ne, sI_eq]
    have k99 : M2 99 k = nn nr := by rw [kk 99 (by omega) (by omega)]; simp (disch := omega) only [cmI, sI_ne, sI_eq]
    have k100 : M2 100 k = nn 0 := by rw [kk 100 (by omega) (by omega)]; simp (disch := omega) only [cmI, sI_ne, sI_eq]
    have k101 : M2 101 k = nn 0 := by rw [kk 101 (by omega) (by omega)]; simp (disch := omega) only [cmI, sI_ne, sI_eq]
    have k102 : M2 102 k = nn 0 := by rw [kk 102 (by omega) (by omega)]; simp (disch := omega) only [cmI, sI_ne, sI_eq]
    have k103 : E2 103 k = 0 := by rw [d3 103 (by omega), sJ_eq]
    have k104 : E2 104 k = 0 := by rw [d3 104 (by omega), sJ_ne (by omega), sJ_eq]
    refine ⟨0, C2, D2, M2, E2, ?_, ?_, by omega, ?_, ?_, ?_, ⟨0, T, ?_, ?_⟩, ⟨fun r hr => ?_, fun w hw => ?_, ?_⟩, ?_, fun k' hk' => ?_⟩
    · unfold m_39 b_39_0
      rw [m40_eq hk, Option.bind_some]
      dsimp only
      rw [z1, Option.bind_some]
      dsimp only
      rw [e82, Option.bind_some, if_neg (fun x => x (show nn 0 = 0 from rfl)), b1, Option.bind_some]
    · rw [cm_ok hk z2 z5 g5, hFq]
      exact d1
    · intro q hq
      exact ⟨c_ne q (by omega) (by omega) (by omega), dd_ne q (by omega) (by omega) (by omega)⟩
    · intro q hq
      exact ⟨m_ne q (by omega) (by omega) (by omega) (by omega) (by omega) (by omega) (by omega) (by omega) (by omega) (by omega) (by omega) (by omega) (by omega), e_ne q (by omega) (by omega) (by omega) (by omega) (by omega)⟩
    · rw [m92 0 (by omega) (by omega), sI_eq]
    · exact ⟨by rw [(b2 1 (by omega)).1, sI_eq], Nat.zero_le _, fun i hi => by omega⟩
    · refine ⟨?_, Nat.zero_le _, fun i hi => by omega⟩
      rw [d2 92 (by omega) (by omega)]
      simp (disch := omega) only [cmI, sI_ne, sI_eq]
    · rw [m_ne 94 (by omega) (by omega) (by omega) (by omega) (by omega) (by omega) (by omega) (by omega) (by omega) (by omega) (by omega) (by omega) (by omega), c_ne 4 (by omega) (by omega) (by omega)]; exact m1 r hr
    · rw [m_ne 95 (by omega) (by omega) (by omega) (by omega) (by omega) (by omega) (by omega) (by omega) (by omega) (by omega) (by omega) (by omega) (by omega), c_ne 5 (by omega) (by omega) (by omega)]; exact m2 w hw
    · rw [e92 5 (by omega), dd_ne 3 (by omega) (by omega) (by omega)]; exact m3
    · rw [e92 20 (by omega), dd_ne 0 (by omega) (by omega) (by omega)]; exact h3
    · by_cases hkk : k' = k
      · subst hkk
        rw [k96, b3]
        refine ⟨rfl, Or.inr rfl, fun _ => ⟨?_, ?_, ?_, ?_, ?_, ?_, ⟨0, by omega, k101⟩, ?_, Or.inl b9, z, tt, ⟨?_, g2, g3, k98, g6, ⟨q, m, ?_⟩, fun n hn => ?_⟩, fun hw => ?_⟩⟩
        · rw [b4, k100]
        · rw [b5, k103]
        · rw [b6, k104]
        · rw [b7, k101]; rfl
        · rw [b8, k102]; rfl
        · rw [b11, k99, sI_ne (by omega)]; exact g4
        · rw [k97, b9]
        · rw [b10, sI_ne (by omega)]; exact g1
        · have := odm q (z - 1) 0 tt m (by omega) (Nat.le_refl tt) g7
          rw [Nat.add_zero] at this
          exact this
        · obtain ⟨q2, a2, b2', m2', y1, _, y3⟩ := g8 n hn
          exact ⟨q2, 120 * k' + a2, 120 * k' + b2', m2', by omega, by omega, odm q2 n a2 b2' m2' hn y1 y3⟩
        · exfalso
          rw [b9] at hw
          exact absurd hw (by decide)
      · obtain ⟨a1, a2, a3⟩ := h4 k' hk'
        have x96 : ∀ q, 96 ≤ q → q ≤ 102 → M2 q k' = Im q k' := fun q x1 x2 => by rw [d2 q (by omega) (by omega), cm_k q k' x1 x2 hkk, z4 q (by omega) (by omega) (by omega) (by omega), sI_ne (by omega)]
        rw [x96 96 (by omega) (by omega), c_ne (20 + 9 * k') (by omega) (by omega) (by omega)]
        refine ⟨a1, a2, fun hl => live_fr (by omega) (fun q u v => ⟨c_ne q (by omega) (by omega) (by omega), dd_ne q (by omega) (by omega) (by omega)⟩) (fun q u v => x96 q (by omega) v) ⟨?_, ?_⟩ (fun i u v => ?_) (a3 hl)⟩
        · rw [d3 103 (by omega), sJ_nk hkk, sJ_ne (by omega), z4b 103 (by omega) (by omega)]
        · rw [d3 104 (by omega), sJ_ne (by omega), sJ_nk hkk, z4b 104 (by omega) (by omega)]
        · obtain ⟨y1, y2, y3⟩ := d4 i (by omega)
          rw [y1, y2, y3, cm_ne 105 (by omega) (by omega) (by omega) (by omega) (by omega) (by omega) (by omega) (by omega), cm_ne 106 (by omega) (by omega) (by omega) (by omega) (by omega) (by omega) (by omega) (by omega), z4 105 (by omega) (by omega) (by omega) (by omega), z4 106 (by omega) (by omega) (by omega) (by omega), sI_ne (by omega), sI_ne (by omega), sJ_ne (by omega), sJ_ne (by omega), z4b 107 (by omega) (by omega), e_ne 108 (by omega) (by omega) (by omega) (by omega) (by omega)]
          exact ⟨rfl, rfl, rfl, rfl⟩
  · refine ⟨F, sI C1 1 1 (nn 0), D1, sI M1 92 1 (nn 0), E1, ?_, ?_, z6, ?_, ?_, ?_, ?_⟩
    · unfold m_39 b_39_0
      rw [m40_eq hk, Option.bind_some]
      dsimp only
      rw [z1, Option.bind_some]
      dsimp only
      rw [e82, Option.bind_some, if_pos (show ¬ nn F = 0 from by rw [nn_l, nn_eq (by omega) (by omega)]; exact hF)]
    · exact cm_bad hk z2 z5 (by omega) z6
    · intro q hq
      rw [sI_ne (by omega)]
      exact ⟨z3 q (by omega), z3' q (by omega) (by omega)⟩
    · intro q hq
      rw [sI_ne (by omega), z4 q (by omega) (by omega) (by omega) (by omega), sI_ne (by omega)]
      exact ⟨rfl, z4b q (by omega) (by omega)⟩
    · rw [sI_nk (by omega), z4a 0 (by omega), sI_eq]
    · refine ⟨⟨0, T, hT1, ⟨sI_eq, Nat.zero_le _, fun i hi => by omega⟩⟩, ⟨fun r hr => ?_, fun w hw => ?_, ?_⟩, ?_, fun k' hk' => ?_⟩
      · rw [sI_ne (by omega), z4 94 (by omega) (by omega) (by omega) (by omega), sI_ne (by omega), sI_ne (by omega), z3 4 (by omega)]; exact m1 r hr
      · rw [sI_ne (by omega), z4 95 (by omega) (by omega) (by omega) (by omega), sI_ne (by omega), sI_ne (by omega), z3 5 (by omega)]; exact m2 w hw
      · rw [z4c 5 (by omega), z3' 3 (by omega) (by omega)]; exact m3
      · rw [z4c 20 (by omega), z3' 0 (by omega) (by omega)]; exact h3
      · obtain ⟨a1, a2, a3⟩ := h4 k' hk'
        have e96 : (sI M1 92 1 (nn 0)) 96 = Im 96 := by rw [sI_ne (by omega), z4 96 (by omega) (by omega) (by omega) (by omega), sI_ne (by omega)]
        rw [e96, sI_ne (by omega), z3 (20 + 9 * k') (by omega)]
        refine ⟨a1, a2, fun hl => live_fr (by omega) (fun q u v => ?_) (fun q u v => ?_) ⟨?_, ?_⟩ (fun i u v => ?_) (a3 hl)⟩
        · rw [sI_ne (by omega), z3 q (by omega)]
          exact ⟨rfl, z3' q (by omega) (by omega)⟩
        · rw [sI_ne (by omega), z4 q (by omega) (by omega) (by omega) (by omega), sI_ne (by omega)]
        · rw [z4b 103 (by omega) (by omega)]
        · rw [z4b 104 (by omega) (by omega)]
        · rw [sI_ne (by omega), sI_ne (by omega), z4 105 (by omega) (by omega) (by omega) (by omega), z4 106 (by omega) (by omega) (by omega) (by omega), sI_ne (by omega), sI_ne (by omega), z4b 107 (by omega) (by omega), z4b 108 (by omega) (by omega)]
          exact ⟨rfl, rfl, rfl, rfl⟩
