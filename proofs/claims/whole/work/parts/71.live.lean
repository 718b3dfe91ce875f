/-! A condition that is there: what class and reference hold of it. -/
def Mac (Ic : dI) (Jc : dJ) (Im : dI) (Jm : dJ) : Prop := (∀ r, r < 34 → Im 94 r = Ic 4 r) ∧ (∀ w, w < 256 → Im 95 w = Ic 5 w ∧ ∃ b, b < 256 ∧ Ic 5 w = nn b) ∧ Jm 92 5 = Jc 3 2
def Prg (k sz mn : Nat) (Ic : dI) (Jc : dJ) (Im : dI) (Jm : dJ) : Prop := Ic (20 + 9 * k + 1 + 1) 4 = nn sz ∧ 1 ≤ sz ∧ sz ≤ 40 ∧ Im 98 k = nn mn ∧ mn ≤ 120 ∧ (∃ q m, Od (20 + 9 * k + 1) Ic Jc Im Jm q (sz - 1) (120 * k) (120 * k + mn) m) ∧ (∀ n, n < sz → ∃ q a b m, 120 * k ≤ a ∧ b ≤ 120 * k + mn ∧ Od (20 + 9 * k + 1) Ic Jc Im Jm q n a b m)
def Live (N k : Nat) (Ic : dI) (Jc : dJ) (Im : dI) (Jm : dJ) : Prop := Ic (20 + 9 * k) 2 = Im 100 k ∧ Jc (20 + 9 * k) 3 = Jm 103 k ∧ Jc (20 + 9 * k) 4 = Jm 104 k ∧ Jc (20 + 9 * k) 5 = Int32.toInt64 (Im 101 k) ∧ Jc (20 + 9 * k) 6 = Int32.toInt64 (Im 102 k) ∧ Ic (20 + 9 * k + 1 + 1) 5 = Im 99 k ∧ (∃ z, z ≤ N ∧ Im 101 k = nn z) ∧ Im 97 k = Ic (20 + 9 * k + 1) 4 ∧ (Ic (20 + 9 * k + 1) 4 = nn 0 ∨ Ic (20 + 9 * k + 1) 4 = nn 1) ∧ ∃ sz mn, Prg k sz mn Ic Jc Im Jm ∧ Rem (20 + 9 * k + 1) sz (120 * k) (120 * k + mn) Ic Jc Im Jm
def AgE (k : Nat) (I : dI) (J : dJ) (I' : dI) (J' : dJ) : Prop := I' 94 = I 94 ∧ I' 95 = I 95 ∧ I' 97 k = I 97 k ∧ I' 105 = I 105 ∧ I' 106 = I 106 ∧ J' 107 = J 107 ∧ J' 108 = J 108 ∧ J' 92 5 = J 92 5
theorem age_n {k : Nat} {I I1 : dI} {J J1 : dJ} (h : AgN I J I1 J1) : AgE k I J I1 J1 := by
  obtain ⟨h1, h2, h3, h4⟩ := h
  exact ⟨h1 94 (by omega) (by omega), h1 95 (by omega) (by omega), by rw [h1 97 (by omega) (by omega)], h1 105 (by omega) (by omega), h1 106 (by omega) (by omega), h3 107 (by omega) (by omega) (by omega), h3 108 (by omega) (by omega) (by omega), h4 5 (by omega)⟩
theorem age_tr {k : Nat} {I I1 I2 : dI} {J J1 J2 : dJ} (h : AgE k I J I1 J1) (h' : AgE k I1 J1 I2 J2) : AgE k I J I2 J2 := by
  obtain ⟨a1, a2, a3, a4, a5, a6, a7, a8⟩ := h
  obtain ⟨b1, b2, b3, b4, b5, b6, b7, b8⟩ := h'
  exact ⟨b1.trans a1, b2.trans a2, b3.trans a3, b4.trans a4, b5.trans a5, b6.trans a6, b7.trans a7, b8.trans a8⟩
theorem sim_at {N k sz mn : Nat} {Ic : dI} {Jc : dJ} {Im : dI} {Jm : dJ} (hk : k < 8) (hM : Mac Ic Jc Im Jm) (hP : Prg k sz mn Ic Jc Im Jm) (hw : Im 97 k = Ic (20 + 9 * k + 1) 4) (hw2 : Ic (20 + 9 * k + 1) 4 = nn 0 ∨ Ic (20 + 9 * k + 1) 4 = nn 1) (hR : Rem (20 + 9 * k + 1) sz (120 * k) (120 * k + mn) Ic Jc Im Jm) {J1 : dJ} {I2 : dI} {J2 : dJ} (h1 : AgP (20 + 9 * k + 1) Jc J1) (h2 : AgE k Im Jm I2 J2) {q n a b m : Nat} (hO : Od (20 + 9 * k + 1) Ic Jc Im Jm q n a b m) (hn : n < sz) (ha : 120 * k ≤ a) (hb : b ≤ 120 * k + mn) : ∃ v e g, CR (20 + 9 * k + 1) Ic J1 n v e g ∧ MR (nn k) I2 J2 n a b v e g ∧ (e = nn 0 ∨ e = nn 1 ∨ e = nn 2) := by
  obtain ⟨p1, p2, p3, p4, p5, p6, p7⟩ := hP
  obtain ⟨m1, m2, m3⟩ := hM
  obtain ⟨a1, a2, a3, a4, a5, a6, a7, a8⟩ := h2
  have e5 : J1 (20 + 9 * k + 1 + 1 + 4) = Jc (20 + 9 * k + 1 + 1 + 4) := h1 _ (by omega)
  have e6 : J1 (20 + 9 * k + 1 + 6) = Jc (20 + 9 * k + 1 + 6) := h1 _ (by omega)
  have e3 : J1 3 = Jc 3 := h1 _ (by omega)
  refine sim (sz := sz) (lo := 120 * k) (hi := 120 * k + mn) ⟨by omega, hk, p1, p3, fun r hr => by rw [a1]; exact m1 r hr, fun w hw => by rw [a2]; exact m2 w hw, by rw [a8, e3]; exact m3, by rw [a3]; exact hw, hw2⟩ (by omega) ?_ q n a b m ?_ hn ha hb
  · intro hw q n a b m κ hO2 g1 g2 g3 g4 g5 g6
    rw [e6, a7]
    rw [a4] at g6
    refine hR hw q n a b m κ ?_ g1 g2 g3 g4 g5 g6
    unfold Od at hO2 ⊢
    rw [e5, a4, a5, a6] at hO2
    exact hO2
  · unfold Od at hO ⊢
    rw [e5, a4, a5, a6]
    exact hO
theorem cr_det {p n : Nat} {I : dI} {J : dJ} {v v' : Int64} {e e' : Int32} {g g' : Nat} (hn : n ≤ 40) (h : CR p I J n v e g) (h' : CR p I J n v' e' g') : v = v' ∧ e = e' := by
  have q1 := h 60 0 (nn 0) (by omega) (by omega)
  rw [h' 60 0 (nn 0) (by omega) (by omega)] at q1
  simp only [Option.some.injEq, Prod.mk.injEq] at q1
  refine ⟨q1.1.symm, ?_⟩
  have q2 := congrFun (congrFun q1.2.1 p) 6
  rw [wI_6, wI_6] at q2
  exact q2.symm
theorem mr_det {k n n' a b : Nat} {I : dI} {J : dJ} {v v' : Int64} {e e' : Int32} {g g' : Nat} (hn : n ≤ 60) (hn' : n' ≤ 60) (hb : b - a ≤ 600) (h : MR (nn k) I J n a b v e g) (h' : MR (nn k) I J n' a b v' e' g') : (if e = nn 0 then v else 0) = (if e' = nn 0 then v' else 0) := by
  obtain ⟨I1, J1, q1, _⟩ := work_m h hn hb
  obtain ⟨I2, J2, q2, _⟩ := work_m h' hn' hb
  rw [q1] at q2
  simp only [Option.some.injEq, Prod.mk.injEq] at q2
  exact q2.1
theorem ans_c {k g : Nat} {I : dI} {J J1 : dJ} {rv : Int64} {e : Int32} (hw : m_14 (20 + 9 * k + 1) I J = some (rv, wI (sI I (20 + 9 * k + 1) 4 (nn 1)) (20 + 9 * k + 1) (nn g) e, J1)) : ∃ r i2 h4 f5, m_13 (20 + 9 * k) I J = some (r, sI (wI (sI I (20 + 9 * k + 1) 4 (nn 1)) (20 + 9 * k + 1) (nn g) e) (20 + 9 * k) 2 i2, sJ (sJ (sJ (sJ J1 (20 + 9 * k) 3 rv) (20 + 9 * k) 6 (Int32.toInt64 (nn g))) (20 + 9 * k) 4 h4) (20 + 9 * k) 5 f5) ∧ ((e ≠ nn 0 ∧ r = -e ∧ i2 = I (20 + 9 * k) 2 ∧ h4 = J1 (20 + 9 * k) 4 ∧ f5 = J1 (20 + 9 * k) 5 + 1) ∨ (e = nn 0 ∧ rv = 0 ∧ r = nn 0 ∧ i2 = I (20 + 9 * k) 2 ∧ h4 = J1 (20 + 9 * k) 4 ∧ f5 = J1 (20 + 9 * k) 5) ∨ (e = nn 0 ∧ rv ≠ 0 ∧ I (20 + 9 * k) 2 ≤ nn 0 ∧ r = nn 1 ∧ i2 = I (20 + 9 * k) 2 ∧ h4 = J1 (20 + 9 * k) 4 + 1 ∧ f5 = J1 (20 + 9 * k) 5) ∨ (e = nn 0 ∧ rv ≠ 0 ∧ ¬ I (20 + 9 * k) 2 ≤ nn 0 ∧ r = nn 0 ∧ i2 = I (20 + 9 * k) 2 - nn 1 ∧ h4 = J1 (20 + 9 * k) 4 ∧ f5 = J1 (20 + 9 * k) 5)) := by
  have hc2 : wI (sI I (20 + 9 * k + 1) 4 (nn 1)) (20 + 9 * k + 1) (nn g) e (20 + 9 * k) 2 = I (20 + 9 * k) 2 := by
    rw [wI_ne (by omega), sI_ne (by omega)]
  have idI : ∀ (X : dI) (p j : Nat), sI X p j (X p j) = X := fun X p j => dI_ext fun q i => by
    rw [sI_get]
    split
    · rename_i hh; rw [hh.1, hh.2]
    · rfl
  have idJ : ∀ (X : dJ) (p j : Nat), sJ X p j (X p j) = X := fun X p j => dJ_ext fun q i => by
    rw [sJ_get]
    split
    · rename_i hh; rw [hh.1, hh.2]
    · rfl
  have j4 : (sJ (sJ J1 (20 + 9 * k) 3 rv) (20 + 9 * k) 6 (Int32.toInt64 (nn g))) (20 + 9 * k) 4 = J1 (20 + 9 * k) 4 := by
    rw [sJ_nk (by omega), sJ_nk (by omega)]
  have j5 : ∀ x, (sJ (sJ (sJ J1 (20 + 9 * k) 3 rv) (20 + 9 * k) 6 (Int32.toInt64 (nn g))) (20 + 9 * k) 4 x) (20 + 9 * k) 5 = J1 (20 + 9 * k) 5 := fun x => by
    rw [sJ_nk (by omega), sJ_nk (by omega), sJ_nk (by omega)]
  have iI := idI (wI (sI I (20 + 9 * k + 1) 4 (nn 1)) (20 + 9 * k + 1) (nn g) e) (20 + 9 * k) 2
  rw [hc2] at iI
  have i4 := idJ (sJ (sJ J1 (20 + 9 * k) 3 rv) (20 + 9 * k) 6 (Int32.toInt64 (nn g))) (20 + 9 * k) 4
  rw [j4] at i4
  have i5 := fun x => idJ (sJ (sJ (sJ J1 (20 + 9 * k) 3 rv) (20 + 9 * k) 6 (Int32.toInt64 (nn g))) (20 + 9 * k) 4 x) (20 + 9 * k) 5
  simp only [j5] at i5
  by_cases he : e = nn 0
  · by_cases hv : rv = 0
    · refine ⟨nn 0, _, _, _, ?_, Or.inr (Or.inl ⟨he, hv, rfl, rfl, rfl, rfl⟩)⟩
      rw [iI, i4]
      have i5' := i5 (J1 (20 + 9 * k) 4)
      rw [i4] at i5'
      rw [i5']
      simp (disch := omega) only [m_13, b_13_0, hw, wI_5, wI_6, he, hv, sJ_nk, sJ_eq, lg_eq0, not_true_eq_false, ↓reduceIte, nn_l, nn_o, nn_lt, nn_le, nn_eq, nn_cl, nn_add, nn_sub, if_pos, if_neg, lt_, Option.bind_some, ↓reduceIte, not_true_eq_false, not_false_eq_true, Nat.add_sub_cancel, Nat.add_zero, Nat.reduceSub, Nat.reduceAdd, Nat.reduceMul, Nat.reduceEqDiff, Nat.reduceLT, Nat.reduceLeDiff, or_false, false_or, Nat.not_lt_zero]
    · by_cases hi : I (20 + 9 * k) 2 ≤ nn 0
      · refine ⟨nn 1, _, _, _, ?_, Or.inr (Or.inr (Or.inl ⟨he, hv, hi, rfl, rfl, rfl, rfl⟩))⟩
        rw [iI, i5]
        simp (disch := omega) only [m_13, b_13_0, hw, wI_5, wI_6, he, hv, sJ_nk, sJ_eq, lg_eq0, hc2, hi, not_false_eq_true, ↓reduceIte, nn_l, nn_o, nn_lt, nn_le, nn_eq, nn_cl, nn_add, nn_sub, if_pos, if_neg, lt_, Option.bind_some, ↓reduceIte, not_true_eq_false, not_false_eq_true, Nat.add_sub_cancel, Nat.add_zero, Nat.reduceSub, Nat.reduceAdd, Nat.reduceMul, Nat.reduceEqDiff, Nat.reduceLT, Nat.reduceLeDiff, or_false, false_or, Nat.not_lt_zero]
        simp only [he] at hc2
        simp only [hc2, hi, ↓reduceIte]
      · refine ⟨nn 0, _, _, _, ?_, Or.inr (Or.inr (Or.inr ⟨he, hv, hi, rfl, rfl, rfl, rfl⟩))⟩
        have i5' := i5 (J1 (20 + 9 * k) 4)
        rw [i4] at i5'
        rw [i4, i5']
        simp (disch := omega) only [m_13, b_13_0, hw, wI_5, wI_6, he, hv, sJ_nk, sJ_eq, lg_eq0, hc2, hi, not_false_eq_true, ↓reduceIte, nn_l, nn_o, nn_lt, nn_le, nn_eq, nn_cl, nn_add, nn_sub, if_pos, if_neg, lt_, Option.bind_some, ↓reduceIte, not_true_eq_false, not_false_eq_true, Nat.add_sub_cancel, Nat.add_zero, Nat.reduceSub, Nat.reduceAdd, Nat.reduceMul, Nat.reduceEqDiff, Nat.reduceLT, Nat.reduceLeDiff, or_false, false_or, Nat.not_lt_zero]
        simp only [he] at hc2
        simp only [hc2, hi, ↓reduceIte]
  · refine ⟨-e, _, _, _, ?_, Or.inl ⟨he, rfl, rfl, rfl, rfl⟩⟩
    rw [iI, i4]
    simp (disch := omega) only [m_13, b_13_0, hw, wI_5, wI_6, he, sJ_nk, sJ_eq, ↓reduceIte, nn_l, nn_o, nn_lt, nn_le, nn_eq, nn_cl, nn_add, nn_sub, if_pos, if_neg, lt_, Option.bind_some, ↓reduceIte, not_true_eq_false, not_false_eq_true, Nat.add_sub_cancel, Nat.add_zero, Nat.reduceSub, Nat.reduceAdd, Nat.reduceMul, Nat.reduceEqDiff, Nat.reduceLT, Nat.reduceLeDiff, or_false, false_or, Nat.not_lt_zero]
