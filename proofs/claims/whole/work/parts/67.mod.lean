/-! The reference's evaluator: turns. -/
theorem nn_of {x : Int32} {z : Nat} (hz : z < 2147483648) (h0 : nn 0 < x) (h1 : x ≤ nn z) : ∃ g, 0 < g ∧ g ≤ z ∧ x = nn g := by
  rw [Int32.lt_iff_toInt_lt, nn_i (by omega)] at h0
  rw [Int32.le_iff_toInt_le, nn_i hz] at h1
  refine ⟨x.toInt.toNat, by omega, by omega, ?_⟩
  rw [← Int32.toInt_inj, nn_i (by omega)]
  omega
def stp (k : Int32) (I : dI) (J : dJ) : Option (dI × dJ) := if I 117 (Int32.toNatClampNeg (I 92 32 - nn 1)) = nn 0 then m_122 k (I 92 32 - nn 1) I J else if I 117 (Int32.toNatClampNeg (I 92 32 - nn 1)) = nn 1 then m_126 (I 92 32 - nn 1) I J else m_127 k (I 92 32 - nn 1) I J
def its (k : Int32) : Nat → dI → dJ → Option (dI × dJ)
  | 0, I, J => some (I, J)
  | t + 1, I, J => if nn 0 < I 92 32 ∧ I 92 32 ≤ nn 130 then (stp k I J).bind (fun r => its k t r.1 r.2) else none
theorem its_1 {k : Int32} {t f : Nat} {I I1 I2 : dI} {J J1 J2 : dJ} (hb : I 92 32 = nn (f + 1)) (hf : f < 130) (h1 : stp k I J = some (I1, J1)) (h2 : its k t I1 J1 = some (I2, J2)) : its k (t + 1) I J = some (I2, J2) := by
  simp (disch := omega) only [its, hb, h1, h2, nn_l, nn_o, nn_lt, nn_le, nn_eq, nn_cl, nn_add, nn_sub, if_pos, if_neg, lt_, Option.bind_some, ↓reduceIte, not_true_eq_false, not_false_eq_true, Nat.add_sub_cancel, Nat.add_zero, Nat.reduceSub, Nat.reduceAdd, Nat.reduceMul, Nat.reduceEqDiff, Nat.reduceLT, Nat.reduceLeDiff, or_false, false_or, Nat.not_lt_zero]
theorem its_tr {k : Int32} : ∀ {t u : Nat} {I I1 I2 : dI} {J J1 J2 : dJ}, its k t I J = some (I1, J1) → its k u I1 J1 = some (I2, J2) → its k (t + u) I J = some (I2, J2) := by
  intro t
  induction t with
  | zero =>
    intro u I I1 I2 J J1 J2 h1 h2
    rw [Nat.zero_add]
    simp only [its, Option.some.injEq, Prod.mk.injEq] at h1
    rw [h1.1, h1.2]
    exact h2
  | succ t ih =>
    intro u I I1 I2 J J1 J2 h1 h2
    rw [show t + 1 + u = t + u + 1 by omega]
    simp only [its] at h1 ⊢
    by_cases c : nn 0 < I 92 32 ∧ I 92 32 ≤ nn 130
    · rw [if_pos c] at h1 ⊢
      cases e : stp k I J with
      | none => rw [e] at h1; cases h1
      | some r =>
        rw [e, Option.bind_some] at h1
        rw [Option.bind_some]
        exact ih h1 h2
    · rw [if_neg c] at h1
      cases h1
theorem its_loop {k : Int32} : ∀ {t fu u : Nat} {I I1 : dI} {J J1 : dJ}, its k t I J = some (I1, J1) → I1 92 32 = nn 0 → u + t ≤ 2000 → t < fu → b_120_19 fu k (nn u) I J = some (J1 92 35, I1, J1) := by
  intro t
  induction t with
  | zero =>
    intro fu u I I1 J J1 h1 h2 h3 h4
    obtain ⟨f, rfl⟩ : ∃ f, fu = f + 1 := ⟨fu - 1, by omega⟩
    simp only [its, Option.some.injEq, Prod.mk.injEq] at h1
    obtain ⟨rfl, rfl⟩ := h1
    by_cases c : 2000 ≤ u
    · simp (disch := omega) only [b_120_19, nn_l, nn_o, nn_lt, nn_le, nn_eq, nn_cl, nn_add, nn_sub, if_pos, if_neg, lt_, Option.bind_some, ↓reduceIte, not_true_eq_false, not_false_eq_true, Nat.add_sub_cancel, Nat.add_zero, Nat.reduceSub, Nat.reduceAdd, Nat.reduceMul, Nat.reduceEqDiff, Nat.reduceLT, Nat.reduceLeDiff, or_false, false_or, Nat.not_lt_zero]
    · simp (disch := omega) only [b_120_19, h2, nn_l, nn_o, nn_lt, nn_le, nn_eq, nn_cl, nn_add, nn_sub, if_pos, if_neg, lt_, Option.bind_some, ↓reduceIte, not_true_eq_false, not_false_eq_true, Nat.add_sub_cancel, Nat.add_zero, Nat.reduceSub, Nat.reduceAdd, Nat.reduceMul, Nat.reduceEqDiff, Nat.reduceLT, Nat.reduceLeDiff, or_false, false_or, Nat.not_lt_zero]
  | succ t ih =>
    intro fu u I I1 J J1 h1 h2 h3 h4
    obtain ⟨f, rfl⟩ : ∃ f, fu = f + 1 := ⟨fu - 1, by omega⟩
    simp only [its] at h1
    by_cases c : nn 0 < I 92 32 ∧ I 92 32 ≤ nn 130
    · rw [if_pos c] at h1
      obtain ⟨g, g1, g2, eg⟩ := nn_of (by omega) c.1 c.2
      cases e : stp k I J with
      | none => rw [e] at h1; cases h1
      | some r =>
        rw [e, Option.bind_some] at h1
        have h5 := ih (fu := f) (u := u + 1) h1 h2 (by omega) (by omega)
        have e2 : nn g - nn 1 = nn (g - 1) := nn_sub (by omega)
        simp only [stp, eg, e2] at e
        rw [nn_cl (by omega)] at e
        by_cases c0 : I 117 (g - 1) = nn 0
        · rw [if_pos c0] at e
          simp (disch := omega) only [b_120_19, b_120_89, eg, e, e2, c0, h5, not_true_eq_false, ↓reduceIte, nn_l, nn_o, nn_lt, nn_le, nn_eq, nn_cl, nn_add, nn_sub, if_pos, if_neg, lt_, Option.bind_some, ↓reduceIte, not_true_eq_false, not_false_eq_true, Nat.add_sub_cancel, Nat.add_zero, Nat.reduceSub, Nat.reduceAdd, Nat.reduceMul, Nat.reduceEqDiff, Nat.reduceLT, Nat.reduceLeDiff, or_false, false_or, Nat.not_lt_zero]
        · rw [if_neg c0] at e
          by_cases c1 : I 117 (g - 1) = nn 1
          · rw [if_pos c1] at e
            simp (disch := omega) only [b_120_19, b_120_89, eg, e, e2, c1, h5, not_true_eq_false, ↓reduceIte, nn_l, nn_o, nn_lt, nn_le, nn_eq, nn_cl, nn_add, nn_sub, if_pos, if_neg, lt_, Option.bind_some, ↓reduceIte, not_true_eq_false, not_false_eq_true, Nat.add_sub_cancel, Nat.add_zero, Nat.reduceSub, Nat.reduceAdd, Nat.reduceMul, Nat.reduceEqDiff, Nat.reduceLT, Nat.reduceLeDiff, or_false, false_or, Nat.not_lt_zero]
          · rw [if_neg c1] at e
            simp (disch := omega) only [b_120_19, b_120_89, eg, e, e2, c0, c1, h5, not_false_eq_true, ↓reduceIte, nn_l, nn_o, nn_lt, nn_le, nn_eq, nn_cl, nn_add, nn_sub, if_pos, if_neg, lt_, Option.bind_some, ↓reduceIte, not_true_eq_false, not_false_eq_true, Nat.add_sub_cancel, Nat.add_zero, Nat.reduceSub, Nat.reduceAdd, Nat.reduceMul, Nat.reduceEqDiff, Nat.reduceLT, Nat.reduceLeDiff, or_false, false_or, Nat.not_lt_zero]
    · rw [if_neg c] at h1
      cases h1
def Ag (I : dI) (J : dJ) (I' : dI) (J' : dJ) : Prop := (∀ q, q ≠ 92 → (q < 114 ∨ 118 < q) → I' q = I q) ∧ (∀ j, j < 32 ∨ 35 < j → I' 92 j = I 92 j) ∧ (∀ q, q ≠ 92 → q ≠ 118 → J' q = J q) ∧ (∀ j, j ≠ 35 → J' 92 j = J 92 j)
theorem ag_tr {I I1 I2 : dI} {J J1 J2 : dJ} (h : Ag I J I1 J1) (h' : Ag I1 J1 I2 J2) : Ag I J I2 J2 :=
  ⟨fun q a b => (h'.1 q a b).trans (h.1 q a b), fun j a => (h'.2.1 j a).trans (h.2.1 j a), fun q a b => (h'.2.2.1 q a b).trans (h.2.2.1 q a b), fun j a => (h'.2.2.2 j a).trans (h.2.2.2 j a)⟩
theorem ag_rf (I : dI) (J : dJ) : Ag I J I J := ⟨fun _ _ _ => rfl, fun _ _ => rfl, fun _ _ _ => rfl, fun _ _ => rfl⟩
theorem ag_I {I I1 : dI} {J J1 : dJ} {p k : Nat} {v : Int32} (h : Ag I J I1 J1) (hp : (114 ≤ p ∧ p ≤ 118) ∨ (p = 92 ∧ 32 ≤ k ∧ k ≤ 35)) : Ag I J (sI I1 p k v) J1 := by
  refine ⟨fun q a b => ?_, fun j a => ?_, h.2.2.1, h.2.2.2⟩
  · rw [sI_ne (by omega)]
    exact h.1 q a b
  · rw [sI_get, if_neg (by omega)]
    exact h.2.1 j a
theorem ag_J {I I1 : dI} {J J1 : dJ} {p k : Nat} {v : Int64} (h : Ag I J I1 J1) (hp : p = 118 ∨ (p = 92 ∧ k = 35)) : Ag I J I1 (sJ J1 p k v) := by
  refine ⟨h.1, h.2.1, fun q a b => ?_, fun j a => ?_⟩
  · rw [sJ_ne (by omega)]
    exact h.2.2.1 q a b
  · rw [sJ_get, if_neg (by omega)]
    exact h.2.2.2 j a
def Rw (f : Nat) (I : dI) (J : dJ) (I' : dI) (J' : dJ) : Prop := ∀ i, i < f → I' 114 i = I 114 i ∧ I' 115 i = I 115 i ∧ I' 116 i = I 116 i ∧ I' 117 i = I 117 i ∧ J' 118 i = J 118 i
theorem rw_tr {f : Nat} {I I1 I2 : dI} {J J1 J2 : dJ} (h : Rw f I J I1 J1) (h' : Rw f I1 J1 I2 J2) : Rw f I J I2 J2 := fun i hi => by
  obtain ⟨a1, a2, a3, a4, a5⟩ := h i hi
  obtain ⟨b1, b2, b3, b4, b5⟩ := h' i hi
  exact ⟨b1.trans a1, b2.trans a2, b3.trans a3, b4.trans a4, b5.trans a5⟩
theorem rw_dn {f f' : Nat} {I I1 : dI} {J J1 : dJ} (hf : f ≤ f') (h : Rw f' I J I1 J1) : Rw f I J I1 J1 := fun i hi => h i (by omega)
theorem rw_rf (f : Nat) (I : dI) (J : dJ) : Rw f I J I J := fun _ _ => ⟨rfl, rfl, rfl, rfl, rfl⟩
theorem rw_I {f : Nat} {I I1 : dI} {J J1 : dJ} {p k : Nat} {v : Int32} (h : Rw f I J I1 J1) (hp : f ≤ k ∨ p = 92) : Rw f I J (sI I1 p k v) J1 := by
  intro i hi
  obtain ⟨a1, a2, a3, a4, a5⟩ := h i hi
  refine ⟨?_, ?_, ?_, ?_, a5⟩
  · rw [sI_get, if_neg (by omega)]; exact a1
  · rw [sI_get, if_neg (by omega)]; exact a2
  · rw [sI_get, if_neg (by omega)]; exact a3
  · rw [sI_get, if_neg (by omega)]; exact a4
theorem rw_J {f : Nat} {I I1 : dI} {J J1 : dJ} {p k : Nat} {v : Int64} (h : Rw f I J I1 J1) (hp : f ≤ k ∨ p = 92) : Rw f I J I1 (sJ J1 p k v) := by
  intro i hi
  obtain ⟨a1, a2, a3, a4, a5⟩ := h i hi
  refine ⟨a1, a2, a3, a4, ?_⟩
  rw [sJ_get, if_neg (by omega)]; exact a5
def Top (I : dI) (f a b st : Nat) : Prop := I 92 32 = nn (f + 1) ∧ I 114 f = nn a ∧ I 115 f = nn b ∧ I 117 f = nn st
def bg (I : dI) (f a b : Nat) : dI := sI (sI (sI (sI I 114 f (nn a)) 115 f (nn b)) 117 f (nn 0)) 92 32 (nn (f + 1))
theorem bg_ok {I : dI} {f a b : Nat} (J : dJ) (hb : I 92 32 = nn f) (hf : f < 130) : m_121 (nn a) (nn b) I J = some (bg I f a b, J) := by
  simp (disch := omega) only [m_121, b_121_0, bg, hb, sI_ne, sI_nk, nn_l, nn_o, nn_lt, nn_le, nn_eq, nn_cl, nn_add, nn_sub, if_pos, if_neg, lt_, Option.bind_some, ↓reduceIte, not_true_eq_false, not_false_eq_true, Nat.add_sub_cancel, Nat.add_zero, Nat.reduceSub, Nat.reduceAdd, Nat.reduceMul, Nat.reduceEqDiff, Nat.reduceLT, Nat.reduceLeDiff, or_false, false_or, Nat.not_lt_zero]
theorem bg_ag {I I0 : dI} {J J0 : dJ} {f a b : Nat} (h : Ag I0 J0 I J) : Ag I0 J0 (bg I f a b) J := ag_I (ag_I (ag_I (ag_I h (by omega)) (by omega)) (by omega)) (by omega)
theorem bg_rw {I I0 : dI} {J J0 : dJ} {f g a b : Nat} (h : Rw f I0 J0 I J) (hg : f ≤ g) : Rw f I0 J0 (bg I g a b) J := rw_I (rw_I (rw_I (rw_I h (by omega)) (by omega)) (by omega)) (by omega)
theorem bg_top {I : dI} {f a b : Nat} : Top (bg I f a b) f a b 0 := by
  refine ⟨sI_eq, ?_, ?_, ?_⟩ <;> simp (disch := omega) only [bg, sI_ne, sI_eq]
theorem bg_92 {I : dI} {f a b j : Nat} (h : j ≠ 32) : bg I f a b 92 j = I 92 j := by
  simp (disch := omega) only [bg, sI_ne, sI_nk]
theorem bg_row {I : dI} {f g a b q : Nat} (h : g ≠ f) (hq : 114 ≤ q) : bg I f a b q g = I q g := by
  simp only [bg, sI_get]
  repeat rw [if_neg (by omega)]
def MR (k : Int32) (I0 : dI) (J0 : dJ) (n a b : Nat) (v : Int64) (e : Int32) (g : Nat) : Prop := ∀ f I J, f + n ≤ 60 → Ag I0 J0 I J → Top I f a b 0 → I 92 34 = nn 0 → ∃ t I' J', t ≤ 3 * (b - a) ∧ its k t I J = some (I', J') ∧ Ag I0 J0 I' J' ∧ Rw f I J I' J' ∧ I' 92 33 = I 92 33 + nn g ∧ (e = nn 0 → I' 92 32 = nn f ∧ J' 92 35 = v ∧ I' 92 34 = nn 0) ∧ (e ≠ nn 0 → I' 92 32 = nn 0 ∧ J' 92 35 = 0 ∧ I' 92 34 = e)
theorem stp_0 {k : Int32} {I : dI} {J : dJ} {f a b : Nat} (h : Top I f a b 0) (hf : f < 130) : stp k I J = m_122 k (nn f) I J := by
  obtain ⟨h1, _, _, h4⟩ := h
  simp (disch := omega) only [stp, h1, h4, Nat.add_sub_cancel, nn_l, nn_o, nn_lt, nn_le, nn_eq, nn_cl, nn_add, nn_sub, if_pos, if_neg, lt_, Option.bind_some, ↓reduceIte, not_true_eq_false, not_false_eq_true, Nat.add_sub_cancel, Nat.add_zero, Nat.reduceSub, Nat.reduceAdd, Nat.reduceMul, Nat.reduceEqDiff, Nat.reduceLT, Nat.reduceLeDiff, or_false, false_or, Nat.not_lt_zero]
theorem stp_1 {k : Int32} {I : dI} {J : dJ} {f a b : Nat} (h : Top I f a b 1) (hf : f < 130) : stp k I J = m_126 (nn f) I J := by
  obtain ⟨h1, _, _, h4⟩ := h
  simp (disch := omega) only [stp, h1, h4, Nat.add_sub_cancel, nn_l, nn_o, nn_lt, nn_le, nn_eq, nn_cl, nn_add, nn_sub, if_pos, if_neg, lt_, Option.bind_some, ↓reduceIte, not_true_eq_false, not_false_eq_true, Nat.add_sub_cancel, Nat.add_zero, Nat.reduceSub, Nat.reduceAdd, Nat.reduceMul, Nat.reduceEqDiff, Nat.reduceLT, Nat.reduceLeDiff, or_false, false_or, Nat.not_lt_zero]
theorem stp_2 {k : Int32} {I : dI} {J : dJ} {f a b : Nat} (h : Top I f a b 2) (hf : f < 130) : stp k I J = m_127 k (nn f) I J := by
  obtain ⟨h1, _, _, h4⟩ := h
  simp (disch := omega) only [stp, h1, h4, Nat.add_sub_cancel, nn_l, nn_o, nn_lt, nn_le, nn_eq, nn_cl, nn_add, nn_sub, if_pos, if_neg, lt_, Option.bind_some, ↓reduceIte, not_true_eq_false, not_false_eq_true, Nat.add_sub_cancel, Nat.add_zero, Nat.reduceSub, Nat.reduceAdd, Nat.reduceMul, Nat.reduceEqDiff, Nat.reduceLT, Nat.reduceLeDiff, or_false, false_or, Nat.not_lt_zero]
theorem mr_par {k : Int32} {I0 : dI} {J0 : dJ} {n a b g : Nat} {v : Int64} {e : Int32} (ha : a + 2 < b) (hb : b ≤ 960) (hk : I0 105 a = nn 30) (hp : I0 106 a = nn (b - 1)) (h : MR k I0 J0 n (a + 1) (b - 1) v e g) : MR k I0 J0 n a b v e g := by
  intro f I J hf hA hT h34
  have k1 : I 105 a = nn 30 := by rw [hA.1 105 (by omega) (by omega)]; exact hk
  have k2 : I 106 a = nn (b - 1) := by rw [hA.1 106 (by omega) (by omega)]; exact hp
  have hT' := hT
  obtain ⟨t1, t2, t3, t4⟩ := hT
  have s1 : stp k I J = some (sI (sI I 114 f (nn (a + 1))) 115 f (nn (b - 1)), J) := by
    rw [stp_0 hT' (by omega)]
    simp (disch := omega) only [m_122, b_122_0, t2, t3, k1, k2, sI_ne, not_true_eq_false, ↓reduceIte, nn_l, nn_o, nn_lt, nn_le, nn_eq, nn_cl, nn_add, nn_sub, if_pos, if_neg, lt_, Option.bind_some, ↓reduceIte, not_true_eq_false, not_false_eq_true, Nat.add_sub_cancel, Nat.add_zero, Nat.reduceSub, Nat.reduceAdd, Nat.reduceMul, Nat.reduceEqDiff, Nat.reduceLT, Nat.reduceLeDiff, or_false, false_or, Nat.not_lt_zero]
  obtain ⟨t, I', J', q1, q2, q3, q4, q5, q6, q7⟩ := h f (sI (sI I 114 f (nn (a + 1))) 115 f (nn (b - 1))) J hf (ag_I (ag_I hA (by omega)) (by omega)) ⟨by rw [sI_ne (by omega), sI_ne (by omega)]; exact t1, by rw [sI_ne (by omega), sI_eq], sI_eq, by rw [sI_ne (by omega), sI_ne (by omega)]; exact t4⟩ (by rw [sI_ne (by omega), sI_ne (by omega)]; exact h34)
  refine ⟨t + 1, I', J', by omega, its_1 t1 (by omega) s1 q2, q3, rw_tr (rw_I (rw_I (rw_rf f I J) (by omega)) (by omega)) q4, ?_, q6, q7⟩
  rw [q5, sI_ne (by omega), sI_ne (by omega)]
def nl (I : dI) (f a : Nat) : dI := sI (sI (sI (sI I 92 33 (I 92 33 + nn 1)) 116 f (-(nn 1))) 117 f (nn 2)) 116 f (nn a)
theorem nl_ag {I I0 : dI} {J J0 : dJ} {f a : Nat} (h : Ag I0 J0 I J) : Ag I0 J0 (nl I f a) J := ag_I (ag_I (ag_I (ag_I h (by omega)) (by omega)) (by omega)) (by omega)
theorem nl_rw {I I0 : dI} {J J0 : dJ} {f a : Nat} (h : Rw f I0 J0 I J) : Rw f I0 J0 (nl I f a) J := rw_I (rw_I (rw_I (rw_I h (by omega)) (by omega)) (by omega)) (by omega)
theorem nl_row {I : dI} {f a q : Nat} (h1 : q ≠ 92) (h2 : q ≠ 116) (h3 : q ≠ 117) : nl I f a q = I q := by
  simp (disch := omega) only [nl, sI_ne]
theorem nl_32 {I : dI} {f a : Nat} : nl I f a 92 32 = I 92 32 := by simp (disch := omega) only [nl, sI_ne, sI_nk]
theorem nl_33 {I : dI} {f a : Nat} : nl I f a 92 33 = I 92 33 + nn 1 := by simp (disch := omega) only [nl, sI_ne, sI_eq]
theorem nl_34 {I : dI} {f a : Nat} : nl I f a 92 34 = I 92 34 := by simp (disch := omega) only [nl, sI_ne, sI_nk]
theorem nl_116 {I : dI} {f a : Nat} : nl I f a 116 f = nn a := sI_eq
theorem nl_117 {I : dI} {f a : Nat} : nl I f a 117 f = nn 2 := by simp (disch := omega) only [nl, sI_ne, sI_eq]
theorem mr_leaf {k : Int32} {I0 : dI} {J0 : dJ} {n a b : Nat} {v : Int64} (hab : a < b) (h : ∀ f I J, f + n ≤ 60 → Ag I0 J0 I J → Top I f a b 0 → stp k I J = some (sI (nl I f a) 92 32 (nn f), sJ J 92 35 v)) : MR k I0 J0 n a b v (nn 0) 1 := by
  intro f I J hf hA hT h34
  refine ⟨1, _, _, by omega, its_1 (t := 0) hT.1 (by omega) (h f I J hf hA hT) rfl, ag_J (ag_I (nl_ag hA) (by omega)) (by omega), rw_J (rw_I (nl_rw (rw_rf f I J)) (by omega)) (by omega), ?_, fun _ => ⟨sI_eq, sJ_eq, ?_⟩, fun x => absurd rfl x⟩
  · rw [sI_nk (by omega), nl_33]
  · rw [sI_nk (by omega), nl_34, h34]
def Out (f : Nat) (I : dI) (J : dJ) (w : Int64) (e : Int32) (I' : dI) (J' : dJ) : Prop := (e = nn 0 ∧ I' = sI I 92 32 (nn f) ∧ J' = sJ J 92 35 w) ∨ (e ≠ nn 0 ∧ I' = sI (sI I 92 34 e) 92 32 (nn 0) ∧ J' = sJ J 92 35 0)
theorem out_ok {f : Nat} {I0 I I' : dI} {J0 J J' : dJ} {w : Int64} {e : Int32} (h : Out f I J w e I' J') (hA : Ag I0 J0 I J) (h34 : I 92 34 = nn 0) : Ag I0 J0 I' J' ∧ (∀ g, Rw g I J I' J') ∧ I' 92 33 = I 92 33 ∧ (e = nn 0 → I' 92 32 = nn f ∧ J' 92 35 = w ∧ I' 92 34 = nn 0) ∧ (e ≠ nn 0 → I' 92 32 = nn 0 ∧ J' 92 35 = 0 ∧ I' 92 34 = e) := by
  rcases h with ⟨h, rfl, rfl⟩ | ⟨h, rfl, rfl⟩
  · refine ⟨ag_J (ag_I hA (by omega)) (by omega), fun g => rw_J (rw_I (rw_rf g I J) (by omega)) (by omega), sI_nk (by omega), fun _ => ⟨sI_eq, sJ_eq, ?_⟩, fun x => absurd h x⟩
    rw [sI_nk (by omega)]; exact h34
  · refine ⟨ag_J (ag_I (ag_I hA (by omega)) (by omega)) (by omega), fun g => rw_J (rw_I (rw_I (rw_rf g I J) (by omega)) (by omega)) (by omega), ?_, fun x => absurd x h, fun _ => ⟨sI_eq, sJ_eq, ?_⟩⟩
    · rw [sI_nk (by omega), sI_nk (by omega)]
    · rw [sI_nk (by omega), sI_eq]
theorem mr_un {k : Int32} {I0 : dI} {J0 : dJ} {n c a b a' b' g : Nat} {v w : Int64} {e e' : Int32} (hc : c < n) (ha : a < a') (hb : b' ≤ b) (hab : a' < b') (h1 : ∀ f I J, f + n ≤ 60 → Ag I0 J0 I J → Top I f a b 0 → stp k I J = some (bg (nl I f a) (f + 1) a' b', J)) (h2 : MR k I0 J0 c a' b' v e g) (h3 : e = nn 0 → ∀ f I J, f + n ≤ 60 → Ag I0 J0 I J → Top I f a b 2 → I 116 f = nn a → J 92 35 = v → ∃ I' J', stp k I J = some (I', J') ∧ Out f I J w e' I' J') (h4 : e ≠ nn 0 → e' = e) : MR k I0 J0 n a b w e' (1 + g) := by
  intro f I J hf hA hT h34
  have hT' := hT
  obtain ⟨t1, t2, t3, t4⟩ := hT
  obtain ⟨t, I1, J1, q1, q2, q3, q4, q5, q6, q7⟩ := h2 (f + 1) (bg (nl I f a) (f + 1) a' b') J (by omega) (bg_ag (nl_ag hA)) bg_top (by rw [bg_92 (by omega), nl_34, h34])
  have s1 := its_1 t1 (by omega) (h1 f I J hf hA hT') q2
  rw [bg_92 (by omega), nl_33, nn_asc] at q5
  have r1 : Rw f I J I1 J1 := rw_tr (bg_rw (nl_rw (rw_rf f I J)) (by omega)) (rw_dn (by omega) q4)
  by_cases he : e = nn 0
  · obtain ⟨u1, u2, u3⟩ := q6 he
    obtain ⟨x1, x2, x3, x4, _⟩ := q4 f (by omega)
    have y1 : I1 114 f = nn a := by rw [x1, bg_row (by omega) (by omega), nl_row (by omega) (by omega) (by omega), t2]
    have y2 : I1 115 f = nn b := by rw [x2, bg_row (by omega) (by omega), nl_row (by omega) (by omega) (by omega), t3]
    have y3 : I1 116 f = nn a := by rw [x3, bg_row (by omega) (by omega), nl_116]
    have y4 : I1 117 f = nn 2 := by rw [x4, bg_row (by omega) (by omega), nl_117]
    obtain ⟨I2, J2, z1, z2⟩ := h3 he f I1 J1 hf q3 ⟨u1, y1, y2, y4⟩ y3 u2
    obtain ⟨o1, o2, o3, o4, o5⟩ := out_ok z2 q3 u3
    exact ⟨t + 1 + 1, I2, J2, by omega, its_tr s1 (its_1 (t := 0) u1 (by omega) z1 rfl), o1, rw_tr r1 (o2 f), by rw [o3, q5], o4, o5⟩
  · rw [h4 he]
    exact ⟨t + 1, I1, J1, by omega, s1, q3, r1, q5, fun x => absurd x he, q7⟩
def nb (I : dI) (f s : Nat) : dI := sI (sI (sI I 92 33 (I 92 33 + nn 1)) 116 f (nn s)) 117 f (nn 1)
theorem nb_ag {I I0 : dI} {J J0 : dJ} {f a : Nat} (h : Ag I0 J0 I J) : Ag I0 J0 (nb I f a) J := ag_I (ag_I (ag_I h (by omega)) (by omega)) (by omega)
theorem nb_rw {I I0 : dI} {J J0 : dJ} {f a : Nat} (h : Rw f I0 J0 I J) : Rw f I0 J0 (nb I f a) J := rw_I (rw_I (rw_I h (by omega)) (by omega)) (by omega)
theorem nb_row {I : dI} {f a q : Nat} (h1 : q ≠ 92) (h2 : q ≠ 116) (h3 : q ≠ 117) : nb I f a q = I q := by
  simp (disch := omega) only [nb, sI_ne]
theorem nb_32 {I : dI} {f a : Nat} : nb I f a 92 32 = I 92 32 := by simp (disch := omega) only [nb, sI_ne, sI_nk]
theorem nb_33 {I : dI} {f a : Nat} : nb I f a 92 33 = I 92 33 + nn 1 := by simp (disch := omega) only [nb, sI_ne, sI_eq]
theorem nb_34 {I : dI} {f a : Nat} : nb I f a 92 34 = I 92 34 := by simp (disch := omega) only [nb, sI_ne, sI_nk]
theorem nb_116 {I : dI} {f a : Nat} : nb I f a 116 f = nn a := by simp (disch := omega) only [nb, sI_ne, sI_eq]
theorem nb_117 {I : dI} {f a : Nat} : nb I f a 117 f = nn 1 := sI_eq
theorem mr_left {k : Int32} {I0 : dI} {J0 : dJ} {n c a b s g : Nat} {v : Int64} {e : Int32} (hc : c < n) (ha : a < s) (hb : s + 1 < b) (h1 : ∀ f I J, f + n ≤ 60 → Ag I0 J0 I J → Top I f a b 0 → stp k I J = some (bg (nb I f s) (f + 1) a s, J)) (h2 : MR k I0 J0 c a s v e g) : ∀ f I J, f + n ≤ 60 → Ag I0 J0 I J → Top I f a b 0 → I 92 34 = nn 0 → ∃ t I' J', t ≤ 1 + 3 * (s - a) ∧ its k t I J = some (I', J') ∧ Ag I0 J0 I' J' ∧ Rw f I J I' J' ∧ I' 92 33 = I 92 33 + nn (1 + g) ∧ (e = nn 0 → Top I' f a b 1 ∧ I' 116 f = nn s ∧ J' 92 35 = v ∧ I' 92 34 = nn 0) ∧ (e ≠ nn 0 → I' 92 32 = nn 0 ∧ J' 92 35 = 0 ∧ I' 92 34 = e) := by
  intro f I J hf hA hT h34
  have hT' := hT
  obtain ⟨t1, t2, t3, t4⟩ := hT
  obtain ⟨t, I1, J1, q1, q2, q3, q4, q5, q6, q7⟩ := h2 (f + 1) (bg (nb I f s) (f + 1) a s) J (by omega) (bg_ag (nb_ag hA)) bg_top (by rw [bg_92 (by omega), nb_34, h34])
  have s1 := its_1 t1 (by omega) (h1 f I J hf hA hT') q2
  rw [bg_92 (by omega), nb_33, nn_asc] at q5
  have r1 : Rw f I J I1 J1 := rw_tr (bg_rw (nb_rw (rw_rf f I J)) (by omega)) (rw_dn (by omega) q4)
  obtain ⟨x1, x2, x3, x4, _⟩ := q4 f (by omega)
  have y1 : I1 114 f = nn a := by rw [x1, bg_row (by omega) (by omega), nb_row (by omega) (by omega) (by omega), t2]
  have y2 : I1 115 f = nn b := by rw [x2, bg_row (by omega) (by omega), nb_row (by omega) (by omega) (by omega), t3]
  have y3 : I1 116 f = nn s := by rw [x3, bg_row (by omega) (by omega), nb_116]
  have y4 : I1 117 f = nn 1 := by rw [x4, bg_row (by omega) (by omega), nb_117]
  exact ⟨t + 1, I1, J1, by omega, s1, q3, r1, q5, fun he => ⟨⟨(q6 he).1, y1, y2, y4⟩, y3, (q6 he).2⟩, q7⟩
theorem mr_bad1 {k : Int32} {I0 : dI} {J0 : dJ} {n c a b s g : Nat} {v w : Int64} {e : Int32} (hc : c < n) (ha : a < s) (hb : s + 1 < b) (h1 : ∀ f I J, f + n ≤ 60 → Ag I0 J0 I J → Top I f a b 0 → stp k I J = some (bg (nb I f s) (f + 1) a s, J)) (h2 : MR k I0 J0 c a s v e g) (he : e ≠ nn 0) : MR k I0 J0 n a b w e (1 + g) := by
  intro f I J hf hA hT h34
  obtain ⟨t, I1, J1, q1, q2, q3, q4, q5, q6, q7⟩ := mr_left hc ha hb h1 h2 f I J hf hA hT h34
  exact ⟨t, I1, J1, by omega, q2, q3, q4, q5, fun x => absurd x he, q7⟩
theorem mr_half {k : Int32} {I0 : dI} {J0 : dJ} {n c a b s g : Nat} {v w : Int64} (hc : c < n) (ha : a < s) (hb : s + 1 < b) (h1 : ∀ f I J, f + n ≤ 60 → Ag I0 J0 I J → Top I f a b 0 → stp k I J = some (bg (nb I f s) (f + 1) a s, J)) (h2 : MR k I0 J0 c a s v (nn 0) g) (h3 : ∀ f I J, f + n ≤ 60 → Ag I0 J0 I J → Top I f a b 1 → I 116 f = nn s → J 92 35 = v → stp k I J = some (sI I 92 32 (nn f), sJ (sJ J 118 f v) 92 35 w)) : MR k I0 J0 n a b w (nn 0) (1 + g) := by
  intro f I J hf hA hT h34
  obtain ⟨t, I1, J1, q1, q2, q3, q4, q5, q6, q7⟩ := mr_left hc ha hb h1 h2 f I J hf hA hT h34
  obtain ⟨u1, u2, u3, u4⟩ := q6 rfl
  refine ⟨t + 1, _, _, by omega, its_tr q2 (its_1 (t := 0) u1.1 (by omega) (h3 f I1 J1 hf q3 u1 u2 u3) rfl), ag_J (ag_J (ag_I q3 (by omega)) (by omega)) (by omega), rw_tr q4 (rw_J (rw_J (rw_I (rw_rf f I1 J1) (by omega)) (by omega)) (by omega)), ?_, fun _ => ⟨sI_eq, sJ_eq, ?_⟩, fun x => absurd rfl x⟩
  · rw [sI_nk (by omega), q5]
  · rw [sI_nk (by omega), u4]
theorem mr_bin {k : Int32} {I0 : dI} {J0 : dJ} {n c d a b s g g2 : Nat} {v v2 w : Int64} {e e' : Int32} (hc : c < n) (hd : d < n) (ha : a < s) (hb : s + 1 < b) (h1 : ∀ f I J, f + n ≤ 60 → Ag I0 J0 I J → Top I f a b 0 → stp k I J = some (bg (nb I f s) (f + 1) a s, J)) (h2 : MR k I0 J0 c a s v (nn 0) g) (h3 : ∀ f I J, f + n ≤ 60 → Ag I0 J0 I J → Top I f a b 1 → I 116 f = nn s → J 92 35 = v → stp k I J = some (bg (sI I 117 f (nn 2)) (f + 1) (s + 1) b, sJ J 118 f v)) (h4 : MR k I0 J0 d (s + 1) b v2 e g2) (h5 : e = nn 0 → ∀ f I J, f + n ≤ 60 → Ag I0 J0 I J → Top I f a b 2 → I 116 f = nn s → J 118 f = v → J 92 35 = v2 → ∃ I' J', stp k I J = some (I', J') ∧ Out f I J w e' I' J') (h6 : e ≠ nn 0 → e' = e) : MR k I0 J0 n a b w e' (1 + g + g2) := by
  intro f I J hf hA hT h34
  obtain ⟨t, I1, J1, q1, q2, q3, q4, q5, q6, _⟩ := mr_left hc ha hb h1 h2 f I J hf hA hT h34
  obtain ⟨u1, u2, u3, u4⟩ := q6 rfl
  have st := h3 f I1 J1 hf q3 u1 u2 u3
  obtain ⟨t1, t2, t3, t4⟩ := u1
  obtain ⟨t', I2, J2, p1, p2, p3, p4, p5, p6, p7⟩ := h4 (f + 1) (bg (sI I1 117 f (nn 2)) (f + 1) (s + 1) b) (sJ J1 118 f v) (by omega) (bg_ag (ag_J (ag_I q3 (by omega)) (by omega))) bg_top (by rw [bg_92 (by omega), sI_ne (by omega), u4])
  have s2 := its_tr q2 (its_1 t1 (by omega) st p2)
  rw [bg_92 (by omega), sI_ne (by omega), q5, nn_asc] at p5
  have r2 : Rw f I J I2 J2 := rw_tr q4 (rw_tr (bg_rw (rw_J (rw_I (rw_rf f I1 J1) (by omega)) (by omega)) (by omega)) (rw_dn (by omega) p4))
  by_cases he : e = nn 0
  · obtain ⟨v1, v3, v4⟩ := p6 he
    obtain ⟨x1, x2, x3, x4, x5⟩ := p4 f (by omega)
    have y1 : I2 114 f = nn a := by rw [x1, bg_row (by omega) (by omega), sI_ne (by omega), t2]
    have y2 : I2 115 f = nn b := by rw [x2, bg_row (by omega) (by omega), sI_ne (by omega), t3]
    have y3 : I2 116 f = nn s := by rw [x3, bg_row (by omega) (by omega), sI_ne (by omega), u2]
    have y4 : I2 117 f = nn 2 := by rw [x4, bg_row (by omega) (by omega), sI_eq]
    have y5 : J2 118 f = v := by rw [x5, sJ_eq]
    obtain ⟨I3, J3, z1, z2⟩ := h5 he f I2 J2 hf p3 ⟨v1, y1, y2, y4⟩ y3 y5 v3
    obtain ⟨o1, o2, o3, o4, o5⟩ := out_ok z2 p3 v4
    exact ⟨t + (t' + 1) + 1, I3, J3, by omega, its_tr s2 (its_1 (t := 0) v1 (by omega) z1 rfl), o1, rw_tr r2 (o2 f), by rw [o3, p5], o4, o5⟩
  · rw [h6 he]
    exact ⟨t + (t' + 1), I2, J2, by omega, s2, p3, r2, p5, fun x => absurd x he, p7⟩
