/-! Numbers: the reference. -/
def OS (I : dI) (J : dJ) (I' : dI) (J' : dJ) : Prop := (∀ q, q ≠ 92 → I' q = I q ∧ J' q = J q) ∧ (∀ j, j ≠ 21 → j ≠ 22 → j ≠ 23 → I' 92 j = I 92 j) ∧ (∀ j, j ≠ 27 → J' 92 j = J 92 j)
theorem os_r (I : dI) (J : dJ) : OS I J I J := ⟨fun _ _ => ⟨rfl, rfl⟩, fun _ _ _ _ => rfl, fun _ _ => rfl⟩
theorem os_s {I I1 : dI} {J J1 : dJ} {k : Nat} {v : Int32} (h : OS I J I1 J1) (hk : k = 21 ∨ k = 22 ∨ k = 23) : OS I J (sI I1 92 k v) J1 :=
  ⟨fun q hq => ⟨by rw [sI_ne hq]; exact (h.1 q hq).1, (h.1 q hq).2⟩, fun j a b c => by rw [sI_nk (by omega)]; exact h.2.1 j a b c, h.2.2⟩
theorem os_j {I I1 : dI} {J J1 : dJ} {v : Int64} (h : OS I J I1 J1) : OS I J I1 (sJ J1 92 27 v) :=
  ⟨fun q hq => ⟨(h.1 q hq).1, by rw [sJ_ne hq]; exact (h.1 q hq).2⟩, h.2.1, fun j a => by rw [sJ_nk a]; exact h.2.2 j a⟩
theorem os_tr {I I1 I2 : dI} {J J1 J2 : dJ} (h : OS I J I1 J1) (h' : OS I1 J1 I2 J2) : OS I J I2 J2 :=
  ⟨fun q hq => ⟨(h'.1 q hq).1.trans (h.1 q hq).1, (h'.1 q hq).2.trans (h.1 q hq).2⟩, fun j a b c => (h'.2.1 j a b c).trans (h.2.1 j a b c), fun j a => (h'.2.2 j a).trans (h.2.2 j a)⟩
def bs (hx : Nat) : Nat := if hx = 0 then 10 else 16
theorem l_m10 {a d : Nat} (hd : d < 100) : Int64.ofNat a * 10 + Int32.toInt64 (nn d) = Int64.ofNat (a * 10 + d) := by
  rw [nn_long (by omega), show (10 : Int64) = Int64.ofNat 10 from rfl, ← Int64.ofNat_mul, ← Int64.ofNat_add]
theorem l_m16 {a d : Nat} (hd : d < 100) : Int64.ofNat a * 16 + Int32.toInt64 (nn d) = Int64.ofNat (a * 16 + d) := by
  rw [nn_long (by omega), show (16 : Int64) = Int64.ofNat 16 from rfl, ← Int64.ofNat_mul, ← Int64.ofNat_add]
def dm (hx c : Nat) : Nat := if 48 ≤ c ∧ c ≤ 57 then c - 48 else if hx = 1 ∧ 97 ≤ c ∧ c ≤ 102 then c - 97 + 10 else 99
theorem dm_ok {hx c : Nat} (hh : hx = 0 ∨ hx = 1) (h : okd (bs hx) c) : dm hx c = vd c ∧ dm hx c < 16 := by
  unfold okd bs Dg at h
  unfold dm vd
  rcases hh with rfl | rfl
  · by_cases c1 : 48 ≤ c ∧ c ≤ 57
    · rw [if_pos c1, if_pos c1.2]; omega
    · simp only [↓reduceIte] at h; omega
  · by_cases c1 : 48 ≤ c ∧ c ≤ 57
    · rw [if_pos c1, if_pos c1.2]; omega
    · rw [if_neg c1]
      have h2 : 97 ≤ c ∧ c ≤ 102 := by
        rcases h with h | h
        · exact absurd h c1
        · exact h.2
      rw [if_pos ⟨rfl, h2⟩, if_neg (by omega)]; omega
theorem dm_no {hx c : Nat} (hh : hx = 0 ∨ hx = 1) (h : ¬ okd (bs hx) c) : dm hx c = 99 := by
  unfold okd bs Dg at h
  unfold dm
  rw [if_neg (fun x => h (Or.inl x)), if_neg (fun x => ?_)]
  refine h (Or.inr ⟨?_, x.2⟩)
  rw [x.1]; rfl
theorem dm_lt (hx c : Nat) : dm hx c < 100 := by
  unfold dm
  split
  · omega
  · split <;> omega
theorem m77_st {s e i f hx : Nat} {T : Nat → Nat} {I : dI} {J : dJ} (hh : hx = 0 ∨ hx = 1) (hT : Txm s T I) (he : e ≤ s) (h21 : I 92 21 = nn e) (hi : i < e) : b_105_77 (f + 1) (nn hx) (nn i) I J = b_105_134 (b_105_77 f) (nn hx) (nn i) (nn (dm hx (T i))) I J := by
  obtain ⟨t1, t2, t3⟩ := hT
  obtain ⟨e1, e2, e3⟩ := t3 i (by omega)
  by_cases c1 : Dg (T i)
  · have c2 := c1
    unfold Dg at c2
    have e4 : dm hx (T i) = T i - 48 := if_pos c2
    rw [e4]
    simp (disch := omega) only [b_105_77, h21, e1, m104_t I J c1, nn_l, nn_o, nn_lt, nn_le, nn_eq, nn_cl, nn_add, nn_sub, if_pos, if_neg, lt_, Option.bind_some, ↓reduceIte, not_true_eq_false, not_false_eq_true, Nat.add_sub_cancel, Nat.add_zero, Nat.reduceSub, Nat.reduceAdd, Nat.reduceMul, Nat.reduceEqDiff, Nat.reduceLT, Nat.reduceLeDiff, or_false, false_or, Nat.not_lt_zero]
  · have c2 := c1
    unfold Dg at c2
    by_cases c3 : hx = 1 ∧ 97 ≤ T i ∧ T i ≤ 102
    · have e4 : dm hx (T i) = T i - 97 + 10 := by
        unfold dm
        rw [if_neg c2, if_pos c3]
      rw [e4]
      simp (disch := omega) only [b_105_77, h21, e1, m104_f I J (show T i < 1000 by omega) c1, nn_l, nn_o, nn_lt, nn_le, nn_eq, nn_cl, nn_add, nn_sub, if_pos, if_neg, lt_, Option.bind_some, ↓reduceIte, not_true_eq_false, not_false_eq_true, Nat.add_sub_cancel, Nat.add_zero, Nat.reduceSub, Nat.reduceAdd, Nat.reduceMul, Nat.reduceEqDiff, Nat.reduceLT, Nat.reduceLeDiff, or_false, false_or, Nat.not_lt_zero]
    · have e4 : dm hx (T i) = 99 := by
        unfold dm
        rw [if_neg c2, if_neg c3]
      rw [e4]
      by_cases c4 : hx = 0
      · simp (disch := omega) only [b_105_77, b_105_132, h21, e1, m104_f I J (show T i < 1000 by omega) c1, nn_l, nn_o, nn_lt, nn_le, nn_eq, nn_cl, nn_add, nn_sub, if_pos, if_neg, lt_, Option.bind_some, ↓reduceIte, not_true_eq_false, not_false_eq_true, Nat.add_sub_cancel, Nat.add_zero, Nat.reduceSub, Nat.reduceAdd, Nat.reduceMul, Nat.reduceEqDiff, Nat.reduceLT, Nat.reduceLeDiff, or_false, false_or, Nat.not_lt_zero]
      · by_cases c5 : T i < 97
        · simp (disch := omega) only [b_105_77, b_105_132, h21, e1, m104_f I J (show T i < 1000 by omega) c1, nn_l, nn_o, nn_lt, nn_le, nn_eq, nn_cl, nn_add, nn_sub, if_pos, if_neg, lt_, Option.bind_some, ↓reduceIte, not_true_eq_false, not_false_eq_true, Nat.add_sub_cancel, Nat.add_zero, Nat.reduceSub, Nat.reduceAdd, Nat.reduceMul, Nat.reduceEqDiff, Nat.reduceLT, Nat.reduceLeDiff, or_false, false_or, Nat.not_lt_zero]
        · simp (disch := omega) only [b_105_77, b_105_132, h21, e1, m104_f I J (show T i < 1000 by omega) c1, nn_l, nn_o, nn_lt, nn_le, nn_eq, nn_cl, nn_add, nn_sub, if_pos, if_neg, lt_, Option.bind_some, ↓reduceIte, not_true_eq_false, not_false_eq_true, Nat.add_sub_cancel, Nat.add_zero, Nat.reduceSub, Nat.reduceAdd, Nat.reduceMul, Nat.reduceEqDiff, Nat.reduceLT, Nat.reduceLeDiff, or_false, false_or, Nat.not_lt_zero]
theorem m134_34 {hx i d : Nat} {I : dI} {J : dJ} {h : Int32 → Int32 → dI → dJ → Option (dI × dJ)} (hh : hx = 0 ∨ hx = 1) (hd : d < 100) (h22 : I 92 22 = nn 34) : b_105_134 h (nn hx) (nn i) (nn d) I J = h (nn hx) (nn (i + 1)) I (sJ J 92 27 0) := by
  have key : ∀ w : Int64, b_105_186 h (nn hx) (nn i) I (sJ J 92 27 w) = h (nn hx) (nn (i + 1)) I (sJ J 92 27 0) := by
    intro w
    simp (disch := omega) only [b_105_186, b_105_204, h22, sJ_sJ, nn_l, nn_o, nn_lt, nn_le, nn_eq, nn_cl, nn_add, nn_sub, if_pos, if_neg, lt_, Option.bind_some, ↓reduceIte, not_true_eq_false, not_false_eq_true, Nat.add_sub_cancel, Nat.add_zero, Nat.reduceSub, Nat.reduceAdd, Nat.reduceMul, Nat.reduceEqDiff, Nat.reduceLT, Nat.reduceLeDiff, or_false, false_or, Nat.not_lt_zero]
  have key2 : ∀ w : Int64, b_105_180 h (nn hx) (nn i) I (sJ J 92 27 w) = h (nn hx) (nn (i + 1)) I (sJ J 92 27 0) := by
    intro w
    simp only [b_105_180, lt_, nn_l]
    rw [sI_id h22]
    exact key w
  have k3 : ∀ u : Int64, b_105_154 h (nn hx) (nn i) (nn d) u (J 92 27) I J = h (nn hx) (nn (i + 1)) I (sJ J 92 27 0) := by
    intro u
    simp only [b_105_154, lt_]
    by_cases c : nn d = 99
    · rw [if_pos c]; exact key2 _
    · rw [if_neg c]
      split
      · exact key _
      · exact key2 _
  rcases hh with rfl | rfl <;> simp (disch := omega) only [b_105_134, k3, nn_l, nn_o, nn_lt, nn_le, nn_eq, nn_cl, nn_add, nn_sub, if_pos, if_neg, lt_, Option.bind_some, ↓reduceIte, not_true_eq_false, not_false_eq_true, Nat.add_sub_cancel, Nat.add_zero, Nat.reduceSub, Nat.reduceAdd, Nat.reduceMul, Nat.reduceEqDiff, Nat.reduceLT, Nat.reduceLeDiff, or_false, false_or, Nat.not_lt_zero]
theorem m77_34 {s e hx : Nat} {T : Nat → Nat} (hh : hx = 0 ∨ hx = 1) (he : e ≤ s) : ∀ n i fu I J, i + n = e → n < fu → Txm s T I → I 92 21 = nn e → I 92 22 = nn 34 → ∃ J', b_105_77 fu (nn hx) (nn i) I J = some (I, J') ∧ OS I J I J' := by
  intro n
  induction n with
  | zero =>
    intro i fu I J hi hf hT h21 h22
    obtain ⟨f, rfl⟩ : ∃ f, fu = f + 1 := ⟨fu - 1, by omega⟩
    have hs := hT.2.1
    refine ⟨J, ?_, os_r I J⟩
    simp (disch := omega) only [b_105_77, h21, nn_l, nn_o, nn_lt, nn_le, nn_eq, nn_cl, nn_add, nn_sub, if_pos, if_neg, lt_, Option.bind_some, ↓reduceIte, not_true_eq_false, not_false_eq_true, Nat.add_sub_cancel, Nat.add_zero, Nat.reduceSub, Nat.reduceAdd, Nat.reduceMul, Nat.reduceEqDiff, Nat.reduceLT, Nat.reduceLeDiff, or_false, false_or, Nat.not_lt_zero]
  | succ n ih =>
    intro i fu I J hi hf hT h21 h22
    obtain ⟨f, rfl⟩ : ∃ f, fu = f + 1 := ⟨fu - 1, by omega⟩
    obtain ⟨J', q1, q2⟩ := ih (i + 1) f I (sJ J 92 27 0) (by omega) (by omega) hT h21 h22
    refine ⟨J', ?_, os_tr (os_j (os_r I J)) q2⟩
    rw [m77_st hh hT he h21 (by omega), m134_34 hh (dm_lt _ _) h22]
    exact q1
theorem m77_run {s e hx : Nat} {T : Nat → Nat} (hh : hx = 0 ∨ hx = 1) (he : e ≤ s) : ∀ n i fu I J acc, i + n = e → n < fu → Txm s T I → I 92 21 = nn e → I 92 22 = nn 1 → J 92 27 = Int64.ofNat acc → acc < 4294967296 → (∀ r, nv (bs hx) T n i acc = some r → b_105_77 fu (nn hx) (nn i) I J = some (I, sJ J 92 27 (Int64.ofNat r))) ∧ (nv (bs hx) T n i acc = none → ∃ J', b_105_77 fu (nn hx) (nn i) I J = some (sI I 92 22 (nn 34), J') ∧ OS I J (sI I 92 22 (nn 34)) J') := by
  intro n
  induction n with
  | zero =>
    intro i fu I J acc hi hf hT h21 h22 hv ha
    obtain ⟨f, rfl⟩ : ∃ f, fu = f + 1 := ⟨fu - 1, by omega⟩
    have hs := hT.2.1
    refine ⟨fun r hr => ?_, fun hr => by simp [nv] at hr⟩
    simp only [nv, Option.some.injEq] at hr
    subst hr
    rw [sJ_id hv]
    simp (disch := omega) only [b_105_77, h21, nn_l, nn_o, nn_lt, nn_le, nn_eq, nn_cl, nn_add, nn_sub, if_pos, if_neg, lt_, Option.bind_some, ↓reduceIte, not_true_eq_false, not_false_eq_true, Nat.add_sub_cancel, Nat.add_zero, Nat.reduceSub, Nat.reduceAdd, Nat.reduceMul, Nat.reduceEqDiff, Nat.reduceLT, Nat.reduceLeDiff, or_false, false_or, Nat.not_lt_zero]
  | succ n ih =>
    intro i fu I J acc hi hf hT h21 h22 hv ha
    obtain ⟨f, rfl⟩ : ∃ f, fu = f + 1 := ⟨fu - 1, by omega⟩
    have hs := hT.2.1
    rw [m77_st hh hT he h21 (by omega)]
    have hdl := dm_lt hx (T i)
    have hbig : acc * bs hx + dm hx (T i) < 9223372036854775808 := by
      rcases hh with rfl | rfl
      · show acc * 10 + _ < _; omega
      · show acc * 16 + _ < _; omega
    have h134 : b_105_134 (b_105_77 f) (nn hx) (nn i) (nn (dm hx (T i))) I J = (if dm hx (T i) = 99 then b_105_180 (b_105_77 f) (nn hx) (nn i) I (sJ J 92 27 (Int64.ofNat (acc * bs hx + dm hx (T i)))) else if acc * bs hx + dm hx (T i) < 4294967296 then b_105_186 (b_105_77 f) (nn hx) (nn i) I (sJ J 92 27 (Int64.ofNat (acc * bs hx + dm hx (T i)))) else b_105_180 (b_105_77 f) (nn hx) (nn i) I (sJ J 92 27 (Int64.ofNat (acc * bs hx + dm hx (T i))))) := by
      rcases hh with rfl | rfl
      · simp only [show bs 0 = 10 from rfl] at hbig ⊢
        simp (disch := omega) only [b_105_134, b_105_154, hv, l_m10, sJ_eq, lg_lt0, l_lim, l_lt, nn_l, nn_o, nn_lt, nn_le, nn_eq, nn_cl, nn_add, nn_sub, if_pos, if_neg, lt_, Option.bind_some, ↓reduceIte, not_true_eq_false, not_false_eq_true, Nat.add_sub_cancel, Nat.add_zero, Nat.reduceSub, Nat.reduceAdd, Nat.reduceMul, Nat.reduceEqDiff, Nat.reduceLT, Nat.reduceLeDiff, or_false, false_or, Nat.not_lt_zero]
      · simp only [show bs 1 = 16 from rfl] at hbig ⊢
        simp (disch := omega) only [b_105_134, b_105_154, hv, l_m16, sJ_eq, lg_lt0, l_lim, l_lt, nn_l, nn_o, nn_lt, nn_le, nn_eq, nn_cl, nn_add, nn_sub, if_pos, if_neg, lt_, Option.bind_some, ↓reduceIte, not_true_eq_false, not_false_eq_true, Nat.add_sub_cancel, Nat.add_zero, Nat.reduceSub, Nat.reduceAdd, Nat.reduceMul, Nat.reduceEqDiff, Nat.reduceLT, Nat.reduceLeDiff, or_false, false_or, Nat.not_lt_zero]
    have hbad : ∃ J', b_105_180 (b_105_77 f) (nn hx) (nn i) I (sJ J 92 27 (Int64.ofNat (acc * bs hx + dm hx (T i)))) = some (sI I 92 22 (nn 34), J') ∧ OS I J (sI I 92 22 (nn 34)) J' := by
      obtain ⟨J', q1, q2⟩ := m77_34 hh he n (i + 1) f (sI I 92 22 (nn 34)) (sJ J 92 27 0) (by omega) (by omega) (txm_s (by omega) hT) (by rw [sI_nk (by omega)]; exact h21) sI_eq
      refine ⟨J', ?_, os_tr (os_s (os_j (os_r I J)) (by omega)) q2⟩
      simp (disch := omega) only [b_105_180, b_105_186, b_105_204, sI_eq, sJ_sJ, q1, nn_l, nn_o, nn_lt, nn_le, nn_eq, nn_cl, nn_add, nn_sub, if_pos, if_neg, lt_, Option.bind_some, ↓reduceIte, not_true_eq_false, not_false_eq_true, Nat.add_sub_cancel, Nat.add_zero, Nat.reduceSub, Nat.reduceAdd, Nat.reduceMul, Nat.reduceEqDiff, Nat.reduceLT, Nat.reduceLeDiff, or_false, false_or, Nat.not_lt_zero]
    rw [h134]
    by_cases c : okd (bs hx) (T i)
    · obtain ⟨d1, d2⟩ := dm_ok hh c
      by_cases c2 : acc * bs hx + vd (T i) < 4294967296
      · rw [nv_t c c2, if_neg (by omega), d1, if_pos c2]
        obtain ⟨q1, q2⟩ := ih (i + 1) f I (sJ J 92 27 (Int64.ofNat (acc * bs hx + vd (T i)))) (acc * bs hx + vd (T i)) (by omega) (by omega) hT h21 h22 sJ_eq c2
        have hst : b_105_186 (b_105_77 f) (nn hx) (nn i) I (sJ J 92 27 (Int64.ofNat (acc * bs hx + vd (T i)))) = b_105_77 f (nn hx) (nn (i + 1)) I (sJ J 92 27 (Int64.ofNat (acc * bs hx + vd (T i)))) := by
          simp (disch := omega) only [b_105_186, b_105_204, h22, sJ_eq, sJ_sJ, nn_l, nn_o, nn_lt, nn_le, nn_eq, nn_cl, nn_add, nn_sub, if_pos, if_neg, lt_, Option.bind_some, ↓reduceIte, not_true_eq_false, not_false_eq_true, Nat.add_sub_cancel, Nat.add_zero, Nat.reduceSub, Nat.reduceAdd, Nat.reduceMul, Nat.reduceEqDiff, Nat.reduceLT, Nat.reduceLeDiff, or_false, false_or, Nat.not_lt_zero]
        rw [hst]
        refine ⟨fun r hr => ?_, fun hr => ?_⟩
        · rw [q1 r hr, sJ_sJ]
        · obtain ⟨J', x1, x2⟩ := q2 hr
          exact ⟨J', x1, os_tr (os_j (os_r I J)) x2⟩
      · rw [nv_f (fun x => c2 x.2), if_neg (by omega), if_neg (by rw [d1]; exact c2)]
        exact ⟨fun r hr => (by cases hr), fun _ => hbad⟩
    · rw [nv_f (fun x => c x.1), if_pos (dm_no hh c)]
      exact ⟨fun r hr => (by cases hr), fun _ => hbad⟩
