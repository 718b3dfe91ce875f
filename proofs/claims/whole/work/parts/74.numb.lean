/-! Numbers in the text. -/
def vd (c : Nat) : Nat := if c ≤ 57 then c - 48 else c - 97 + 10
def okd (b c : Nat) : Prop := Dg c ∨ (b = 16 ∧ 97 ≤ c ∧ c ≤ 102)
def nv (b : Nat) (T : Nat → Nat) : Nat → Nat → Nat → Option Nat
  | 0, _, acc => some acc
  | n + 1, i, acc => if ((48 ≤ T i ∧ T i ≤ 57) ∨ (b = 16 ∧ 97 ≤ T i ∧ T i ≤ 102)) ∧ acc * b + vd (T i) < 4294967296 then nv b T n (i + 1) (acc * b + vd (T i)) else none
theorem nv_t {b n i acc : Nat} {T : Nat → Nat} (c : okd b (T i)) (c2 : acc * b + vd (T i) < 4294967296) : nv b T (n + 1) i acc = nv b T n (i + 1) (acc * b + vd (T i)) := if_pos ⟨c, c2⟩
theorem nv_f {b n i acc : Nat} {T : Nat → Nat} (c : ¬ (okd b (T i) ∧ acc * b + vd (T i) < 4294967296)) : nv b T (n + 1) i acc = none := if_neg c
theorem nv_lt {b : Nat} {T : Nat → Nat} : ∀ n i acc r, acc < 4294967296 → nv b T n i acc = some r → r < 4294967296 := by
  intro n
  induction n with
  | zero => intro i acc r h e; simp only [nv, Option.some.injEq] at e; omega
  | succ n ih =>
    intro i acc r h e
    by_cases c : okd b (T i) ∧ acc * b + vd (T i) < 4294967296
    · rw [nv_t c.1 c.2] at e
      exact ih _ _ _ c.2 e
    · rw [nv_f c] at e
      cases e
theorem vd_lt {b c : Nat} (hb : b = 10 ∨ b = 16) (h : okd b c) : vd c < b := by
  unfold vd okd Dg at *
  split <;> omega
theorem vd_16 {b c : Nat} (h : okd b c) : vd c < 16 := by
  unfold vd okd Dg at *
  split <;> omega
theorem m51_ok {b c : Nat} (I : dI) (J : dJ) (h : okd b c) : m_51 (nn c) I J = some (nn (vd c)) := by
  rcases h with h | ⟨_, h1, h2⟩
  · rw [m51_d I J h, vd, if_pos h.2]
  · rw [m51_h I J h1 h2, vd, if_neg (by omega)]
theorem l_mul {a b d : Nat} (ha : a ≤ 4294967296) (hb : b ≤ 16) (hd : d < 100) : (Int64.ofNat a * Int32.toInt64 (nn b)) + Int32.toInt64 (nn d) = Int64.ofNat (a * b + d) := by
  rw [nn_long (by omega), nn_long (by omega), ← Int64.ofNat_mul, ← Int64.ofNat_add]
theorem l_lt {a b : Nat} (ha : a < 9223372036854775808) (hb : b < 9223372036854775808) : (Int64.ofNat a < Int64.ofNat b) = (a < b) := by
  rw [Int64.lt_iff_toInt_lt, Int64.toInt_ofNat_of_lt ha, Int64.toInt_ofNat_of_lt hb]
  exact propext Int.ofNat_lt
theorem l_le {a b : Nat} (ha : a < 9223372036854775808) (hb : b < 9223372036854775808) : (Int64.ofNat a ≤ Int64.ofNat b) = (a ≤ b) := by
  rw [Int64.le_iff_toInt_le, Int64.toInt_ofNat_of_lt ha, Int64.toInt_ofNat_of_lt hb]
  exact propext Int.ofNat_le
theorem l_lim : (4294967296 : Int64) = Int64.ofNat 4294967296 := rfl
def O18 (I : dI) (J : dJ) (I' : dI) (J' : dJ) : Prop := (∀ q, q ≠ 18 → I' q = I q ∧ J' q = J q) ∧ I' 18 1 = I 18 1
theorem o18_s {I I1 : dI} {J J1 : dJ} {k : Nat} {v : Int32} (h : O18 I J I1 J1) (hk : k ≠ 1) : O18 I J (sI I1 18 k v) J1 :=
  ⟨fun q hq => ⟨by rw [sI_ne hq]; exact (h.1 q hq).1, (h.1 q hq).2⟩, by rw [sI_nk (by omega)]; exact h.2⟩
theorem o18_j {I I1 : dI} {J J1 : dJ} {k : Nat} {v : Int64} (h : O18 I J I1 J1) : O18 I J I1 (sJ J1 18 k v) :=
  ⟨fun q hq => ⟨(h.1 q hq).1, by rw [sJ_ne hq]; exact (h.1 q hq).2⟩, h.2⟩
theorem o18_r (I : dI) (J : dJ) : O18 I J I J := ⟨fun _ _ => ⟨rfl, rfl⟩, rfl⟩
theorem b153_bad {s i f0 a : Nat} {T : Nat → Nat} {I : dI} {J : dJ} (hT : Txc s T I) (h2 : I 18 2 = nn i) (hi : i ≤ s) (hf : f0 < 1000) (hv : J 18 4 = Int64.ofNat a) (ha : a ≤ 4294967296) (h : a = 4294967296 ∨ (i < s ∧ Pl (T i))) : b_50_153 (nn f0) I J = some (sI I 18 3 (nn 1), J) := by
  have hs := hT.2.1
  by_cases c : i ≤ f0
  · simp (disch := omega) only [b_50_153, b_50_193, b_50_194, b_50_207, h2, nn_l, nn_o, nn_lt, nn_le, nn_eq, nn_cl, nn_add, nn_sub, if_pos, if_neg, lt_, Option.bind_some, ↓reduceIte, not_true_eq_false, not_false_eq_true, Nat.add_sub_cancel, Nat.add_zero, Nat.reduceSub, Nat.reduceAdd, Nat.reduceMul, Nat.reduceEqDiff, Nat.reduceLT, Nat.reduceLeDiff, or_false, false_or, Nat.not_lt_zero]
  · by_cases ca : a = 4294967296
    · simp (disch := omega) only [b_50_153, b_50_193, b_50_194, b_50_207, h2, hv, lg_ge0, l_lim, l_le, nn_l, nn_o, nn_lt, nn_le, nn_eq, nn_cl, nn_add, nn_sub, if_pos, if_neg, lt_, Option.bind_some, ↓reduceIte, not_true_eq_false, not_false_eq_true, Nat.add_sub_cancel, Nat.add_zero, Nat.reduceSub, Nat.reduceAdd, Nat.reduceMul, Nat.reduceEqDiff, Nat.reduceLT, Nat.reduceLeDiff, or_false, false_or, Nat.not_lt_zero]
    · have hp : i < s ∧ Pl (T i) := by
        rcases h with h | h
        · exact absurd h ca
        · exact h
      simp (disch := omega) only [b_50_153, b_50_193, b_50_194, b_50_207, h2, hv, lg_ge0, l_lim, l_le, m48_eq hT (show i < 1000 by omega), ch_in hp.1, m52_t I J hp.2, nn_l, nn_o, nn_lt, nn_le, nn_eq, nn_cl, nn_add, nn_sub, if_pos, if_neg, lt_, Option.bind_some, ↓reduceIte, not_true_eq_false, not_false_eq_true, Nat.add_sub_cancel, Nat.add_zero, Nat.reduceSub, Nat.reduceAdd, Nat.reduceMul, Nat.reduceEqDiff, Nat.reduceLT, Nat.reduceLeDiff, or_false, false_or, Nat.not_lt_zero]
theorem b75_sat {s : Nat} {T : Nat → Nat} {b f0 : Nat} (hb : b = 10 ∨ b = 16) (hf0 : f0 < 1000) : ∀ n i fu I J, i + n = s → n < fu → Txc s T I → I 18 2 = nn i → J 18 4 = Int64.ofNat 4294967296 → ∃ I' J', b_50_75 fu (nn b) (nn f0) I J = some (I', J') ∧ O18 I J I' J' ∧ I' 18 3 = nn 1 := by
  intro n
  induction n with
  | zero =>
    intro i fu I J hi hf hT h2 hv
    obtain ⟨f, rfl⟩ : ∃ f, fu = f + 1 := ⟨fu - 1, by omega⟩
    have hs := hT.2.1
    refine ⟨_, _, ?_, o18_s (o18_r I J) (by omega), sI_eq⟩
    simp (disch := omega) only [b_50_75, hT.1, h2, b153_bad hT h2 (show i ≤ s by omega) hf0 hv (Nat.le_refl _) (Or.inl rfl), nn_l, nn_o, nn_lt, nn_le, nn_eq, nn_cl, nn_add, nn_sub, if_pos, if_neg, lt_, Option.bind_some, ↓reduceIte, not_true_eq_false, not_false_eq_true, Nat.add_sub_cancel, Nat.add_zero, Nat.reduceSub, Nat.reduceAdd, Nat.reduceMul, Nat.reduceEqDiff, Nat.reduceLT, Nat.reduceLeDiff, or_false, false_or, Nat.not_lt_zero]
  | succ n ih =>
    intro i fu I J hi hf hT h2 hv
    obtain ⟨f, rfl⟩ : ∃ f, fu = f + 1 := ⟨fu - 1, by omega⟩
    have hs := hT.2.1
    obtain ⟨e1, e2, e3⟩ := hT.2.2 i (by omega)
    have hbad := b153_bad hT h2 (show i ≤ s by omega) hf0 hv (Nat.le_refl _) (Or.inl rfl)
    by_cases c : okd b (T i)
    · have hd := vd_lt hb c
      have hmul := l_mul (a := 4294967296) (b := b) (d := vd (T i)) (Nat.le_refl _) (by omega) (by omega)
      obtain ⟨I', J', q1, q2, q3⟩ := ih (i + 1) f (sI I 18 2 (nn (i + 1))) (sJ J 18 4 (Int64.ofNat 4294967296)) (by omega) (by omega) (txc_s hT) sI_eq sJ_eq
      refine ⟨I', J', ?_, ⟨fun q hq => ?_, ?_⟩, q3⟩
      · by_cases c2 : 4294967296 * b + vd (T i) = 4294967296
        · exact absurd c2 (by rcases hb with rfl | rfl <;> omega)
        · have c3 : 4294967296 < 4294967296 * b + vd (T i) := by rcases hb with rfl | rfl <;> omega
          have c4 : 4294967296 * b + vd (T i) < 9223372036854775808 := by rcases hb with rfl | rfl <;> omega
          simp (disch := omega) only [b_50_75, hT.1, h2, hv, m48_eq hT (show i < 1000 by omega), ch_in (show i < s by omega), m51_ok I J c, hmul, l_lim, l_lt, c3, q1, nn_l, nn_o, nn_lt, nn_le, nn_eq, nn_cl, nn_add, nn_sub, if_pos, if_neg, lt_, Option.bind_some, ↓reduceIte, not_true_eq_false, not_false_eq_true, Nat.add_sub_cancel, Nat.add_zero, Nat.reduceSub, Nat.reduceAdd, Nat.reduceMul, Nat.reduceEqDiff, Nat.reduceLT, Nat.reduceLeDiff, or_false, false_or, Nat.not_lt_zero]
      · rw [(q2.1 q hq).1, (q2.1 q hq).2, sI_ne hq, sJ_ne hq]
        exact ⟨rfl, rfl⟩
      · rw [q2.2, sI_nk (by omega)]
    · refine ⟨_, _, ?_, o18_s (o18_r I J) (by omega), sI_eq⟩
      have c1 : ¬ Dg (T i) := fun x => c (Or.inl x)
      by_cases c2 : 97 ≤ T i ∧ T i ≤ 102
      · have c3 : ¬ b = 16 := fun x => c (Or.inr ⟨x, c2⟩)
        simp (disch := omega) only [b_50_75, hT.1, h2, m48_eq hT (show i < 1000 by omega), ch_in (show i < s by omega), m51_h I J c2.1 c2.2, hbad, nn_l, nn_o, nn_lt, nn_le, nn_eq, nn_cl, nn_add, nn_sub, if_pos, if_neg, lt_, Option.bind_some, ↓reduceIte, not_true_eq_false, not_false_eq_true, Nat.add_sub_cancel, Nat.add_zero, Nat.reduceSub, Nat.reduceAdd, Nat.reduceMul, Nat.reduceEqDiff, Nat.reduceLT, Nat.reduceLeDiff, or_false, false_or, Nat.not_lt_zero]
      · simp (disch := omega) only [b_50_75, hT.1, h2, m48_eq hT (show i < 1000 by omega), ch_in (show i < s by omega), m51_n I J (show T i < 1000 by omega) c1 (by omega), nn_m1, hbad, ↓reduceIte, nn_l, nn_o, nn_lt, nn_le, nn_eq, nn_cl, nn_add, nn_sub, if_pos, if_neg, lt_, Option.bind_some, ↓reduceIte, not_true_eq_false, not_false_eq_true, Nat.add_sub_cancel, Nat.add_zero, Nat.reduceSub, Nat.reduceAdd, Nat.reduceMul, Nat.reduceEqDiff, Nat.reduceLT, Nat.reduceLeDiff, or_false, false_or, Nat.not_lt_zero]
theorem b75_run {s e : Nat} {T : Nat → Nat} {b f0 : Nat} (hb : b = 10 ∨ b = 16) (hf0 : f0 < 1000) (he : e ≤ s) (hP : ∀ x, f0 ≤ x → x < e → Pl (T x)) (hE : e < s → ¬ Pl (T e)) : ∀ n i fu I J acc, i + n = e → n + 200 < fu → f0 ≤ i → (f0 < i ∨ 0 < n) → Txc s T I → I 18 2 = nn i → J 18 4 = Int64.ofNat acc → acc < 4294967296 → (∀ r, nv b T n i acc = some r → ∃ I' J', b_50_75 fu (nn b) (nn f0) I J = some (I', J') ∧ O18 I J I' J' ∧ I' 18 3 = nn 3 ∧ I' 18 2 = nn e ∧ J' 18 4 = Int64.ofNat r) ∧ (nv b T n i acc = none → ∃ I' J', b_50_75 fu (nn b) (nn f0) I J = some (I', J') ∧ O18 I J I' J' ∧ I' 18 3 = nn 1) := by
  intro n
  induction n with
  | zero =>
    intro i fu I J acc hi hf h0 h01 hT h2 hv ha
    obtain ⟨f, rfl⟩ : ∃ f, fu = f + 1 := ⟨fu - 1, by omega⟩
    have hs := hT.2.1
    have ei : i = e := by omega
    subst ei
    refine ⟨fun r hr => ?_, fun hr => by simp [nv] at hr⟩
    simp only [nv, Option.some.injEq] at hr
    subst hr
    have hnp : ¬ Pl (ch s T i) := by
      by_cases c : i < s
      · rw [ch_in c]; exact hE c
      · rw [ch_out (by omega)]
        unfold Pl Dg Lr
        omega
    have hlast : b_50_153 (nn f0) I J = some (sI I 18 3 (nn 3), J) := by
      have hcl := ch_le hT i
      simp (disch := omega) only [b_50_153, b_50_194, b_50_207, h2, hv, lg_ge0, l_lim, l_le, m48_eq hT (show i < 1000 by omega), m52_f I J (show ch s T i < 1000 by omega) hnp, nn_l, nn_o, nn_lt, nn_le, nn_eq, nn_cl, nn_add, nn_sub, if_pos, if_neg, lt_, Option.bind_some, ↓reduceIte, not_true_eq_false, not_false_eq_true, Nat.add_sub_cancel, Nat.add_zero, Nat.reduceSub, Nat.reduceAdd, Nat.reduceMul, Nat.reduceEqDiff, Nat.reduceLT, Nat.reduceLeDiff, or_false, false_or, Nat.not_lt_zero]
    refine ⟨_, _, ?_, o18_s (o18_r I J) (by omega), sI_eq, by rw [sI_nk (by omega)]; exact h2, hv⟩
    by_cases c : i < s
    · have c0 : ¬ Dg (T i) := fun x => hE c (Or.inl x)
      have c1 : ¬ Lr (T i) := fun x => hE c (Or.inr x)
      unfold Lr at c1
      obtain ⟨e1, e2, e3⟩ := hT.2.2 i c
      simp (disch := omega) only [b_50_75, hT.1, h2, m48_eq hT (show i < 1000 by omega), ch_in c, m51_n I J (show T i < 1000 by omega) c0 (by omega), nn_m1, hlast, ↓reduceIte, nn_l, nn_o, nn_lt, nn_le, nn_eq, nn_cl, nn_add, nn_sub, if_pos, if_neg, lt_, Option.bind_some, ↓reduceIte, not_true_eq_false, not_false_eq_true, Nat.add_sub_cancel, Nat.add_zero, Nat.reduceSub, Nat.reduceAdd, Nat.reduceMul, Nat.reduceEqDiff, Nat.reduceLT, Nat.reduceLeDiff, or_false, false_or, Nat.not_lt_zero]
    · simp (disch := omega) only [b_50_75, hT.1, h2, hlast, nn_l, nn_o, nn_lt, nn_le, nn_eq, nn_cl, nn_add, nn_sub, if_pos, if_neg, lt_, Option.bind_some, ↓reduceIte, not_true_eq_false, not_false_eq_true, Nat.add_sub_cancel, Nat.add_zero, Nat.reduceSub, Nat.reduceAdd, Nat.reduceMul, Nat.reduceEqDiff, Nat.reduceLT, Nat.reduceLeDiff, or_false, false_or, Nat.not_lt_zero]
  | succ n ih =>
    intro i fu I J acc hi hf h0 h01 hT h2 hv ha
    obtain ⟨f, rfl⟩ : ∃ f, fu = f + 1 := ⟨fu - 1, by omega⟩
    have hs := hT.2.1
    obtain ⟨e1, e2, e3⟩ := hT.2.2 i (by omega)
    by_cases c : okd b (T i)
    · have hd := vd_lt hb c
      have hd16 := vd_16 c
      have hmul := l_mul (a := acc) (b := b) (d := vd (T i)) (by omega) (by omega) (by omega)
      have hbig : acc * b + vd (T i) < 9223372036854775808 := by rcases hb with rfl | rfl <;> omega
      by_cases c2 : acc * b + vd (T i) < 4294967296
      · have hI := ih (i + 1) f (sI I 18 2 (nn (i + 1))) (sJ J 18 4 (Int64.ofNat (acc * b + vd (T i)))) (acc * b + vd (T i)) (by omega) (by omega) (by omega) (by omega) (txc_s hT) sI_eq sJ_eq c2
        have hst : b_50_75 (f + 1) (nn b) (nn f0) I J = b_50_75 f (nn b) (nn f0) (sI I 18 2 (nn (i + 1))) (sJ J 18 4 (Int64.ofNat (acc * b + vd (T i)))) := by
          simp (disch := omega) only [b_50_75, hT.1, h2, hv, m48_eq hT (show i < 1000 by omega), ch_in (show i < s by omega), m51_ok I J c, hmul, l_lim, l_lt, nn_l, nn_o, nn_lt, nn_le, nn_eq, nn_cl, nn_add, nn_sub, if_pos, if_neg, lt_, Option.bind_some, ↓reduceIte, not_true_eq_false, not_false_eq_true, Nat.add_sub_cancel, Nat.add_zero, Nat.reduceSub, Nat.reduceAdd, Nat.reduceMul, Nat.reduceEqDiff, Nat.reduceLT, Nat.reduceLeDiff, or_false, false_or, Nat.not_lt_zero]
        have hnv : nv b T (n + 1) i acc = nv b T n (i + 1) (acc * b + vd (T i)) := nv_t c c2
        have o : ∀ I' J', O18 (sI I 18 2 (nn (i + 1))) (sJ J 18 4 (Int64.ofNat (acc * b + vd (T i)))) I' J' → O18 I J I' J' := by
          intro I' J' o
          refine ⟨fun q hq => ?_, ?_⟩
          · rw [(o.1 q hq).1, (o.1 q hq).2, sI_ne hq, sJ_ne hq]
            exact ⟨rfl, rfl⟩
          · rw [o.2, sI_nk (by omega)]
        rw [hst, hnv]
        refine ⟨fun r hr => ?_, fun hr => ?_⟩
        · obtain ⟨I', J', q1, q2, q3⟩ := hI.1 r hr
          exact ⟨I', J', q1, o I' J' q2, q3⟩
        · obtain ⟨I', J', q1, q2, q3⟩ := hI.2 hr
          exact ⟨I', J', q1, o I' J' q2, q3⟩
      · have hnv : nv b T (n + 1) i acc = none := nv_f (fun x => c2 x.2)
        rw [hnv]
        refine ⟨fun r hr => (by cases hr), fun _ => ?_⟩
        obtain ⟨I', J', q1, q2, q3⟩ := b75_sat hb hf0 (s - (i + 1)) (i + 1) f (sI I 18 2 (nn (i + 1))) (sJ J 18 4 (Int64.ofNat 4294967296)) (by omega) (by omega) (txc_s hT) sI_eq sJ_eq
        refine ⟨I', J', ?_, ⟨fun q hq => ?_, ?_⟩, q3⟩
        · by_cases c3 : acc * b + vd (T i) = 4294967296
          · simp (disch := omega) only [b_50_75, hT.1, h2, hv, m48_eq hT (show i < 1000 by omega), ch_in (show i < s by omega), m51_ok I J c, hmul, c3, l_lim, l_lt, q1, nn_l, nn_o, nn_lt, nn_le, nn_eq, nn_cl, nn_add, nn_sub, if_pos, if_neg, lt_, Option.bind_some, ↓reduceIte, not_true_eq_false, not_false_eq_true, Nat.add_sub_cancel, Nat.add_zero, Nat.reduceSub, Nat.reduceAdd, Nat.reduceMul, Nat.reduceEqDiff, Nat.reduceLT, Nat.reduceLeDiff, or_false, false_or, Nat.not_lt_zero]
          · simp (disch := omega) only [b_50_75, hT.1, h2, hv, m48_eq hT (show i < 1000 by omega), ch_in (show i < s by omega), m51_ok I J c, hmul, l_lim, l_lt, q1, nn_l, nn_o, nn_lt, nn_le, nn_eq, nn_cl, nn_add, nn_sub, if_pos, if_neg, lt_, Option.bind_some, ↓reduceIte, not_true_eq_false, not_false_eq_true, Nat.add_sub_cancel, Nat.add_zero, Nat.reduceSub, Nat.reduceAdd, Nat.reduceMul, Nat.reduceEqDiff, Nat.reduceLT, Nat.reduceLeDiff, or_false, false_or, Nat.not_lt_zero]
        · rw [(q2.1 q hq).1, (q2.1 q hq).2, sI_ne hq, sJ_ne hq]
          exact ⟨rfl, rfl⟩
        · rw [q2.2, sI_nk (by omega)]
    · have hnv : nv b T (n + 1) i acc = none := nv_f (fun x => c x.1)
      rw [hnv]
      refine ⟨fun r hr => (by cases hr), fun _ => ⟨_, _, ?_, o18_s (o18_r I J) (by omega), sI_eq⟩⟩
      have hbad := b153_bad hT h2 (show i ≤ s by omega) hf0 hv (by omega) (Or.inr ⟨by omega, hP i h0 (by omega)⟩)
      have c1 : ¬ Dg (T i) := fun x => c (Or.inl x)
      by_cases c2 : 97 ≤ T i ∧ T i ≤ 102
      · have c3 : ¬ b = 16 := fun x => c (Or.inr ⟨x, c2⟩)
        simp (disch := omega) only [b_50_75, hT.1, h2, m48_eq hT (show i < 1000 by omega), ch_in (show i < s by omega), m51_h I J c2.1 c2.2, hbad, nn_l, nn_o, nn_lt, nn_le, nn_eq, nn_cl, nn_add, nn_sub, if_pos, if_neg, lt_, Option.bind_some, ↓reduceIte, not_true_eq_false, not_false_eq_true, Nat.add_sub_cancel, Nat.add_zero, Nat.reduceSub, Nat.reduceAdd, Nat.reduceMul, Nat.reduceEqDiff, Nat.reduceLT, Nat.reduceLeDiff, or_false, false_or, Nat.not_lt_zero]
      · simp (disch := omega) only [b_50_75, hT.1, h2, m48_eq hT (show i < 1000 by omega), ch_in (show i < s by omega), m51_n I J (show T i < 1000 by omega) c1 (by omega), nn_m1, hbad, ↓reduceIte, nn_l, nn_o, nn_lt, nn_le, nn_eq, nn_cl, nn_add, nn_sub, if_pos, if_neg, lt_, Option.bind_some, ↓reduceIte, not_true_eq_false, not_false_eq_true, Nat.add_sub_cancel, Nat.add_zero, Nat.reduceSub, Nat.reduceAdd, Nat.reduceMul, Nat.reduceEqDiff, Nat.reduceLT, Nat.reduceLeDiff, or_false, false_or, Nat.not_lt_zero]
