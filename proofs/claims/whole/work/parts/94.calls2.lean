/-! The calls on one condition; all conditions; counts. -/
theorem inv_one {N N' k : Nat} {Ic Im Ic' Im' : dI} {Jc Jm Jc' Jm' : dJ} (hN : N ≤ N') (hk : k < 8) (h : Inv2 N Ic Jc Im Jm) (hc : ∀ q, q ≠ 0 → (q < 20 + 9 * k ∨ 29 + 9 * k ≤ q) → q < 92 → Ic' q = Ic q ∧ Jc' q = Jc q) (h93 : Im' 93 = Im 93 ∧ Im' 94 = Im 94 ∧ Im' 95 = Im 95) (h1 : Im' 92 1 = Im 92 1) (h5 : Jm' 92 5 = Jm 92 5) (hs : Jm' 92 20 = Jc' 0 4) (hi : ∀ i, i ≠ k → (∀ q, 96 ≤ q → q ≤ 102 → Im' q i = Im q i) ∧ Jm' 103 i = Jm 103 i ∧ Jm' 104 i = Jm 104 i) (ht : ∀ i, i < 120 * k ∨ 120 * k + 120 ≤ i → Im' 105 i = Im 105 i ∧ Im' 106 i = Im 106 i ∧ Jm' 107 i = Jm 107 i ∧ Jm' 108 i = Jm 108 i) (hn : Ic' (20 + 9 * k) 1 = Im' 96 k ∧ (Im' 96 k = nn 0 ∨ Im' 96 k = nn 1) ∧ (Im' 96 k = nn 1 → Live N' k Ic' Jc' Im' Jm')) : Inv2 N' Ic' Jc' Im' Jm' := by
  obtain ⟨⟨s, T, t1, t2⟩, hM, _, h4⟩ := h
  refine ⟨⟨s, T, txc_row (hc 1 (by omega) (by omega) (by omega)).1 (hc 2 (by omega) (by omega) (by omega)).1 t1, txm_row h1 h93.1 t2⟩, mac_fr hM (hc 4 (by omega) (by omega) (by omega)).1 (hc 5 (by omega) (by omega) (by omega)).1 (hc 3 (by omega) (by omega) (by omega)).2 h93.2.1 h93.2.2 h5, hs, fun k' hk' => ?_⟩
  by_cases e : k' = k
  · subst e
    exact hn
  · obtain ⟨a1, a2, a3⟩ := h4 k' hk'
    obtain ⟨i1, i2⟩ := hi k' e
    rw [i1 96 (by omega) (by omega), (hc (20 + 9 * k') (by omega) (by omega) (by omega)).1]
    exact ⟨a1, a2, fun hl => live_fr hN (fun q u v => hc q (by omega) (by omega) (by omega)) (fun q u v => i1 q (by omega) v) i2 (fun i u v => ht i (by omega)) (a3 hl)⟩
theorem drop_2 {N k : Nat} {Ic Im : dI} {Jc Jm : dJ} (hk : k < 8) (h : Inv2 N Ic Jc Im Jm) : ∃ r Ic' Im', m_85 (nn k) Ic Jc = some (nn r, Ic', Jc) ∧ m_113 (nn k) Im Jm = some (nn r, Im', Jm) ∧ r ≤ 1 ∧ CF Ic Jc Ic' Jc ∧ MF Im Jm Im' Jm ∧ Im' 92 0 = nn 0 ∧ Inv2 (N + 1) Ic' Jc Im' Jm := by
  have h' := h
  obtain ⟨_, _, hs, h4⟩ := h'
  obtain ⟨a1, a2, a3⟩ := h4 k hk
  obtain ⟨r, r1, r2⟩ : ∃ r, r ≤ 1 ∧ Im 96 k = nn r := by
    rcases a2 with e | e
    · exact ⟨0, by omega, e⟩
    · exact ⟨1, by omega, e⟩
  have r3 : Ic (20 + 9 * k) 1 = nn r := by rw [a1, r2]
  have hor : nn r = 0 ∨ nn r = 1 := by
    have : r = 0 ∨ r = 1 := by omega
    rcases this with rfl | rfl
    · exact Or.inl rfl
    · exact Or.inr rfl
  refine ⟨r, sI Ic (20 + 9 * k) 1 (nn 0), sI (sI Im 92 0 (nn 0)) 96 k (nn 0), ?_, ?_, r1, fun q hq => ⟨sI_ne (by omega), rfl⟩, fun q hq => ⟨by rw [sI_ne (by omega), sI_ne (by omega)], rfl⟩, by rw [sI_ne (by omega), sI_eq], inv_one (k := k) (by omega) hk h (fun q a b c => ⟨sI_ne (by omega), rfl⟩) ⟨by rw [sI_ne (by omega), sI_ne (by omega)], by rw [sI_ne (by omega), sI_ne (by omega)], by rw [sI_ne (by omega), sI_ne (by omega)]⟩ (by rw [sI_ne (by omega), sI_nk (by omega)]) rfl hs (fun i hi => ⟨fun q a b => by rw [sI_get, if_neg (by omega), sI_ne (by omega)], rfl, rfl⟩) (fun i hi => by rw [sI_ne (by omega), sI_ne (by omega), sI_ne (by omega), sI_ne (by omega)]; exact ⟨rfl, rfl, rfl, rfl⟩) ⟨by rw [sI_eq, sI_eq], Or.inl sI_eq, fun e => ?_⟩⟩
  · unfold m_85 b_85_0
    rw [m40_eq hk, Option.bind_some]
    simp only [lt_, r3]
    rw [if_pos hor]
    rfl
  · unfold m_113 b_113_0
    rw [show (7 : Int64) = Int64.ofNat 7 from rfl, m98_in (by omega) (by omega), Option.bind_some, if_pos (show ¬ nn 1 = 0 by decide)]
    unfold b_113_18
    rw [show (0 : Int32) = nn 0 from rfl, m99_0, Option.bind_some]
    have e96 : (sI Im 92 0 (nn 0)) 96 k = nn r := by rw [sI_ne (by omega)]; exact r2
    have hor' : (nn r = nn 0 ∨ nn r = nn 1) := hor
    simp (disch := omega) only [nb_0, nn_cl, e96, if_pos hor', nn_l, nn_o, nn_lt, nn_le, nn_eq, nn_cl, nn_add, nn_sub, if_pos, if_neg, lt_, Option.bind_some, ↓reduceIte, not_true_eq_false, not_false_eq_true, Nat.add_sub_cancel, Nat.add_zero, Nat.reduceSub, Nat.reduceAdd, Nat.reduceMul, Nat.reduceEqDiff, Nat.reduceLT, Nat.reduceLeDiff, or_false, false_or, Nat.not_lt_zero]
  · rw [sI_eq] at e
    exact absurd e (by decide)
theorem and7 {k : Nat} (hk : k < 8) : nn k &&& nn 7 = nn k := by
  have h : ∀ k : Fin 8, nn k.val &&& nn 7 = nn k.val := by decide
  exact h ⟨k, hk⟩
theorem live_ign {N k : Nat} {Ic Im : dI} {Jc Jm : dJ} {x : Int32} (hk : k < 8) (h : Live N k Ic Jc Im Jm) : Live (N + 1) k (sI Ic (20 + 9 * k) 2 x) Jc (sI (sI Im 92 0 (nn 0)) 100 k x) Jm := by
  obtain ⟨l1, l2, l3, l4, l5, l6, ⟨zf, zf1, zf2⟩, l8, l9, sz, mn, ⟨p1, p2, p3, p4, p5, ⟨q0, m0, p6⟩, p7⟩, hR⟩ := h
  have cr : ∀ q, q ≠ 20 + 9 * k → (sI Ic (20 + 9 * k) 2 x) q = Ic q := fun q hq => sI_ne hq
  have mr : ∀ q, q ≠ 92 → q ≠ 100 → (sI (sI Im 92 0 (nn 0)) 100 k x) q = Im q := fun q a b => by rw [sI_ne b, sI_ne a]
  have od : ∀ q n a b m, Od (20 + 9 * k + 1) (sI Ic (20 + 9 * k) 2 x) Jc (sI (sI Im 92 0 (nn 0)) 100 k x) Jm q n a b m = Od (20 + 9 * k + 1) Ic Jc Im Jm q n a b m := by
    intro q n a b m
    unfold Od
    rw [cr _ (by omega), cr _ (by omega), cr _ (by omega), mr 105 (by omega) (by omega), mr 106 (by omega) (by omega)]
  refine ⟨by rw [sI_eq, sI_eq], l2, l3, by rw [mr 101 (by omega) (by omega)]; exact l4, by rw [mr 102 (by omega) (by omega)]; exact l5, by rw [cr _ (by omega), mr 99 (by omega) (by omega)]; exact l6, ⟨zf, by omega, by rw [mr 101 (by omega) (by omega)]; exact zf2⟩, by rw [cr _ (by omega), mr 97 (by omega) (by omega)]; exact l8, by rw [cr _ (by omega)]; exact l9, sz, mn, ⟨by rw [cr _ (by omega)]; exact p1, p2, p3, by rw [mr 98 (by omega) (by omega)]; exact p4, p5, ⟨q0, m0, by rw [od]; exact p6⟩, fun n hn => ?_⟩, fun hw q n a b m κ hO hn ha hb hκ hk1 hk2 => ?_⟩
  · obtain ⟨q, a, b, m, x1, x2, x3⟩ := p7 n hn
    exact ⟨q, a, b, m, x1, x2, by rw [od]; exact x3⟩
  · rw [od] at hO
    rw [cr _ (by omega)] at hw hk1
    rw [mr 105 (by omega) (by omega)] at hk2
    exact hR hw q n a b m κ hO hn ha hb hκ hk1 hk2
theorem ign_2 {N k n : Nat} {Ic Im : dI} {Jc Jm : dJ} (hk : k < 8) (hn : n ≤ 1000) (hl : Im 96 k = nn 1) (h : Inv2 N Ic Jc Im Jm) : ∃ r Ic' Im', m_90 (nn k) (nn n) Ic Jc = some (r, Ic', Jc) ∧ m_117 (nn k) (nn n) Im Jm = some (r, Im', Jm) ∧ CF Ic Jc Ic' Jc ∧ MF Im Jm Im' Jm ∧ Im' 92 0 = nn 0 ∧ Inv2 (N + 1) Ic' Jc Im' Jm := by
  have h' := h
  obtain ⟨_, _, hs, h4⟩ := h'
  obtain ⟨a1, a2, a3⟩ := h4 k hk
  have r3 : Ic (20 + 9 * k) 1 = nn 1 := by rw [a1, hl]
  have l1 := (a3 hl).1
  refine ⟨Ic (20 + 9 * k) 2, sI Ic (20 + 9 * k) 2 (nn n), sI (sI Im 92 0 (nn 0)) 100 k (nn n), ?_, ?_, fun q hq => ⟨sI_ne (by omega), rfl⟩, fun q hq => ⟨by rw [sI_ne (by omega), sI_ne (by omega)], rfl⟩, by rw [sI_ne (by omega), sI_eq], inv_one (k := k) (by omega) hk h (fun q a b c => ⟨sI_ne (by omega), rfl⟩) ⟨by rw [sI_ne (by omega), sI_ne (by omega)], by rw [sI_ne (by omega), sI_ne (by omega)], by rw [sI_ne (by omega), sI_ne (by omega)]⟩ (by rw [sI_ne (by omega), sI_nk (by omega)]) rfl hs (fun i hi => ⟨fun q a b => by rw [sI_get, if_neg (by omega), sI_ne (by omega)], rfl, rfl⟩) (fun i hi => by rw [sI_ne (by omega), sI_ne (by omega), sI_ne (by omega), sI_ne (by omega)]; exact ⟨rfl, rfl, rfl, rfl⟩) ⟨by rw [sI_nk (by omega), sI_ne (by omega), sI_ne (by omega)]; exact a1, by rw [sI_ne (by omega), sI_ne (by omega)]; exact a2, fun _ => live_ign hk (a3 hl)⟩⟩
  · unfold m_90 b_90_0
    rw [m40_eq hk, Option.bind_some]
    simp (disch := omega) only [r3, nn_l, nn_o, nn_lt, nn_le, nn_eq, nn_cl, nn_add, nn_sub, if_pos, if_neg, lt_, Option.bind_some, ↓reduceIte, not_true_eq_false, not_false_eq_true, Nat.add_sub_cancel, Nat.add_zero, Nat.reduceSub, Nat.reduceAdd, Nat.reduceMul, Nat.reduceEqDiff, Nat.reduceLT, Nat.reduceLeDiff, or_false, false_or, Nat.not_lt_zero]
  · unfold m_117 b_117_0
    rw [show (7 : Int64) = Int64.ofNat 7 from rfl, m98_in (by omega) (by omega), Option.bind_some, if_neg (show ¬ nn 1 = 0 by decide), show (1000 : Int64) = Int64.ofNat 1000 from rfl, m98_in (by omega) (by omega), Option.bind_some, if_pos (show ¬ nn 1 = 0 by decide)]
    unfold b_117_30
    rw [show (7 : Int64) = Int64.ofNat 7 from rfl, m98_in (by omega) (by omega), Option.bind_some, if_neg (show ¬ nn 1 = 0 by decide)]
    have e100 : (sI Im 92 0 (nn 0)) 100 k = Ic (20 + 9 * k) 2 := by rw [sI_ne (by omega), l1]
    simp (disch := omega) only [b_117_58, b_117_59, and7 hk, hl, m99_0, e100, nn_l, nn_o, nn_lt, nn_le, nn_eq, nn_cl, nn_add, nn_sub, if_pos, if_neg, lt_, Option.bind_some, ↓reduceIte, not_true_eq_false, not_false_eq_true, Nat.add_sub_cancel, Nat.add_zero, Nat.reduceSub, Nat.reduceAdd, Nat.reduceMul, Nat.reduceEqDiff, Nat.reduceLT, Nat.reduceLeDiff, or_false, false_or, Nat.not_lt_zero]
theorem abt_2 {N k w : Nat} {Ic Im : dI} {Jc Jm : dJ} (hk : k < 8) (hw : w ≤ 5) (hl : Im 96 k = nn 1) (h : Inv2 N Ic Jc Im Jm) : ∃ r, m_92 (nn k) (nn w) Ic Jc = some (r, Ic, Jc) ∧ m_134 (nn k) (nn w) Im Jm = some (r, sI Im 92 0 (nn 0), Jm) ∧ Inv2 (N + 1) Ic Jc (sI Im 92 0 (nn 0)) Jm := by
  have h' := h
  obtain ⟨_, _, hs, h4⟩ := h'
  obtain ⟨a1, a2, a3⟩ := h4 k hk
  have r3 : Ic (20 + 9 * k) 1 = nn 1 := by rw [a1, hl]
  obtain ⟨l1, l2, l3, l4, l5, l6, _⟩ := a3 hl
  have l6' : Ic (20 + 9 * k + 2) 5 = Im 99 k := l6
  have hcl : ∀ r, m_93 (20 + 9 * k) (nn w) Ic Jc = some r → m_92 (nn k) (nn w) Ic Jc = some (r, Ic, Jc) := by
    intro r hr
    unfold m_92 b_92_0
    rw [m40_eq hk, Option.bind_some]
    simp (disch := omega) only [r3, hr, nn_l, nn_o, nn_lt, nn_le, nn_eq, nn_cl, nn_add, nn_sub, if_pos, if_neg, lt_, Option.bind_some, ↓reduceIte, not_true_eq_false, not_false_eq_true, Nat.add_sub_cancel, Nat.add_zero, Nat.reduceSub, Nat.reduceAdd, Nat.reduceMul, Nat.reduceEqDiff, Nat.reduceLT, Nat.reduceLeDiff, or_false, false_or, Nat.not_lt_zero]
  have hmd : b_134_59 (nn k) (nn w) (nn 0) (nn 0) Im Jm = m_134 (nn k) (nn w) Im Jm := by
    unfold m_134 b_134_0
    rw [show (7 : Int64) = Int64.ofNat 7 from rfl, m98_in (by omega) (by omega), Option.bind_some, if_neg (show ¬ nn 1 = 0 by decide), show (5 : Int64) = Int64.ofNat 5 from rfl, m98_in (by omega) (by omega), Option.bind_some, if_pos (show ¬ nn 1 = 0 by decide)]
    unfold b_134_30
    rw [show (7 : Int64) = Int64.ofNat 7 from rfl, m98_in (by omega) (by omega), Option.bind_some, if_neg (show ¬ nn 1 = 0 by decide)]
    simp (disch := omega) only [b_134_58, and7 hk, hl, nn_l, nn_o, nn_lt, nn_le, nn_eq, nn_cl, nn_add, nn_sub, if_pos, if_neg, lt_, Option.bind_some, ↓reduceIte, not_true_eq_false, not_false_eq_true, Nat.add_sub_cancel, Nat.add_zero, Nat.reduceSub, Nat.reduceAdd, Nat.reduceMul, Nat.reduceEqDiff, Nat.reduceLT, Nat.reduceLeDiff, or_false, false_or, Nat.not_lt_zero]
  have e : ∀ q, q ≠ 92 → (sI Im 92 0 (nn 0)) q = Im q := fun q hq => sI_ne hq
  have h6 : w = 0 ∨ w = 1 ∨ w = 2 ∨ w = 3 ∨ w = 4 ∨ w = 5 := by omega
  rcases h6 with rfl | rfl | rfl | rfl | rfl | rfl
  · refine ⟨Jm 103 k, hcl _ ?_, ?_, inv_code h⟩
    · rw [← l2]; rfl
    · rw [← hmd]; simp (disch := omega) only [b_134_59, m99_0, nn_l, nn_o, nn_lt, nn_le, nn_eq, nn_cl, nn_add, nn_sub, if_pos, if_neg, lt_, Option.bind_some, ↓reduceIte, not_true_eq_false, not_false_eq_true, Nat.add_sub_cancel, Nat.add_zero, Nat.reduceSub, Nat.reduceAdd, Nat.reduceMul, Nat.reduceEqDiff, Nat.reduceLT, Nat.reduceLeDiff, or_false, false_or, Nat.not_lt_zero]
  · refine ⟨Jm 104 k, hcl _ ?_, ?_, inv_code h⟩
    · rw [← l3]; rfl
    · rw [← hmd]; simp (disch := omega) only [b_134_59, m99_0, nn_l, nn_o, nn_lt, nn_le, nn_eq, nn_cl, nn_add, nn_sub, if_pos, if_neg, lt_, Option.bind_some, ↓reduceIte, not_true_eq_false, not_false_eq_true, Nat.add_sub_cancel, Nat.add_zero, Nat.reduceSub, Nat.reduceAdd, Nat.reduceMul, Nat.reduceEqDiff, Nat.reduceLT, Nat.reduceLeDiff, or_false, false_or, Nat.not_lt_zero]
  · refine ⟨Int32.toInt64 (Im 100 k), hcl _ ?_, ?_, inv_code h⟩
    · rw [← l1]; rfl
    · rw [← hmd]; simp (disch := omega) only [b_134_59, m99_0, e, nn_l, nn_o, nn_lt, nn_le, nn_eq, nn_cl, nn_add, nn_sub, if_pos, if_neg, lt_, Option.bind_some, ↓reduceIte, not_true_eq_false, not_false_eq_true, Nat.add_sub_cancel, Nat.add_zero, Nat.reduceSub, Nat.reduceAdd, Nat.reduceMul, Nat.reduceEqDiff, Nat.reduceLT, Nat.reduceLeDiff, or_false, false_or, Nat.not_lt_zero]
  · refine ⟨Int32.toInt64 (Im 102 k), hcl _ ?_, ?_, inv_code h⟩
    · rw [← l5]; rfl
    · rw [← hmd]; simp (disch := omega) only [b_134_59, m99_0, e, nn_l, nn_o, nn_lt, nn_le, nn_eq, nn_cl, nn_add, nn_sub, if_pos, if_neg, lt_, Option.bind_some, ↓reduceIte, not_true_eq_false, not_false_eq_true, Nat.add_sub_cancel, Nat.add_zero, Nat.reduceSub, Nat.reduceAdd, Nat.reduceMul, Nat.reduceEqDiff, Nat.reduceLT, Nat.reduceLeDiff, or_false, false_or, Nat.not_lt_zero]
  · refine ⟨Int32.toInt64 (Im 99 k), hcl _ ?_, ?_, inv_code h⟩
    · rw [← l6']; rfl
    · rw [← hmd]; simp (disch := omega) only [b_134_59, m99_0, e, nn_l, nn_o, nn_lt, nn_le, nn_eq, nn_cl, nn_add, nn_sub, if_pos, if_neg, lt_, Option.bind_some, ↓reduceIte, not_true_eq_false, not_false_eq_true, Nat.add_sub_cancel, Nat.add_zero, Nat.reduceSub, Nat.reduceAdd, Nat.reduceMul, Nat.reduceEqDiff, Nat.reduceLT, Nat.reduceLeDiff, or_false, false_or, Nat.not_lt_zero]
  · refine ⟨Int32.toInt64 (Im 101 k), hcl _ ?_, ?_, inv_code h⟩
    · rw [← l4]; rfl
    · rw [← hmd]; simp (disch := omega) only [b_134_59, m99_0, e, nn_l, nn_o, nn_lt, nn_le, nn_eq, nn_cl, nn_add, nn_sub, if_pos, if_neg, lt_, Option.bind_some, ↓reduceIte, not_true_eq_false, not_false_eq_true, Nat.add_sub_cancel, Nat.add_zero, Nat.reduceSub, Nat.reduceAdd, Nat.reduceMul, Nat.reduceEqDiff, Nat.reduceLT, Nat.reduceLeDiff, or_false, false_or, Nat.not_lt_zero]
/-- one condition is asked: the state behind it -/
theorem ask_s {N k : Nat} {Ic Im : dI} {Jc Jm : dJ} (hk : k < 8) (hN : N < 100000) (hl : Im 96 k = nn 1) (h : Inv2 N Ic Jc Im Jm) : ∃ r Ic' Jc' Im' Jm', m_13 (20 + 9 * k) Ic Jc = some (r, Ic', Jc') ∧ m_119 (nn k) Im Jm = some (r, Im', Jm') ∧ CF Ic Jc Ic' (sJ Jc' 0 4 (Jc' 0 4 + Jc' (20 + 9 * k) 6)) ∧ MF Im Jm Im' Jm' ∧ Im' 92 0 = Im 92 0 ∧ Inv2 (N + 1) Ic' (sJ Jc' 0 4 (Jc' 0 4 + Jc' (20 + 9 * k) 6)) Im' Jm' := by
  have h' := h
  obtain ⟨_, hM, hs, h4⟩ := h'
  obtain ⟨a1, a2, a3⟩ := h4 k hk
  obtain ⟨r, Ic', Jc', Im', Jm', q1, q2, q3, ⟨q4, q4'⟩, ⟨f1, f2, f3, f4, f5, f6, f7⟩, q6⟩ := ask_k hk hN hM (a3 hl)
  have c0 := q4 0 (by omega)
  refine ⟨r, Ic', Jc', Im', Jm', q1, q2, fun q hq => ⟨(q4 q (by omega)).1, by rw [sJ_ne (by omega)]; exact (q4 q (by omega)).2⟩, fun q hq => ⟨f1 q (by omega) (by omega) (by omega) (by omega) (by omega) (by omega), f4 q (by omega) (by omega) (by omega) (by omega) (by omega) (by omega)⟩, f2 0 (by omega), inv_one (k := k) (by omega) hk h (fun q a b c => ⟨(q4 q b).1, by rw [sJ_ne a]; exact (q4 q b).2⟩) ⟨f1 93 (by omega) (by omega) (by omega) (by omega) (by omega) (by omega), f1 94 (by omega) (by omega) (by omega) (by omega) (by omega) (by omega), f1 95 (by omega) (by omega) (by omega) (by omega) (by omega) (by omega)⟩ (f2 1 (by omega)) (f5 5 (by omega) (by omega)) (by rw [sJ_eq, q6, hs, c0.2]) (fun i hi => ⟨fun q a b => ?_, f6 i hi⟩) (fun i hi => ?_) ⟨by rw [q4', f1 96 (by omega) (by omega) (by omega) (by omega) (by omega) (by omega)]; exact a1, by rw [f1 96 (by omega) (by omega) (by omega) (by omega) (by omega) (by omega)]; exact a2, fun _ => live_fr (Nat.le_refl _) (fun q u v => ⟨rfl, sJ_ne (by omega)⟩) (fun q u v => rfl) ⟨rfl, rfl⟩ (fun i u v => ⟨rfl, rfl, rfl, rfl⟩) q3⟩⟩
  · obtain ⟨g1, g2, g3, g4⟩ := f3 i hi
    have h7 : q = 96 ∨ q = 97 ∨ q = 98 ∨ q = 99 ∨ q = 100 ∨ q = 101 ∨ q = 102 := by omega
    rcases h7 with rfl | rfl | rfl | rfl | rfl | rfl | rfl
    · rw [f1 96 (by omega) (by omega) (by omega) (by omega) (by omega) (by omega)]
    · exact g1
    · rw [f1 98 (by omega) (by omega) (by omega) (by omega) (by omega) (by omega)]
    · rw [f1 99 (by omega) (by omega) (by omega) (by omega) (by omega) (by omega)]
    · exact g2
    · exact g3
    · exact g4
  · rw [f1 105 (by omega) (by omega) (by omega) (by omega) (by omega) (by omega), f1 106 (by omega) (by omega) (by omega) (by omega) (by omega) (by omega), f4 107 (by omega) (by omega) (by omega) (by omega) (by omega) (by omega), f7 i hi]
    exact ⟨rfl, rfl, rfl, rfl⟩
theorem ask_2 {N k : Nat} {Ic Im : dI} {Jc Jm : dJ} (hk : k < 8) (hN : N < 90000) (hl : Im 96 k = nn 1) (h : Inv2 N Ic Jc Im Jm) : ∃ r Ic' Jc' Im' Jm', m_91 (nn k) Ic Jc = some (r, Ic', Jc') ∧ m_118 (nn k) Im Jm = some (r, Im', Jm') ∧ CF Ic Jc Ic' Jc' ∧ MF Im Jm Im' Jm' ∧ Im' 92 0 = nn 0 ∧ Inv2 (N + 2) Ic' Jc' Im' Jm' := by
  have h' := h
  obtain ⟨_, hM, hs, h4⟩ := h'
  obtain ⟨a1, a2, a3⟩ := h4 k hk
  have r3 : Ic (20 + 9 * k) 1 = nn 1 := by rw [a1, hl]
  obtain ⟨r, Ic', Jc', Im', Jm', q1, q2, q3, q4, q5, q6⟩ := ask_s hk (by omega) (by rw [sI_ne (by omega)]; exact hl) (inv_code (x := nn 0) h)
  refine ⟨r, Ic', _, Im', Jm', ?_, ?_, q3, fun q hq => by rw [(q4 q hq).1, (q4 q hq).2]; exact ⟨sI_ne (by omega), rfl⟩, by rw [q5, sI_eq], q6⟩
  · unfold m_91 b_91_0
    rw [m40_eq hk, Option.bind_some]
    dsimp only
    rw [if_pos (show ¬ Ic (20 + 9 * k) 1 = 0 by rw [r3]; decide), q1, Option.bind_some]
    rfl
  · unfold m_118 b_118_0
    rw [show (7 : Int64) = Int64.ofNat 7 from rfl, m98_in (by omega) (by omega), Option.bind_some, if_pos (show ¬ nn 1 = 0 by decide)]
    unfold b_118_18
    rw [show (7 : Int64) = Int64.ofNat 7 from rfl, m98_in (by omega) (by omega), Option.bind_some, if_neg (show ¬ nn 1 = 0 by decide)]
    simp (disch := omega) only [b_118_46, b_118_47, and7 hk, hl, m99_0, q2, nn_l, nn_o, nn_lt, nn_le, nn_eq, nn_cl, nn_add, nn_sub, if_pos, if_neg, lt_, Option.bind_some, ↓reduceIte, not_true_eq_false, not_false_eq_true, Nat.add_sub_cancel, Nat.add_zero, Nat.reduceSub, Nat.reduceAdd, Nat.reduceMul, Nat.reduceEqDiff, Nat.reduceLT, Nat.reduceLeDiff, or_false, false_or, Nat.not_lt_zero]
theorem or_0 (x : Int32) : x ||| nn 0 = x := Int32.or_zero
theorem all_2 : ∀ d k N bits Ic Jc Im Jm fu gu, k + d = 8 → d < fu → d < gu → N + d < 90000 → Inv2 N Ic Jc Im Jm → ∃ r Ic' Jc' Im' Jm', b_12_4 fu bits (nn k) Ic Jc = some (r, Ic', Jc') ∧ b_133_9 gu bits (nn k) Im Jm = some (r, Im', Jm') ∧ CF Ic Jc Ic' Jc' ∧ MF Im Jm Im' Jm' ∧ Im' 92 0 = Im 92 0 ∧ Inv2 (N + d) Ic' Jc' Im' Jm' := by
  intro d
  induction d with
  | zero =>
    intro k N bits Ic Jc Im Jm fu gu hk hf hg hN h
    obtain ⟨f, rfl⟩ : ∃ f, fu = f + 1 := ⟨fu - 1, by omega⟩
    obtain ⟨g, rfl⟩ : ∃ g, gu = g + 1 := ⟨gu - 1, by omega⟩
    refine ⟨bits, Ic, Jc, Im, Jm, ?_, ?_, fun _ _ => ⟨rfl, rfl⟩, fun _ _ => ⟨rfl, rfl⟩, rfl, h⟩
    · simp (disch := omega) only [b_12_4, nn_l, nn_o, nn_lt, nn_le, nn_eq, nn_cl, nn_add, nn_sub, if_pos, if_neg, lt_, Option.bind_some, ↓reduceIte, not_true_eq_false, not_false_eq_true, Nat.add_sub_cancel, Nat.add_zero, Nat.reduceSub, Nat.reduceAdd, Nat.reduceMul, Nat.reduceEqDiff, Nat.reduceLT, Nat.reduceLeDiff, or_false, false_or, Nat.not_lt_zero]
    · simp (disch := omega) only [b_133_9, nn_l, nn_o, nn_lt, nn_le, nn_eq, nn_cl, nn_add, nn_sub, if_pos, if_neg, lt_, Option.bind_some, ↓reduceIte, not_true_eq_false, not_false_eq_true, Nat.add_sub_cancel, Nat.add_zero, Nat.reduceSub, Nat.reduceAdd, Nat.reduceMul, Nat.reduceEqDiff, Nat.reduceLT, Nat.reduceLeDiff, or_false, false_or, Nat.not_lt_zero]
  | succ d ih =>
    intro k N bits Ic Jc Im Jm fu gu hk hf hg hN h
    obtain ⟨f, rfl⟩ : ∃ f, fu = f + 1 := ⟨fu - 1, by omega⟩
    obtain ⟨g, rfl⟩ : ∃ g, gu = g + 1 := ⟨gu - 1, by omega⟩
    have h' := h
    obtain ⟨_, _, _, h4⟩ := h'
    obtain ⟨a1, a2, a3⟩ := h4 k (by omega)
    by_cases hl : Im 96 k = nn 1
    · have r3 : Ic (20 + 9 * k) 1 = nn 1 := by rw [a1, hl]
      obtain ⟨r, I1, J1, I2, J2, q1, q2, q3, q4, q5, q6⟩ := ask_s (k := k) (by omega) (by omega) hl h
      by_cases hr : r = nn 1
      · obtain ⟨r', I1', J1', I2', J2', z1, z2, z3, z4, z5, z6⟩ := ih (k + 1) (N + 1) (bits ||| (nn 1 <<< (nn k &&& nn 31))) I1 _ I2 J2 f g (by omega) (by omega) (by omega) (by omega) q6
        refine ⟨r', I1', J1', I2', J2', ?_, ?_, fun q hq => by rw [(z3 q hq).1, (z3 q hq).2]; exact q3 q hq, fun q hq => by rw [(z4 q hq).1, (z4 q hq).2]; exact q4 q hq, by rw [z5, q5], by rw [show N + (d + 1) = N + 1 + d by omega]; exact z6⟩
        · simp (disch := omega) only [b_12_4, b_12_47, b_12_62, r3, q1, hr, z1, nn_l, nn_o, nn_lt, nn_le, nn_eq, nn_cl, nn_add, nn_sub, if_pos, if_neg, lt_, Option.bind_some, ↓reduceIte, not_true_eq_false, not_false_eq_true, Nat.add_sub_cancel, Nat.add_zero, Nat.reduceSub, Nat.reduceAdd, Nat.reduceMul, Nat.reduceEqDiff, Nat.reduceLT, Nat.reduceLeDiff, or_false, false_or, Nat.not_lt_zero]
        · simp (disch := omega) only [b_133_9, b_133_39, hl, q2, hr, z2, nn_l, nn_o, nn_lt, nn_le, nn_eq, nn_cl, nn_add, nn_sub, if_pos, if_neg, lt_, Option.bind_some, ↓reduceIte, not_true_eq_false, not_false_eq_true, Nat.add_sub_cancel, Nat.add_zero, Nat.reduceSub, Nat.reduceAdd, Nat.reduceMul, Nat.reduceEqDiff, Nat.reduceLT, Nat.reduceLeDiff, or_false, false_or, Nat.not_lt_zero]
      · obtain ⟨r', I1', J1', I2', J2', z1, z2, z3, z4, z5, z6⟩ := ih (k + 1) (N + 1) bits I1 _ I2 J2 f g (by omega) (by omega) (by omega) (by omega) q6
        refine ⟨r', I1', J1', I2', J2', ?_, ?_, fun q hq => by rw [(z3 q hq).1, (z3 q hq).2]; exact q3 q hq, fun q hq => by rw [(z4 q hq).1, (z4 q hq).2]; exact q4 q hq, by rw [z5, q5], by rw [show N + (d + 1) = N + 1 + d by omega]; exact z6⟩
        · simp (disch := omega) only [b_12_4, b_12_47, b_12_62, r3, q1, hr, or_0, z1, nn_l, nn_o, nn_lt, nn_le, nn_eq, nn_cl, nn_add, nn_sub, if_pos, if_neg, lt_, Option.bind_some, ↓reduceIte, not_true_eq_false, not_false_eq_true, Nat.add_sub_cancel, Nat.add_zero, Nat.reduceSub, Nat.reduceAdd, Nat.reduceMul, Nat.reduceEqDiff, Nat.reduceLT, Nat.reduceLeDiff, or_false, false_or, Nat.not_lt_zero]
        · simp (disch := omega) only [b_133_9, b_133_39, hl, q2, hr, z2, nn_l, nn_o, nn_lt, nn_le, nn_eq, nn_cl, nn_add, nn_sub, if_pos, if_neg, lt_, Option.bind_some, ↓reduceIte, not_true_eq_false, not_false_eq_true, Nat.add_sub_cancel, Nat.add_zero, Nat.reduceSub, Nat.reduceAdd, Nat.reduceMul, Nat.reduceEqDiff, Nat.reduceLT, Nat.reduceLeDiff, or_false, false_or, Nat.not_lt_zero]
    · have hl0 : Im 96 k = nn 0 := by
        rcases a2 with e | e
        · exact e
        · exact absurd e hl
      have r3 : Ic (20 + 9 * k) 1 = nn 0 := by rw [a1, hl0]
      obtain ⟨r', I1', J1', I2', J2', z1, z2, z3, z4, z5, z6⟩ := ih (k + 1) N bits Ic Jc Im Jm f g (by omega) (by omega) (by omega) (by omega) h
      refine ⟨r', I1', J1', I2', J2', ?_, ?_, z3, z4, z5, inv2_fr (by omega) (fun _ _ => ⟨rfl, rfl⟩) (fun _ _ _ => ⟨rfl, rfl⟩) z6⟩
      · simp (disch := omega) only [b_12_4, b_12_62, r3, z1, nn_l, nn_o, nn_lt, nn_le, nn_eq, nn_cl, nn_add, nn_sub, if_pos, if_neg, lt_, Option.bind_some, ↓reduceIte, not_true_eq_false, not_false_eq_true, Nat.add_sub_cancel, Nat.add_zero, Nat.reduceSub, Nat.reduceAdd, Nat.reduceMul, Nat.reduceEqDiff, Nat.reduceLT, Nat.reduceLeDiff, or_false, false_or, Nat.not_lt_zero]
      · simp (disch := omega) only [b_133_9, b_133_39, hl0, z2, nn_l, nn_o, nn_lt, nn_le, nn_eq, nn_cl, nn_add, nn_sub, if_pos, if_neg, lt_, Option.bind_some, ↓reduceIte, not_true_eq_false, not_false_eq_true, Nat.add_sub_cancel, Nat.add_zero, Nat.reduceSub, Nat.reduceAdd, Nat.reduceMul, Nat.reduceEqDiff, Nat.reduceLT, Nat.reduceLeDiff, or_false, false_or, Nat.not_lt_zero]
theorem askall_2 {N : Nat} {Ic Im : dI} {Jc Jm : dJ} (hN : N < 80000) (h : Inv2 N Ic Jc Im Jm) : ∃ r Ic' Jc' Im' Jm', m_12 Ic Jc = some (r, Ic', Jc') ∧ m_133 Im Jm = some (r, Im', Jm') ∧ CF Ic Jc Ic' Jc' ∧ MF Im Jm Im' Jm' ∧ Inv2 (N + 9) Ic' Jc' Im' Jm' := by
  obtain ⟨F, hF, hF2⟩ : ∃ F, FU = F ∧ 2000 < F := ⟨5000, rfl, by decide⟩
  obtain ⟨r, I1, J1, I2, J2, z1, z2, z3, z4, z5, z6⟩ := all_2 8 0 (N + 1) (nn 0) Ic Jc (sI Im 92 0 (nn 0)) Jm F F (by omega) (by omega) (by omega) (by omega) (inv_code h)
  refine ⟨r, I1, J1, I2, J2, ?_, ?_, z3, fun q hq => by rw [(z4 q hq).1, (z4 q hq).2]; exact ⟨sI_ne (by omega), rfl⟩, z6⟩
  · unfold m_12 b_12_0
    rw [hF]
    exact z1
  · unfold m_133 b_133_0
    rw [hF]
    exact z2
theorem cnt_l : ∀ d k c Ic Jc Im Jm fu gu x, k + d = 8 → d < fu → d < gu → (∀ k, k < 8 → Ic (20 + 9 * k) 1 = Im 96 k) → ∃ r, b_38_4 fu c (nn k) Ic Jc = some r ∧ b_135_9 gu x c (nn k) Im Jm = (if ¬ x = nn 0 then (if ¬ x = nn 1 then (if ¬ x = nn 2 then (some ((-1), Im, Jm)) else (some ((Jm 92 20), Im, Jm))) else (some ((Int32.toInt64 r), Im, Jm))) else (some ((Int32.toInt64 (Im 92 1)), Im, Jm))) := by
  intro d
  induction d with
  | zero =>
    intro k c Ic Jc Im Jm fu gu x hk hf hg h
    obtain ⟨f, rfl⟩ : ∃ f, fu = f + 1 := ⟨fu - 1, by omega⟩
    obtain ⟨g, rfl⟩ : ∃ g, gu = g + 1 := ⟨gu - 1, by omega⟩
    refine ⟨c, ?_, ?_⟩
    · simp (disch := omega) only [b_38_4, nn_l, nn_o, nn_lt, nn_le, nn_eq, nn_cl, nn_add, nn_sub, if_pos, if_neg, lt_, Option.bind_some, ↓reduceIte, not_true_eq_false, not_false_eq_true, Nat.add_sub_cancel, Nat.add_zero, Nat.reduceSub, Nat.reduceAdd, Nat.reduceMul, Nat.reduceEqDiff, Nat.reduceLT, Nat.reduceLeDiff, or_false, false_or, Nat.not_lt_zero]
    · rw [b_135_9, if_pos (show (8 : Int32) ≤ nn k by rw [nn_l, nn_le (by omega) (by omega)]; omega)]
      rfl
  | succ d ih =>
    intro k c Ic Jc Im Jm fu gu x hk hf hg h
    obtain ⟨f, rfl⟩ : ∃ f, fu = f + 1 := ⟨fu - 1, by omega⟩
    obtain ⟨g, rfl⟩ : ∃ g, gu = g + 1 := ⟨gu - 1, by omega⟩
    have hk1 := h k (by omega)
    by_cases e : Im 96 k = nn 0
    · obtain ⟨r, z1, z2⟩ := ih (k + 1) c Ic Jc Im Jm f g x (by omega) (by omega) (by omega) h
      refine ⟨r, ?_, ?_⟩
      · simp (disch := omega) only [b_38_4, b_38_34, hk1, e, z1, nn_l, nn_o, nn_lt, nn_le, nn_eq, nn_cl, nn_add, nn_sub, if_pos, if_neg, lt_, Option.bind_some, ↓reduceIte, not_true_eq_false, not_false_eq_true, Nat.add_sub_cancel, Nat.add_zero, Nat.reduceSub, Nat.reduceAdd, Nat.reduceMul, Nat.reduceEqDiff, Nat.reduceLT, Nat.reduceLeDiff, or_false, false_or, Nat.not_lt_zero]
      · rw [← z2]
        simp (disch := omega) only [b_135_9, b_135_31, e, nn_l, nn_o, nn_lt, nn_le, nn_eq, nn_cl, nn_add, nn_sub, if_pos, if_neg, lt_, Option.bind_some, ↓reduceIte, not_true_eq_false, not_false_eq_true, Nat.add_sub_cancel, Nat.add_zero, Nat.reduceSub, Nat.reduceAdd, Nat.reduceMul, Nat.reduceEqDiff, Nat.reduceLT, Nat.reduceLeDiff, or_false, false_or, Nat.not_lt_zero]
    · obtain ⟨r, z1, z2⟩ := ih (k + 1) (c + nn 1) Ic Jc Im Jm f g x (by omega) (by omega) (by omega) h
      refine ⟨r, ?_, ?_⟩
      · simp (disch := omega) only [b_38_4, b_38_34, hk1, e, z1, nn_l, nn_o, nn_lt, nn_le, nn_eq, nn_cl, nn_add, nn_sub, if_pos, if_neg, lt_, Option.bind_some, ↓reduceIte, not_true_eq_false, not_false_eq_true, Nat.add_sub_cancel, Nat.add_zero, Nat.reduceSub, Nat.reduceAdd, Nat.reduceMul, Nat.reduceEqDiff, Nat.reduceLT, Nat.reduceLeDiff, or_false, false_or, Nat.not_lt_zero]
      · rw [← z2]
        simp (disch := omega) only [b_135_9, b_135_31, e, nn_l, nn_o, nn_lt, nn_le, nn_eq, nn_cl, nn_add, nn_sub, if_pos, if_neg, lt_, Option.bind_some, ↓reduceIte, not_true_eq_false, not_false_eq_true, Nat.add_sub_cancel, Nat.add_zero, Nat.reduceSub, Nat.reduceAdd, Nat.reduceMul, Nat.reduceEqDiff, Nat.reduceLT, Nat.reduceLeDiff, or_false, false_or, Nat.not_lt_zero]
theorem count_2 {N : Nat} {Ic Im : dI} {Jc Jm : dJ} (x : Int32) (h : Inv2 N Ic Jc Im Jm) : ∃ r, m_37 x Ic Jc = some r ∧ m_135 x Im Jm = some (r, sI Im 92 0 (nn 0), Jm) ∧ Inv2 (N + 1) Ic Jc (sI Im 92 0 (nn 0)) Jm := by
  have h' := h
  obtain ⟨⟨s, T, t1, t2⟩, hM, hs, h4⟩ := h'
  obtain ⟨F, hF, hF2⟩ : ∃ F, FU = F ∧ 2000 < F := ⟨5000, rfl, by decide⟩
  obtain ⟨r, z1, z2⟩ := cnt_l 8 0 (nn 0) Ic Jc (sI Im 92 0 (nn 0)) Jm F F x (by omega) (by omega) (by omega) (fun k hk => by rw [sI_ne (by omega)]; exact (h4 k hk).1)
  have hmod : m_135 x Im Jm = b_135_9 F x (nn 0) (nn 0) (sI Im 92 0 (nn 0)) Jm := by
    unfold m_135 b_135_0
    rw [hF]
    rfl
  have h38 : m_38 Ic Jc = some r := by
    unfold m_38 b_38_0
    rw [hF]
    exact z1
  rw [← hmod] at z2
  rw [z2]
  by_cases x0 : x = nn 0
  · subst x0
    refine ⟨Int32.toInt64 (Ic 1 1), rfl, ?_, inv_code h⟩
    rw [if_neg (fun y => y rfl), sI_nk (by omega), t1.1, t2.1]
  · by_cases x1 : x = nn 1
    · subst x1
      refine ⟨Int32.toInt64 r, ?_, ?_, inv_code h⟩
      · unfold m_37 b_37_0
        rw [if_neg (show ¬ nn 1 = 0 by decide), if_pos (show nn 1 = 1 from rfl), h38, Option.bind_some]
      · rw [if_pos x0, if_neg (fun y => y rfl)]
    · by_cases x2 : x = nn 2
      · subst x2
        refine ⟨Jc 0 4, rfl, ?_, inv_code h⟩
        rw [if_pos x0, if_pos x1, if_neg (fun y => y rfl), hs]
      · refine ⟨-1, ?_, ?_, inv_code h⟩
        · unfold m_37 b_37_0
          rw [if_neg (show ¬ x = 0 from x0), if_neg (show ¬ x = 1 from x1), if_neg (show ¬ x = 2 from x2)]
        · rw [if_pos x0, if_pos x1, if_pos x2]
