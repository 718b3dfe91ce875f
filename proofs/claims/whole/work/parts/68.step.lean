/-! The reference's evaluator: the single turns. -/
theorem ent_np {k : Int32} {I : dI} {J : dJ} {f a b t : Nat} (hT : Top I f a b 0) (hf : f < 129) (ha : a < 960) (hb : 0 < b) (hb2 : b ≤ 960) (ht : t < 100) (hk : I 105 a = nn t) (hn : t ≠ 30 ∨ I 106 a ≠ nn (b - 1)) : stp k I J = b_122_63 k (nn f) (nn a) (nn t) I J := by
  rw [stp_0 hT (by omega)]
  obtain ⟨t1, t2, t3, t4⟩ := hT
  by_cases e : t = 30
  · have hn' : ¬ I 106 a = nn (b - 1) := by
      rcases hn with h | h
      · exact absurd e h
      · exact h
    simp (disch := omega) only [m_122, b_122_0, t2, t3, hk, hn', not_false_eq_true, ↓reduceIte, nn_l, nn_o, nn_lt, nn_le, nn_eq, nn_cl, nn_add, nn_sub, if_pos, if_neg, lt_, Option.bind_some, ↓reduceIte, not_true_eq_false, not_false_eq_true, Nat.add_sub_cancel, Nat.add_zero, Nat.reduceSub, Nat.reduceAdd, Nat.reduceMul, Nat.reduceEqDiff, Nat.reduceLT, Nat.reduceLeDiff, or_false, false_or, Nat.not_lt_zero]
  · simp (disch := omega) only [m_122, b_122_0, t2, hk, nn_l, nn_o, nn_lt, nn_le, nn_eq, nn_cl, nn_add, nn_sub, if_pos, if_neg, lt_, Option.bind_some, ↓reduceIte, not_true_eq_false, not_false_eq_true, Nat.add_sub_cancel, Nat.add_zero, Nat.reduceSub, Nat.reduceAdd, Nat.reduceMul, Nat.reduceEqDiff, Nat.reduceLT, Nat.reduceLeDiff, or_false, false_or, Nat.not_lt_zero]
def Ln (I : dI) (J : dJ) (a b : Nat) : Prop := ∀ x, m_123 (nn a) (nn b) (sI I 92 33 x) J = some (-(nn 1))
theorem en_num {k : Int32} {I : dI} {J : dJ} {f a b : Nat} (hT : Top I f a b 0) (hf : f < 129) (ha : a < 960) (hb : 0 < b) (hb2 : b ≤ 960) (hk : I 105 a = nn 1) (hl : Ln I J a b) : stp k I J = some (sI (nl I f a) 92 32 (nn f), sJ J 92 35 (J 107 a)) := by
  rw [ent_np (t := 1) hT hf ha hb hb2 (by omega) hk (by omega)]
  have hl' : ∀ x, m_123 (nn a) (nn b) (sI I 92 33 x) J = some (-(nn 1)) := hl
  obtain ⟨t1, t2, t3, t4⟩ := hT
  simp (disch := omega) only [b_122_63, t1, t3, hl', m_125, b_125_0, nl, sI_ne, sI_nk, sI_eq, nn_m1, ↓reduceIte, nn_l, nn_o, nn_lt, nn_le, nn_eq, nn_cl, nn_add, nn_sub, if_pos, if_neg, lt_, Option.bind_some, ↓reduceIte, not_true_eq_false, not_false_eq_true, Nat.add_sub_cancel, Nat.add_zero, Nat.reduceSub, Nat.reduceAdd, Nat.reduceMul, Nat.reduceEqDiff, Nat.reduceLT, Nat.reduceLeDiff, or_false, false_or, Nat.not_lt_zero]
theorem en_reg {k : Int32} {I : dI} {J : dJ} {f a b z : Nat} (hT : Top I f a b 0) (hf : f < 129) (ha : a < 960) (hb : 0 < b) (hb2 : b ≤ 960) (hk : I 105 a = nn 2) (hl : Ln I J a b) (hz : J 107 a = Int64.ofNat z) (hz2 : z < 34) : stp k I J = some (sI (nl I f a) 92 32 (nn f), sJ J 92 35 (Int32.toInt64 (I 94 z))) := by
  rw [ent_np (t := 2) hT hf ha hb hb2 (by omega) hk (by omega)]
  have hl' : ∀ x, m_123 (nn a) (nn b) (sI I 92 33 x) J = some (-(nn 1)) := hl
  obtain ⟨t1, t2, t3, t4⟩ := hT
  simp (disch := omega) only [b_122_63, t1, t3, hl', hz, nn_int, m_125, b_125_0, nl, sI_ne, sI_nk, sI_eq, nn_m1, ↓reduceIte, nn_l, nn_o, nn_lt, nn_le, nn_eq, nn_cl, nn_add, nn_sub, if_pos, if_neg, lt_, Option.bind_some, ↓reduceIte, not_true_eq_false, not_false_eq_true, Nat.add_sub_cancel, Nat.add_zero, Nat.reduceSub, Nat.reduceAdd, Nat.reduceMul, Nat.reduceEqDiff, Nat.reduceLT, Nat.reduceLeDiff, or_false, false_or, Nat.not_lt_zero]
theorem en_pc {k : Int32} {I : dI} {J : dJ} {f a b t : Nat} (hT : Top I f a b 0) (hf : f < 129) (ha : a < 960) (hb : 0 < b) (hb2 : b ≤ 960) (hk : I 105 a = nn t) (ht : t = 3 ∨ t = 4) (hl : Ln I J a b) : stp k I J = some (sI (nl I f a) 92 32 (nn f), sJ J 92 35 (Int32.toInt64 (I 94 (t + 29)))) := by
  rw [ent_np (t := t) hT hf ha hb hb2 (by omega) hk (by omega)]
  have hl' : ∀ x, m_123 (nn a) (nn b) (sI I 92 33 x) J = some (-(nn 1)) := hl
  obtain ⟨t1, t2, t3, t4⟩ := hT
  rcases ht with ht | ht <;> subst ht <;> simp (disch := omega) only [b_122_63, t1, t3, hl', m_125, b_125_0, nl, sI_ne, sI_nk, sI_eq, nn_m1, ↓reduceIte, nn_l, nn_o, nn_lt, nn_le, nn_eq, nn_cl, nn_add, nn_sub, if_pos, if_neg, lt_, Option.bind_some, ↓reduceIte, not_true_eq_false, not_false_eq_true, Nat.add_sub_cancel, Nat.add_zero, Nat.reduceSub, Nat.reduceAdd, Nat.reduceMul, Nat.reduceEqDiff, Nat.reduceLT, Nat.reduceLeDiff, or_false, false_or, Nat.not_lt_zero]
theorem en_cnt {k : Int32} {I : dI} {J : dJ} {f a b : Nat} (hT : Top I f a b 0) (hf : f < 129) (ha : a < 960) (hb : 0 < b) (hb2 : b ≤ 960) (hk : I 105 a = nn 5) (hl : Ln I J a b) : stp k I J = some (sI (nl I f a) 92 32 (nn f), sJ J 92 35 (J 92 5)) := by
  rw [ent_np (t := 5) hT hf ha hb hb2 (by omega) hk (by omega)]
  have hl' : ∀ x, m_123 (nn a) (nn b) (sI I 92 33 x) J = some (-(nn 1)) := hl
  obtain ⟨t1, t2, t3, t4⟩ := hT
  simp (disch := omega) only [b_122_63, t1, t3, hl', m_125, b_125_0, nl, sI_ne, sI_nk, sI_eq, nn_m1, ↓reduceIte, nn_l, nn_o, nn_lt, nn_le, nn_eq, nn_cl, nn_add, nn_sub, if_pos, if_neg, lt_, Option.bind_some, ↓reduceIte, not_true_eq_false, not_false_eq_true, Nat.add_sub_cancel, Nat.add_zero, Nat.reduceSub, Nat.reduceAdd, Nat.reduceMul, Nat.reduceEqDiff, Nat.reduceLT, Nat.reduceLeDiff, or_false, false_or, Nat.not_lt_zero]
theorem en_old1 {k : Nat} {I : dI} {J : dJ} {f a b : Nat} (hT : Top I f a b 0) (hf : f < 129) (ha : a < 960) (hb : 0 < b) (hb2 : b ≤ 960) (hk : I 105 a = nn 8) (hl : Ln I J a b) (h8 : k < 8) (hw : I 97 k = nn 1) : stp (nn k) I J = some (sI (nl I f a) 92 32 (nn f), sJ J 92 35 (J 108 a)) := by
  rw [ent_np (t := 8) hT hf ha hb hb2 (by omega) hk (by omega)]
  have hl' : ∀ x, m_123 (nn a) (nn b) (sI I 92 33 x) J = some (-(nn 1)) := hl
  obtain ⟨t1, t2, t3, t4⟩ := hT
  simp (disch := omega) only [b_122_63, t1, t3, hl', hw, m_125, b_125_0, nl, sI_ne, sI_nk, sI_eq, nn_m1, ↓reduceIte, nn_l, nn_o, nn_lt, nn_le, nn_eq, nn_cl, nn_add, nn_sub, if_pos, if_neg, lt_, Option.bind_some, ↓reduceIte, not_true_eq_false, not_false_eq_true, Nat.add_sub_cancel, Nat.add_zero, Nat.reduceSub, Nat.reduceAdd, Nat.reduceMul, Nat.reduceEqDiff, Nat.reduceLT, Nat.reduceLeDiff, or_false, false_or, Nat.not_lt_zero]
theorem en_old0 {k : Nat} {I : dI} {J : dJ} {f a b : Nat} (hT : Top I f a b 0) (hf : f < 129) (ha : a < 960) (hb : 0 < b) (hb2 : b ≤ 960) (hk : I 105 a = nn 8) (hl : Ln I J a b) (h8 : k < 8) (hw : I 97 k = nn 0) : stp (nn k) I J = some (bg (nl I f a) (f + 1) (a + 2) (b - 1), J) := by
  rw [ent_np (t := 8) hT hf ha hb hb2 (by omega) hk (by omega)]
  have hl' : ∀ x, m_123 (nn a) (nn b) (sI I 92 33 x) J = some (-(nn 1)) := hl
  obtain ⟨t1, t2, t3, t4⟩ := hT
  have hg := bg_ok (I := nl I f a) (f := f + 1) (a := a + 2) (b := b - 1) J (by rw [nl_32, t1]) (by omega)
  simp only [nl] at hg
  simp (disch := omega) only [b_122_63, t1, t3, hl', hw, hg, nl, sI_ne, sI_nk, sI_eq, nn_m1, ↓reduceIte, nn_l, nn_o, nn_lt, nn_le, nn_eq, nn_cl, nn_add, nn_sub, if_pos, if_neg, lt_, Option.bind_some, ↓reduceIte, not_true_eq_false, not_false_eq_true, Nat.add_sub_cancel, Nat.add_zero, Nat.reduceSub, Nat.reduceAdd, Nat.reduceMul, Nat.reduceEqDiff, Nat.reduceLT, Nat.reduceLeDiff, or_false, false_or, Nat.not_lt_zero]
theorem en_acc {k : Int32} {I : dI} {J : dJ} {f a b t : Nat} (hT : Top I f a b 0) (hf : f < 129) (ha : a < 960) (hb : 0 < b) (hb2 : b ≤ 960) (hk : I 105 a = nn t) (ht : t = 6 ∨ t = 7 ∨ t = 9) (hl : Ln I J a b) : stp k I J = some (bg (nl I f a) (f + 1) (a + 2) (b - 1), J) := by
  rw [ent_np (t := t) hT hf ha hb hb2 (by omega) hk (by omega)]
  have hl' : ∀ x, m_123 (nn a) (nn b) (sI I 92 33 x) J = some (-(nn 1)) := hl
  obtain ⟨t1, t2, t3, t4⟩ := hT
  have hg := bg_ok (I := nl I f a) (f := f + 1) (a := a + 2) (b := b - 1) J (by rw [nl_32, t1]) (by omega)
  simp only [nl] at hg
  rcases ht with ht | ht | ht <;> subst ht <;> simp (disch := omega) only [b_122_63, t1, t3, hl', hg, nl, sI_ne, sI_nk, sI_eq, nn_m1, ↓reduceIte, nn_l, nn_o, nn_lt, nn_le, nn_eq, nn_cl, nn_add, nn_sub, if_pos, if_neg, lt_, Option.bind_some, ↓reduceIte, not_true_eq_false, not_false_eq_true, Nat.add_sub_cancel, Nat.add_zero, Nat.reduceSub, Nat.reduceAdd, Nat.reduceMul, Nat.reduceEqDiff, Nat.reduceLT, Nat.reduceLeDiff, or_false, false_or, Nat.not_lt_zero]
theorem en_from {k : Int32} {I : dI} {J : dJ} {f a b : Nat} (hT : Top I f a b 0) (hf : f < 129) (ha : a < 960) (hb : 0 < b) (hb2 : b ≤ 960) (hk : I 105 a = nn 32) (hl : Ln I J a b) : stp k I J = some (bg (nl I f a) (f + 1) (a + 1) (b - 1), J) := by
  rw [ent_np (t := 32) hT hf ha hb hb2 (by omega) hk (by omega)]
  have hl' : ∀ x, m_123 (nn a) (nn b) (sI I 92 33 x) J = some (-(nn 1)) := hl
  obtain ⟨t1, t2, t3, t4⟩ := hT
  have hg := bg_ok (I := nl I f a) (f := f + 1) (a := a + 1) (b := b - 1) J (by rw [nl_32, t1]) (by omega)
  simp only [nl] at hg
  simp (disch := omega) only [b_122_63, t1, t3, hl', hg, nl, sI_ne, sI_nk, sI_eq, nn_m1, ↓reduceIte, nn_l, nn_o, nn_lt, nn_le, nn_eq, nn_cl, nn_add, nn_sub, if_pos, if_neg, lt_, Option.bind_some, ↓reduceIte, not_true_eq_false, not_false_eq_true, Nat.add_sub_cancel, Nat.add_zero, Nat.reduceSub, Nat.reduceAdd, Nat.reduceMul, Nat.reduceEqDiff, Nat.reduceLT, Nat.reduceLeDiff, or_false, false_or, Nat.not_lt_zero]
theorem en_pre {k : Int32} {I : dI} {J : dJ} {f a b t : Nat} (hT : Top I f a b 0) (hf : f < 129) (ha : a < 960) (hb : 0 < b) (hb2 : b ≤ 960) (hk : I 105 a = nn t) (ht : t = 24 ∨ t = 28 ∨ t = 29) (hl : Ln I J a b) : stp k I J = some (bg (nl I f a) (f + 1) (a + 1) b, J) := by
  rw [ent_np (t := t) hT hf ha hb hb2 (by omega) hk (by omega)]
  have hl' : ∀ x, m_123 (nn a) (nn b) (sI I 92 33 x) J = some (-(nn 1)) := hl
  obtain ⟨t1, t2, t3, t4⟩ := hT
  have hg := bg_ok (I := nl I f a) (f := f + 1) (a := a + 1) (b := b) J (by rw [nl_32, t1]) (by omega)
  simp only [nl] at hg
  rcases ht with ht | ht | ht <;> subst ht <;> simp (disch := omega) only [b_122_63, b_122_350, t1, t3, hl', hg, nl, sI_ne, sI_nk, sI_eq, nn_m1, ↓reduceIte, nn_l, nn_o, nn_lt, nn_le, nn_eq, nn_cl, nn_add, nn_sub, if_pos, if_neg, lt_, Option.bind_some, ↓reduceIte, not_true_eq_false, not_false_eq_true, Nat.add_sub_cancel, Nat.add_zero, Nat.reduceSub, Nat.reduceAdd, Nat.reduceMul, Nat.reduceEqDiff, Nat.reduceLT, Nat.reduceLeDiff, or_false, false_or, Nat.not_lt_zero]
theorem en_bin {k : Int32} {I : dI} {J : dJ} {f a b s t : Nat} (hT : Top I f a b 0) (hf : f < 129) (ha : a < 960) (hb : 0 < b) (hb2 : b ≤ 960) (hs : s < 960) (ht : t < 100) (hk : I 105 a = nn t) (hn : t ≠ 30 ∨ I 106 a ≠ nn (b - 1)) (hl : ∀ x, m_123 (nn a) (nn b) (sI I 92 33 x) J = some (nn s)) : stp k I J = some (bg (nb I f s) (f + 1) a s, J) := by
  rw [ent_np (t := t) hT hf ha hb hb2 ht hk hn]
  obtain ⟨t1, t2, t3, t4⟩ := hT
  have hg := bg_ok (I := nb I f s) (f := f + 1) (a := a) (b := s) J (by rw [nb_32, t1]) (by omega)
  have hc : (nn f < 0 ∨ 130 ≤ Int32.toNatClampNeg (nn f)) = False := by
    rw [nn_l, nn_lt (by omega) (by omega), nn_cl (by omega)]
    exact eq_false (by omega)
  have ecl : Int32.toNatClampNeg (nn f) = f := nn_cl (by omega)
  have e115 : (sI I 92 33 (I 92 33 + 1)) 115 f = nn b := by rw [sI_ne (by omega)]; exact t3
  have e116 : ¬ (sI (sI I 92 33 (I 92 33 + 1)) 116 f (nn s)) 116 f < 0 := by
    rw [sI_eq, nn_l, nn_lt (by omega) (by omega)]
    omega
  have e116' : (sI (sI (sI I 92 33 (I 92 33 + 1)) 116 f (nn s)) 117 f 1) 116 f = nn s := by rw [sI_ne (by omega), sI_eq]
  unfold b_122_63
  simp only [hc, lt_, ↓reduceIte, not_false_eq_true]
  rw [ecl, e115, hl, Option.bind_some, if_neg e116, e116']
  show (m_121 (nn a) (nn s) (nb I f s) J).bind _ = _
  rw [hg, Option.bind_some]
theorem ha_push {k : Int32} {I : dI} {J : dJ} {f a b s t : Nat} {v : Int64} (hT : Top I f a b 1) (hf : f < 129) (hs : s < 960) (hb2 : b ≤ 960) (h6 : I 116 f = nn s) (hk : I 105 s = nn t) (ht : t < 100) (hv : J 92 35 = v) (h10 : t = 10 → v = 0) (h11 : t = 11 → v ≠ 0) : stp k I J = some (bg (sI I 117 f (nn 2)) (f + 1) (s + 1) b, sJ J 118 f v) := by
  rw [stp_1 hT (by omega)]
  obtain ⟨t1, t2, t3, t4⟩ := hT
  have hg := bg_ok (I := sI I 117 f (nn 2)) (f := f + 1) (a := s + 1) (b := b) (sJ J 118 f v) (by rw [sI_ne (by omega), t1]) (by omega)
  by_cases c1 : t = 10
  · have c2 := h10 c1
    subst c1
    simp (disch := omega) only [m_126, b_126_0, b_126_37, b_126_68, t1, t3, h6, hk, hv, c2, lg_eq0, sJ_ne, sI_ne, hg, not_true_eq_false, ↓reduceIte, nn_l, nn_o, nn_lt, nn_le, nn_eq, nn_cl, nn_add, nn_sub, if_pos, if_neg, lt_, Option.bind_some, ↓reduceIte, not_true_eq_false, not_false_eq_true, Nat.add_sub_cancel, Nat.add_zero, Nat.reduceSub, Nat.reduceAdd, Nat.reduceMul, Nat.reduceEqDiff, Nat.reduceLT, Nat.reduceLeDiff, or_false, false_or, Nat.not_lt_zero]
    rw [← c2, hg]
    rfl
  · by_cases c3 : t = 11
    · have c2 := h11 c3
      subst c3
      simp (disch := omega) only [m_126, b_126_0, b_126_37, b_126_68, t1, t3, h6, hk, hv, c2, lg_eq0, sJ_ne, sI_ne, hg, not_false_eq_true, ↓reduceIte, nn_l, nn_o, nn_lt, nn_le, nn_eq, nn_cl, nn_add, nn_sub, if_pos, if_neg, lt_, Option.bind_some, ↓reduceIte, not_true_eq_false, not_false_eq_true, Nat.add_sub_cancel, Nat.add_zero, Nat.reduceSub, Nat.reduceAdd, Nat.reduceMul, Nat.reduceEqDiff, Nat.reduceLT, Nat.reduceLeDiff, or_false, false_or, Nat.not_lt_zero]
    · simp (disch := omega) only [m_126, b_126_0, b_126_37, b_126_68, t1, t3, h6, hk, hv, lg_eq0, sJ_ne, sI_ne, hg, nn_l, nn_o, nn_lt, nn_le, nn_eq, nn_cl, nn_add, nn_sub, if_pos, if_neg, lt_, Option.bind_some, ↓reduceIte, not_true_eq_false, not_false_eq_true, Nat.add_sub_cancel, Nat.add_zero, Nat.reduceSub, Nat.reduceAdd, Nat.reduceMul, Nat.reduceEqDiff, Nat.reduceLT, Nat.reduceLeDiff, or_false, false_or, Nat.not_lt_zero]
theorem ha_give {k : Int32} {I : dI} {J : dJ} {f a b s t : Nat} {v : Int64} (hT : Top I f a b 1) (hf : f < 129) (hs : s < 960) (h6 : I 116 f = nn s) (hk : I 105 s = nn t) (hv : J 92 35 = v) (ht : (t = 10 ∧ v ≠ 0) ∨ (t = 11 ∧ v = 0)) : stp k I J = some (sI I 92 32 (nn f), sJ (sJ J 118 f v) 92 35 (tr (t = 10))) := by
  rw [stp_1 hT (by omega)]
  obtain ⟨t1, t2, t3, t4⟩ := hT
  rcases ht with ⟨c, c2⟩ | ⟨c, c2⟩
  · subst c
    simp (disch := omega) only [m_126, b_126_0, b_126_52, b_126_64, m_125, b_125_0, t1, h6, hk, hv, c2, lg_eq0, sJ_ne, tr, not_false_eq_true, not_true_eq_false, ↓reduceIte, nn_l, nn_o, nn_lt, nn_le, nn_eq, nn_cl, nn_add, nn_sub, if_pos, if_neg, lt_, Option.bind_some, ↓reduceIte, not_true_eq_false, not_false_eq_true, Nat.add_sub_cancel, Nat.add_zero, Nat.reduceSub, Nat.reduceAdd, Nat.reduceMul, Nat.reduceEqDiff, Nat.reduceLT, Nat.reduceLeDiff, or_false, false_or, Nat.not_lt_zero]
  · subst c
    simp (disch := omega) only [m_126, b_126_0, b_126_37, b_126_52, b_126_64, m_125, b_125_0, t1, h6, hk, hv, c2, lg_eq0, sJ_ne, tr, not_false_eq_true, not_true_eq_false, ↓reduceIte, nn_l, nn_o, nn_lt, nn_le, nn_eq, nn_cl, nn_add, nn_sub, if_pos, if_neg, lt_, Option.bind_some, ↓reduceIte, not_true_eq_false, not_false_eq_true, Nat.add_sub_cancel, Nat.add_zero, Nat.reduceSub, Nat.reduceAdd, Nat.reduceMul, Nat.reduceEqDiff, Nat.reduceLT, Nat.reduceLeDiff, or_false, false_or, Nat.not_lt_zero]
theorem m128_0 (I : dI) (J : dJ) : m_128 (nn 0) I J = some 0 := by simp (disch := omega) only [m_128, b_128_0, nn_l, nn_o, nn_lt, nn_le, nn_eq, nn_cl, nn_add, nn_sub, if_pos, if_neg, lt_, Option.bind_some, ↓reduceIte, not_true_eq_false, not_false_eq_true, Nat.add_sub_cancel, Nat.add_zero, Nat.reduceSub, Nat.reduceAdd, Nat.reduceMul, Nat.reduceEqDiff, Nat.reduceLT, Nat.reduceLeDiff, or_false, false_or, Nat.not_lt_zero]
theorem m128_1 (I : dI) (J : dJ) : m_128 (nn 1) I J = some 1 := by simp (disch := omega) only [m_128, b_128_0, nn_l, nn_o, nn_lt, nn_le, nn_eq, nn_cl, nn_add, nn_sub, if_pos, if_neg, lt_, Option.bind_some, ↓reduceIte, not_true_eq_false, not_false_eq_true, Nat.add_sub_cancel, Nat.add_zero, Nat.reduceSub, Nat.reduceAdd, Nat.reduceMul, Nat.reduceEqDiff, Nat.reduceLT, Nat.reduceLeDiff, or_false, false_or, Nat.not_lt_zero]
theorem jn_un {kk : Int32} {I : dI} {J : dJ} {f a b k t : Nat} {v : Int64} (hT : Top I f a b 2) (hf : f < 129) (ha : a < 960) (h6 : I 116 f = nn a) (hk : I 105 a = nn t) (hv : J 92 35 = v) (ht : (k = 35 ∧ t = 24) ∨ (k = 14 ∧ t = 28) ∨ (k = 15 ∧ t = 29)) : stp kk I J = some (sI I 92 32 (nn f), sJ J 92 35 (un k v)) := by
  rw [stp_2 hT (by omega)]
  obtain ⟨t1, t2, t3, t4⟩ := hT
  rcases ht with ⟨c, c2⟩ | ⟨c, c2⟩ | ⟨c, c2⟩ <;> subst c <;> subst c2
  · simp (disch := omega) only [m_127, b_127_0, b_127_44, b_127_68, m_125, b_125_0, t1, t2, h6, hk, hv, un, not_true_eq_false, not_false_eq_true, ↓reduceIte, nn_l, nn_o, nn_lt, nn_le, nn_eq, nn_cl, nn_add, nn_sub, if_pos, if_neg, lt_, Option.bind_some, ↓reduceIte, not_true_eq_false, not_false_eq_true, Nat.add_sub_cancel, Nat.add_zero, Nat.reduceSub, Nat.reduceAdd, Nat.reduceMul, Nat.reduceEqDiff, Nat.reduceLT, Nat.reduceLeDiff, or_false, false_or, Nat.not_lt_zero]
  · by_cases q : v = 0
    · simp (disch := omega) only [m_127, b_127_0, b_127_44, b_127_68, b_127_88, m128_0, m128_1, m_125, b_125_0, t1, t2, h6, hk, hv, un, tr, q, lg_eq0, not_true_eq_false, not_false_eq_true, ↓reduceIte, nn_l, nn_o, nn_lt, nn_le, nn_eq, nn_cl, nn_add, nn_sub, if_pos, if_neg, lt_, Option.bind_some, ↓reduceIte, not_true_eq_false, not_false_eq_true, Nat.add_sub_cancel, Nat.add_zero, Nat.reduceSub, Nat.reduceAdd, Nat.reduceMul, Nat.reduceEqDiff, Nat.reduceLT, Nat.reduceLeDiff, or_false, false_or, Nat.not_lt_zero]
    · simp (disch := omega) only [m_127, b_127_0, b_127_44, b_127_68, b_127_88, m128_0, m128_1, m_125, b_125_0, t1, t2, h6, hk, hv, un, tr, q, lg_eq0, not_true_eq_false, not_false_eq_true, ↓reduceIte, nn_l, nn_o, nn_lt, nn_le, nn_eq, nn_cl, nn_add, nn_sub, if_pos, if_neg, lt_, Option.bind_some, ↓reduceIte, not_true_eq_false, not_false_eq_true, Nat.add_sub_cancel, Nat.add_zero, Nat.reduceSub, Nat.reduceAdd, Nat.reduceMul, Nat.reduceEqDiff, Nat.reduceLT, Nat.reduceLeDiff, or_false, false_or, Nat.not_lt_zero]
  · simp (disch := omega) only [m_127, b_127_0, b_127_44, b_127_68, m_125, b_125_0, t1, t2, h6, hk, hv, un, not_true_eq_false, not_false_eq_true, ↓reduceIte, nn_l, nn_o, nn_lt, nn_le, nn_eq, nn_cl, nn_add, nn_sub, if_pos, if_neg, lt_, Option.bind_some, ↓reduceIte, not_true_eq_false, not_false_eq_true, Nat.add_sub_cancel, Nat.add_zero, Nat.reduceSub, Nat.reduceAdd, Nat.reduceMul, Nat.reduceEqDiff, Nat.reduceLT, Nat.reduceLeDiff, or_false, false_or, Nat.not_lt_zero]
theorem jn_old {kk : Int32} {I : dI} {J : dJ} {f a b : Nat} {v : Int64} (hT : Top I f a b 2) (hf : f < 129) (ha : a < 960) (h6 : I 116 f = nn a) (hk : I 105 a = nn 8) (hv : J 92 35 = v) : stp kk I J = some (sI I 92 32 (nn f), sJ J 92 35 v) := by
  rw [stp_2 hT (by omega)]
  obtain ⟨t1, t2, t3, t4⟩ := hT
  simp (disch := omega) only [m_127, b_127_0, b_127_44, b_127_68, m_125, b_125_0, t1, t2, h6, hk, hv, not_true_eq_false, not_false_eq_true, ↓reduceIte, nn_l, nn_o, nn_lt, nn_le, nn_eq, nn_cl, nn_add, nn_sub, if_pos, if_neg, lt_, Option.bind_some, ↓reduceIte, not_true_eq_false, not_false_eq_true, Nat.add_sub_cancel, Nat.add_zero, Nat.reduceSub, Nat.reduceAdd, Nat.reduceMul, Nat.reduceEqDiff, Nat.reduceLT, Nat.reduceLeDiff, or_false, false_or, Nat.not_lt_zero]
theorem jn_chg0 {k : Nat} {I : dI} {J : dJ} {f a b : Nat} (hT : Top I f a b 2) (hf : f < 129) (ha : a < 960) (h6 : I 116 f = nn a) (hk : I 105 a = nn 9) (h8 : k < 8) (hw : I 97 k = nn 0) : stp (nn k) I J = some (sI I 92 32 (nn f), sJ J 92 35 0) := by
  rw [stp_2 hT (by omega)]
  obtain ⟨t1, t2, t3, t4⟩ := hT
  simp (disch := omega) only [m_127, b_127_0, b_127_44, b_127_68, b_127_198, b_127_199, m128_0, m_125, b_125_0, t1, t2, h6, hk, hw, not_true_eq_false, not_false_eq_true, ↓reduceIte, nn_l, nn_o, nn_lt, nn_le, nn_eq, nn_cl, nn_add, nn_sub, if_pos, if_neg, lt_, Option.bind_some, ↓reduceIte, not_true_eq_false, not_false_eq_true, Nat.add_sub_cancel, Nat.add_zero, Nat.reduceSub, Nat.reduceAdd, Nat.reduceMul, Nat.reduceEqDiff, Nat.reduceLT, Nat.reduceLeDiff, or_false, false_or, Nat.not_lt_zero]
theorem jn_chg1 {k : Nat} {I : dI} {J : dJ} {f a b : Nat} {v : Int64} (hT : Top I f a b 2) (hf : f < 129) (ha : a < 960) (h6 : I 116 f = nn a) (hk : I 105 a = nn 9) (hv : J 92 35 = v) (h8 : k < 8) (hw : I 97 k = nn 1) : stp (nn k) I J = some (sI I 92 32 (nn f), sJ J 92 35 (tr (v ≠ J 108 a))) := by
  rw [stp_2 hT (by omega)]
  obtain ⟨t1, t2, t3, t4⟩ := hT
  by_cases q : v = J 108 a
  · simp (disch := omega) only [m_127, b_127_0, b_127_44, b_127_68, b_127_198, b_127_199, m128_0, m128_1, m_125, b_125_0, t1, t2, h6, hk, hv, hw, q, lg_eq0, tr, ne_eq, not_true_eq_false, not_false_eq_true, ↓reduceIte, nn_l, nn_o, nn_lt, nn_le, nn_eq, nn_cl, nn_add, nn_sub, if_pos, if_neg, lt_, Option.bind_some, ↓reduceIte, not_true_eq_false, not_false_eq_true, Nat.add_sub_cancel, Nat.add_zero, Nat.reduceSub, Nat.reduceAdd, Nat.reduceMul, Nat.reduceEqDiff, Nat.reduceLT, Nat.reduceLeDiff, or_false, false_or, Nat.not_lt_zero]
  · simp (disch := omega) only [m_127, b_127_0, b_127_44, b_127_68, b_127_198, b_127_199, m128_0, m128_1, m_125, b_125_0, t1, t2, h6, hk, hv, hw, q, lg_eq0, tr, ne_eq, not_true_eq_false, not_false_eq_true, ↓reduceIte, nn_l, nn_o, nn_lt, nn_le, nn_eq, nn_cl, nn_add, nn_sub, if_pos, if_neg, lt_, Option.bind_some, ↓reduceIte, not_true_eq_false, not_false_eq_true, Nat.add_sub_cancel, Nat.add_zero, Nat.reduceSub, Nat.reduceAdd, Nat.reduceMul, Nat.reduceEqDiff, Nat.reduceLT, Nat.reduceLeDiff, or_false, false_or, Nat.not_lt_zero]
theorem jn_acc {kk : Int32} {I : dI} {J : dJ} {f a b t : Nat} {v : Int64} (hT : Top I f a b 2) (hf : f < 129) (ha : a < 960) (h6 : I 116 f = nn a) (hk : I 105 a = nn t) (hv : J 92 35 = v) (ht : t = 32 ∨ t = 6 ∨ t = 7) {r : dI × dJ} (h : m_129 (nn t) v I J = some r) : stp kk I J = some r := by
  rw [stp_2 hT (by omega)]
  obtain ⟨t1, t2, t3, t4⟩ := hT
  rcases ht with c | c | c <;> subst c <;> simp (disch := omega) only [m_127, b_127_0, b_127_44, b_127_68, b_127_138, h, t1, t2, h6, hk, hv, not_true_eq_false, not_false_eq_true, ↓reduceIte, nn_l, nn_o, nn_lt, nn_le, nn_eq, nn_cl, nn_add, nn_sub, if_pos, if_neg, lt_, Option.bind_some, ↓reduceIte, not_true_eq_false, not_false_eq_true, Nat.add_sub_cancel, Nat.add_zero, Nat.reduceSub, Nat.reduceAdd, Nat.reduceMul, Nat.reduceEqDiff, Nat.reduceLT, Nat.reduceLeDiff, or_false, false_or, Nat.not_lt_zero]
theorem m131_eq {k : Nat} (h1 : 12 ≤ k) (h2 : k ≤ 25) (a b : Int64) (I : dI) (J : dJ) : m_131 (nn k) a b I J = some (op2 k a b) := by
  have h : k = 12 ∨ k = 13 ∨ k = 14 ∨ k = 15 ∨ k = 16 ∨ k = 17 ∨ k = 18 ∨ k = 19 ∨ k = 20 ∨ k = 21 ∨ k = 22 ∨ k = 23 ∨ k = 24 ∨ k = 25 := by omega
  rcases h with h | h | h | h | h | h | h | h | h | h | h | h | h | h <;> subst h
  · by_cases q : a = b <;> simp (disch := omega) only [m_131, b_131_0, b_131_110, m128_0, m128_1, lg_eq0, op2, cq, q, decide_true, decide_false, not_true_eq_false, not_false_eq_true, Bool.false_eq_true, nn_l, nn_o, nn_lt, nn_le, nn_eq, nn_cl, nn_add, nn_sub, if_pos, if_neg, lt_, Option.bind_some, ↓reduceIte, not_true_eq_false, not_false_eq_true, Nat.add_sub_cancel, Nat.add_zero, Nat.reduceSub, Nat.reduceAdd, Nat.reduceMul, Nat.reduceEqDiff, Nat.reduceLT, Nat.reduceLeDiff, or_false, false_or, Nat.not_lt_zero, ↓reduceIte]
  · by_cases q : a = b <;> simp (disch := omega) only [m_131, b_131_0, b_131_125, m128_0, m128_1, lg_eq0, op2, cq, q, decide_true, decide_false, not_true_eq_false, not_false_eq_true, Bool.false_eq_true, nn_l, nn_o, nn_lt, nn_le, nn_eq, nn_cl, nn_add, nn_sub, if_pos, if_neg, lt_, Option.bind_some, ↓reduceIte, not_true_eq_false, not_false_eq_true, Nat.add_sub_cancel, Nat.add_zero, Nat.reduceSub, Nat.reduceAdd, Nat.reduceMul, Nat.reduceEqDiff, Nat.reduceLT, Nat.reduceLeDiff, or_false, false_or, Nat.not_lt_zero, ↓reduceIte]
  · by_cases q : a < b <;> simp (disch := omega) only [m_131, b_131_0, b_131_140, m128_0, m128_1, lg_ge0, i64_nl, op2, cq, q, decide_true, decide_false, not_true_eq_false, not_false_eq_true, Bool.false_eq_true, nn_l, nn_o, nn_lt, nn_le, nn_eq, nn_cl, nn_add, nn_sub, if_pos, if_neg, lt_, Option.bind_some, ↓reduceIte, not_true_eq_false, not_false_eq_true, Nat.add_sub_cancel, Nat.add_zero, Nat.reduceSub, Nat.reduceAdd, Nat.reduceMul, Nat.reduceEqDiff, Nat.reduceLT, Nat.reduceLeDiff, or_false, false_or, Nat.not_lt_zero, ↓reduceIte]
  · by_cases q : b < a <;> simp (disch := omega) only [m_131, b_131_0, b_131_155, m128_0, m128_1, lg_gt0, i64_nl, op2, cq, q, decide_true, decide_false, not_true_eq_false, not_false_eq_true, Bool.false_eq_true, nn_l, nn_o, nn_lt, nn_le, nn_eq, nn_cl, nn_add, nn_sub, if_pos, if_neg, lt_, Option.bind_some, ↓reduceIte, not_true_eq_false, not_false_eq_true, Nat.add_sub_cancel, Nat.add_zero, Nat.reduceSub, Nat.reduceAdd, Nat.reduceMul, Nat.reduceEqDiff, Nat.reduceLT, Nat.reduceLeDiff, or_false, false_or, Nat.not_lt_zero, ↓reduceIte]
  · by_cases q : b < a <;> simp (disch := omega) only [m_131, b_131_0, b_131_170, m128_0, m128_1, lg_le0, i64_nl, op2, cq, q, decide_true, decide_false, not_true_eq_false, not_false_eq_true, Bool.false_eq_true, nn_l, nn_o, nn_lt, nn_le, nn_eq, nn_cl, nn_add, nn_sub, if_pos, if_neg, lt_, Option.bind_some, ↓reduceIte, not_true_eq_false, not_false_eq_true, Nat.add_sub_cancel, Nat.add_zero, Nat.reduceSub, Nat.reduceAdd, Nat.reduceMul, Nat.reduceEqDiff, Nat.reduceLT, Nat.reduceLeDiff, or_false, false_or, Nat.not_lt_zero, ↓reduceIte]
  · by_cases q : a < b <;> simp (disch := omega) only [m_131, b_131_0, b_131_185, m128_0, m128_1, lg_lt0, i64_nl, op2, cq, q, decide_true, decide_false, not_true_eq_false, not_false_eq_true, Bool.false_eq_true, nn_l, nn_o, nn_lt, nn_le, nn_eq, nn_cl, nn_add, nn_sub, if_pos, if_neg, lt_, Option.bind_some, ↓reduceIte, not_true_eq_false, not_false_eq_true, Nat.add_sub_cancel, Nat.add_zero, Nat.reduceSub, Nat.reduceAdd, Nat.reduceMul, Nat.reduceEqDiff, Nat.reduceLT, Nat.reduceLeDiff, or_false, false_or, Nat.not_lt_zero, ↓reduceIte]
  all_goals simp (disch := omega) only [m_131, b_131_0, op2, ar, nn_l, nn_o, nn_lt, nn_le, nn_eq, nn_cl, nn_add, nn_sub, if_pos, if_neg, lt_, Option.bind_some, ↓reduceIte, not_true_eq_false, not_false_eq_true, Nat.add_sub_cancel, Nat.add_zero, Nat.reduceSub, Nat.reduceAdd, Nat.reduceMul, Nat.reduceEqDiff, Nat.reduceLT, Nat.reduceLeDiff, or_false, false_or, Nat.not_lt_zero]
theorem jn_bin {kk : Int32} {I : dI} {J : dJ} {f a b s t : Nat} {v v2 : Int64} (hT : Top I f a b 2) (hf : f < 129) (hs : s < 960) (has : a < s) (h6 : I 116 f = nn s) (hk : I 105 s = nn t) (hv : J 118 f = v) (hv2 : J 92 35 = v2) (h1 : 12 ≤ t) (h2 : t ≤ 25) : stp kk I J = some (sI I 92 32 (nn f), sJ J 92 35 (op2 t v v2)) := by
  rw [stp_2 hT (by omega)]
  obtain ⟨t1, t2, t3, t4⟩ := hT
  simp (disch := omega) only [m_127, b_127_0, b_127_44, b_127_68, b_127_237, m131_eq h1 h2, m_125, b_125_0, t1, t2, h6, hk, hv, hv2, nn_l, nn_o, nn_lt, nn_le, nn_eq, nn_cl, nn_add, nn_sub, if_pos, if_neg, lt_, Option.bind_some, ↓reduceIte, not_true_eq_false, not_false_eq_true, Nat.add_sub_cancel, Nat.add_zero, Nat.reduceSub, Nat.reduceAdd, Nat.reduceMul, Nat.reduceEqDiff, Nat.reduceLT, Nat.reduceLeDiff, or_false, false_or, Nat.not_lt_zero]
theorem jn_log {kk : Int32} {I : dI} {J : dJ} {f a b s t : Nat} {v2 : Int64} (hT : Top I f a b 2) (hf : f < 129) (hs : s < 960) (has : a < s) (h6 : I 116 f = nn s) (hk : I 105 s = nn t) (hv2 : J 92 35 = v2) (ht : t = 10 ∨ t = 11) : stp kk I J = some (sI I 92 32 (nn f), sJ J 92 35 (tr (v2 ≠ 0))) := by
  rw [stp_2 hT (by omega)]
  obtain ⟨t1, t2, t3, t4⟩ := hT
  rcases ht with c | c <;> subst c <;> by_cases q : v2 = 0 <;> simp (disch := omega) only [m_127, b_127_0, b_127_44, b_127_68, b_127_237, m_131, b_131_0, b_131_84, b_131_95, m128_0, m128_1, m_125, b_125_0, t1, t2, h6, hk, hv2, q, lg_eq0, tr, ne_eq, not_true_eq_false, not_false_eq_true, ↓reduceIte, nn_l, nn_o, nn_lt, nn_le, nn_eq, nn_cl, nn_add, nn_sub, if_pos, if_neg, lt_, Option.bind_some, ↓reduceIte, not_true_eq_false, not_false_eq_true, Nat.add_sub_cancel, Nat.add_zero, Nat.reduceSub, Nat.reduceAdd, Nat.reduceMul, Nat.reduceEqDiff, Nat.reduceLT, Nat.reduceLeDiff, or_false, false_or, Nat.not_lt_zero]
theorem jn_div {kk : Int32} {I : dI} {J : dJ} {f a b s t : Nat} {v v2 : Int64} (hT : Top I f a b 2) (hf : f < 129) (hs : s < 960) (has : a < s) (h6 : I 116 f = nn s) (hk : I 105 s = nn t) (hv : J 118 f = v) (hv2 : J 92 35 = v2) (ht : t = 26 ∨ t = 27) (q : v2 ≠ 0) : stp kk I J = some (sI I 92 32 (nn f), sJ J 92 35 (dv t v v2)) := by
  rw [stp_2 hT (by omega)]
  obtain ⟨t1, t2, t3, t4⟩ := hT
  rcases ht with c | c <;> subst c <;> simp (disch := omega) only [m_127, b_127_0, b_127_44, b_127_68, b_127_222, b_127_237, m_131, b_131_0, m_125, b_125_0, t1, t2, h6, hk, hv, hv2, q, lg_eq0, dv, not_true_eq_false, not_false_eq_true, ↓reduceIte, nn_l, nn_o, nn_lt, nn_le, nn_eq, nn_cl, nn_add, nn_sub, if_pos, if_neg, lt_, Option.bind_some, ↓reduceIte, not_true_eq_false, not_false_eq_true, Nat.add_sub_cancel, Nat.add_zero, Nat.reduceSub, Nat.reduceAdd, Nat.reduceMul, Nat.reduceEqDiff, Nat.reduceLT, Nat.reduceLeDiff, or_false, false_or, Nat.not_lt_zero]
theorem jn_div0 {kk : Int32} {I : dI} {J : dJ} {f a b s t : Nat} (hT : Top I f a b 2) (hf : f < 129) (hs : s < 960) (has : a < s) (h6 : I 116 f = nn s) (hk : I 105 s = nn t) (hv2 : J 92 35 = 0) (ht : t = 26 ∨ t = 27) : stp kk I J = some (sI (sI I 92 34 (nn 1)) 92 32 (nn 0), sJ J 92 35 0) := by
  rw [stp_2 hT (by omega)]
  obtain ⟨t1, t2, t3, t4⟩ := hT
  rcases ht with c | c <;> subst c <;> simp (disch := omega) only [m_127, b_127_0, b_127_44, b_127_68, b_127_222, m_130, b_130_0, t1, t2, h6, hk, hv2, lg_eq0, not_true_eq_false, not_false_eq_true, ↓reduceIte, nn_l, nn_o, nn_lt, nn_le, nn_eq, nn_cl, nn_add, nn_sub, if_pos, if_neg, lt_, Option.bind_some, ↓reduceIte, not_true_eq_false, not_false_eq_true, Nat.add_sub_cancel, Nat.add_zero, Nat.reduceSub, Nat.reduceAdd, Nat.reduceMul, Nat.reduceEqDiff, Nat.reduceLT, Nat.reduceLeDiff, or_false, false_or, Nat.not_lt_zero]
