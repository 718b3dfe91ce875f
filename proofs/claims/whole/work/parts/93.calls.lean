/-! The small calls. -/
theorem inv_small {N : Nat} {Ic Im Ic' Im' : dI} {Jc Jm Jc' Jm' : dJ} (h : Inv2 N Ic Jc Im Jm) (hc : ∀ q, 20 ≤ q → q < 92 → Ic' q = Ic q ∧ Jc' q = Jc q) (hm : ∀ q, 96 ≤ q → q ≤ 108 → Im' q = Im q ∧ Jm' q = Jm q) (ht : ∃ s T, Txc s T Ic' ∧ Txm s T Im') (hM : Mac Ic' Jc' Im' Jm') (hs : Jm' 92 20 = Jc' 0 4) : Inv2 (N + 1) Ic' Jc' Im' Jm' := by
  obtain ⟨_, _, _, h4⟩ := h
  refine ⟨ht, hM, hs, fun k hk => ?_⟩
  obtain ⟨a1, a2, a3⟩ := h4 k hk
  rw [(hm 96 (by omega) (by omega)).1, (hc (20 + 9 * k) (by omega) (by omega)).1]
  refine ⟨a1, a2, fun hl => live_fr (by omega) (fun q u v => hc q (by omega) (by omega)) (fun q u v => by rw [(hm q (by omega) (by omega)).1]) ⟨by rw [(hm 103 (by omega) (by omega)).2], by rw [(hm 104 (by omega) (by omega)).2]⟩ (fun i u v => ?_) (a3 hl)⟩
  rw [(hm 105 (by omega) (by omega)).1, (hm 106 (by omega) (by omega)).1, (hm 107 (by omega) (by omega)).2, (hm 108 (by omega) (by omega)).2]
  exact ⟨rfl, rfl, rfl, rfl⟩
theorem mac_fr {Ic Im Ic' Im' : dI} {Jc Jm Jc' Jm' : dJ} (h : Mac Ic Jc Im Jm) (h4 : Ic' 4 = Ic 4) (h5 : Ic' 5 = Ic 5) (h3 : Jc' 3 = Jc 3) (m4 : Im' 94 = Im 94) (m5 : Im' 95 = Im 95) (m2 : Jm' 92 5 = Jm 92 5) : Mac Ic' Jc' Im' Jm' := by
  unfold Mac
  rw [h4, h5, h3, m4, m5, m2]
  exact h
/-- the reference's code alone -/
theorem inv_code {N : Nat} {Ic Im : dI} {Jc Jm : dJ} {x : Int32} (h : Inv2 N Ic Jc Im Jm) : Inv2 (N + 1) Ic Jc (sI Im 92 0 x) Jm := by
  have h' := h
  obtain ⟨⟨s, T, t1, t2⟩, hM, hs, _⟩ := h'
  exact inv_small h (fun q _ _ => ⟨rfl, rfl⟩) (fun q a b => ⟨sI_ne (by omega), rfl⟩) ⟨s, T, t1, txm_s (by omega) t2⟩ (mac_fr hM rfl rfl rfl (sI_ne (by omega)) (sI_ne (by omega)) rfl) hs
theorem mf_code {Im : dI} {Jm : dJ} {x : Int32} : MF Im Jm (sI Im 92 0 x) Jm := fun q hq => ⟨sI_ne (by omega), rfl⟩
theorem nar_k {c : Nat} (h : c ≤ 126) : vp_nar .char (nn c) = nn c := by
  have h2 : ∀ c : Fin 127, vp_nar .char (nn c.val) = nn c.val := by decide +kernel
  exact h2 ⟨c, by omega⟩
theorem type_2 {N : Nat} {Ic Im : dI} {Jc Jm : dJ} (x : Int32) (h : Inv2 N Ic Jc Im Jm) : ∃ r Ic' Jc' Im' Jm', m_9 x Ic Jc = some (nn r, Ic', Jc') ∧ m_96 x Im Jm = some (nn r, Im', Jm') ∧ r ≤ 1 ∧ CF Ic Jc Ic' Jc' ∧ MF Im Jm Im' Jm' ∧ Im' 92 0 = nn 0 ∧ Inv2 (N + 1) Ic' Jc' Im' Jm' := by
  have h' := h
  obtain ⟨⟨s, T, t1, t2⟩, hM, hs, h4⟩ := h'
  obtain ⟨c1, c2, c3⟩ := t1
  obtain ⟨d1, d2, d3⟩ := t2
  have e0 : (sI Im 92 0 (nn 0)) 92 1 = nn s := by rw [sI_nk (by omega)]; exact d1
  have no : m_10 x Ic Jc = some (nn 0, Ic, Jc) → m_96 x Im Jm = some (nn 0, sI Im 92 0 (nn 0), Jm) → ∃ r Ic' Jc' Im' Jm', m_9 x Ic Jc = some (nn r, Ic', Jc') ∧ m_96 x Im Jm = some (nn r, Im', Jm') ∧ r ≤ 1 ∧ CF Ic Jc Ic' Jc' ∧ MF Im Jm Im' Jm' ∧ Im' 92 0 = nn 0 ∧ Inv2 (N + 1) Ic' Jc' Im' Jm' := by
    intro e1 e2
    refine ⟨0, Ic, Jc, _, _, ?_, e2, by omega, fun _ _ => ⟨rfl, rfl⟩, mf_code, sI_eq, inv_code h⟩
    unfold m_9 b_9_0
    rw [e1, Option.bind_some, if_pos (Or.inl (show nn 0 = 0 from rfl))]
  by_cases x1 : x < 32
  · refine no ?_ ?_
    · unfold m_10 b_10_0
      rw [if_pos x1]
      rfl
    · unfold m_96 b_96_0
      simp only [lt_]
      rw [if_pos x1]
      rfl
  · by_cases x2 : 126 < x
    · refine no ?_ ?_
      · unfold m_10 b_10_0
        rw [if_neg x1, if_pos x2]
        rfl
      · unfold m_96 b_96_0
        simp only [lt_]
        rw [if_neg x1, if_pos x2]
        rfl
    · obtain ⟨c, k1, k2, k3⟩ : ∃ c, 32 ≤ c ∧ c ≤ 126 ∧ x = nn c := by
        rw [Int32.lt_iff_toInt_lt] at x1 x2
        have e32 : (32 : Int32).toInt = 32 := rfl
        have e126 : (126 : Int32).toInt = 126 := rfl
        refine ⟨x.toInt.toNat, by omega, by omega, ?_⟩
        rw [← Int32.toInt_inj, nn_i (by omega)]
        omega
      subst k3
      by_cases hs2 : s = 120
      · refine no ?_ ?_
        · simp (disch := omega) only [m_10, b_10_0, c1, nn_l, nn_o, nn_lt, nn_le, nn_eq, nn_cl, nn_add, nn_sub, if_pos, if_neg, lt_, Option.bind_some, ↓reduceIte, not_true_eq_false, not_false_eq_true, Nat.add_sub_cancel, Nat.add_zero, Nat.reduceSub, Nat.reduceAdd, Nat.reduceMul, Nat.reduceEqDiff, Nat.reduceLT, Nat.reduceLeDiff, or_false, false_or, Nat.not_lt_zero]
        · simp (disch := omega) only [m_96, b_96_0, e0, nn_l, nn_o, nn_lt, nn_le, nn_eq, nn_cl, nn_add, nn_sub, if_pos, if_neg, lt_, Option.bind_some, ↓reduceIte, not_true_eq_false, not_false_eq_true, Nat.add_sub_cancel, Nat.add_zero, Nat.reduceSub, Nat.reduceAdd, Nat.reduceMul, Nat.reduceEqDiff, Nat.reduceLT, Nat.reduceLeDiff, or_false, false_or, Nat.not_lt_zero]
      · refine ⟨1, sI (sI Ic 2 s (nn c)) 1 1 (nn (s + 1)), Jc, sI (sI (sI Im 92 0 (nn 0)) 93 s (nn c)) 92 1 (nn (s + 1)), Jm, ?_, ?_, by omega, fun q hq => ⟨by rw [sI_ne (by omega), sI_ne (by omega)], rfl⟩, fun q hq => ⟨by rw [sI_ne (by omega), sI_ne (by omega), sI_ne (by omega)], rfl⟩, by rw [sI_nk (by omega), sI_ne (by omega), sI_eq], inv_small h (fun q a b => ⟨by rw [sI_ne (by omega), sI_ne (by omega)], rfl⟩) (fun q a b => ⟨by rw [sI_ne (by omega), sI_ne (by omega), sI_ne (by omega)], rfl⟩) ⟨s + 1, fun i => if i = s then c else T i, ⟨sI_eq, by omega, fun i hi => ?_⟩, ⟨sI_eq, by omega, fun i hi => ?_⟩⟩ (mac_fr hM (by rw [sI_ne (by omega), sI_ne (by omega)]) (by rw [sI_ne (by omega), sI_ne (by omega)]) rfl (by rw [sI_ne (by omega), sI_ne (by omega), sI_ne (by omega)]) (by rw [sI_ne (by omega), sI_ne (by omega), sI_ne (by omega)]) rfl) hs⟩
        · have e1 : m_10 (nn c) Ic Jc = some (nn 1, sI (sI Ic 2 s (nn c)) 1 1 (nn (s + 1)), Jc) := by
            simp (disch := omega) only [m_10, b_10_0, c1, nar_k k2, sI_ne, nn_l, nn_o, nn_lt, nn_le, nn_eq, nn_cl, nn_add, nn_sub, if_pos, if_neg, lt_, Option.bind_some, ↓reduceIte, not_true_eq_false, not_false_eq_true, Nat.add_sub_cancel, Nat.add_zero, Nat.reduceSub, Nat.reduceAdd, Nat.reduceMul, Nat.reduceEqDiff, Nat.reduceLT, Nat.reduceLeDiff, or_false, false_or, Nat.not_lt_zero]
          unfold m_9 b_9_0
          rw [e1, Option.bind_some, if_pos (Or.inr (show nn 1 = 1 from rfl))]
        · simp (disch := omega) only [m_96, b_96_0, e0, nar_k k2, sI_ne, nn_l, nn_o, nn_lt, nn_le, nn_eq, nn_cl, nn_add, nn_sub, if_pos, if_neg, lt_, Option.bind_some, ↓reduceIte, not_true_eq_false, not_false_eq_true, Nat.add_sub_cancel, Nat.add_zero, Nat.reduceSub, Nat.reduceAdd, Nat.reduceMul, Nat.reduceEqDiff, Nat.reduceLT, Nat.reduceLeDiff, or_false, false_or, Nat.not_lt_zero]
        · rw [sI_ne (by omega)]
          dsimp only
          by_cases e : i = s
          · subst e
            rw [sI_eq, if_pos rfl]
            exact ⟨rfl, k1, k2⟩
          · rw [sI_nk e, if_neg e]
            exact c3 i (by omega)
        · rw [sI_ne (by omega)]
          dsimp only
          by_cases e : i = s
          · subst e
            rw [sI_eq, if_pos rfl]
            exact ⟨rfl, k1, k2⟩
          · rw [sI_nk e, if_neg e, sI_ne (by omega)]
            exact d3 i (by omega)
theorem go_2 {N : Nat} {Ic Im : dI} {Jc Jm : dJ} (x : Int64) (h : Inv2 N Ic Jc Im Jm) : m_11 x Ic Jc = some (Ic, sJ Jc 3 2 x) ∧ m_115 x Im Jm = some (sI Im 92 0 (nn 0), sJ Jm 92 5 x) ∧ CF Ic Jc Ic (sJ Jc 3 2 x) ∧ MF Im Jm (sI Im 92 0 (nn 0)) (sJ Jm 92 5 x) ∧ Inv2 (N + 1) Ic (sJ Jc 3 2 x) (sI Im 92 0 (nn 0)) (sJ Jm 92 5 x) := by
  have h' := h
  obtain ⟨⟨s, T, t1, t2⟩, hM, hs, h4⟩ := h'
  refine ⟨rfl, rfl, fun q hq => ⟨rfl, sJ_ne (by omega)⟩, fun q hq => ⟨sI_ne (by omega), sJ_ne (by omega)⟩, inv_small h (fun q a b => ⟨rfl, sJ_ne (by omega)⟩) (fun q a b => ⟨sI_ne (by omega), sJ_ne (by omega)⟩) ⟨s, T, t1, txm_s (by omega) t2⟩ ⟨?_, ?_, ?_⟩ ?_⟩
  · intro r hr
    rw [sI_ne (by omega)]; exact hM.1 r hr
  · intro w hw
    rw [sI_ne (by omega)]; exact hM.2.1 w hw
  · rw [sJ_eq, sJ_eq]
  · rw [sJ_nk (by omega), sJ_ne (by omega)]; exact hs
theorem set_2 {N r : Nat} {Ic Im : dI} {Jc Jm : dJ} (v : Int32) (hr : r < 34) (h : Inv2 N Ic Jc Im Jm) : ∃ Ic' Im', m_86 (nn r) v Ic Jc = some (Ic', Jc) ∧ m_114 (nn r) v Im Jm = some (Im', Jm) ∧ CF Ic Jc Ic' Jc ∧ MF Im Jm Im' Jm ∧ Im' 92 0 = nn 0 ∧ Inv2 (N + 1) Ic' Jc Im' Jm := by
  have h' := h
  obtain ⟨⟨s, T, t1, t2⟩, hM, hs, h4⟩ := h'
  have hmod : ∀ z, b_114_18 (nn r) v (nn 0) Im Jm = z → m_114 (nn r) v Im Jm = z := by
    intro z hz
    unfold m_114 b_114_0
    rw [show (33 : Int64) = Int64.ofNat 33 from rfl, m98_in (by omega) (by omega), Option.bind_some, if_pos (show ¬ nn 1 = 0 by decide)]
    exact hz
  by_cases r0 : r = 0
  · subst r0
    refine ⟨Ic, sI Im 92 0 (nn 0), ?_, hmod _ ?_, fun _ _ => ⟨rfl, rfl⟩, mf_code, sI_eq, inv_code h⟩
    · simp (disch := omega) only [m_86, b_86_0, m_87, b_87_0, nn_l, nn_o, nn_lt, nn_le, nn_eq, nn_cl, nn_add, nn_sub, if_pos, if_neg, lt_, Option.bind_some, ↓reduceIte, not_true_eq_false, not_false_eq_true, Nat.add_sub_cancel, Nat.add_zero, Nat.reduceSub, Nat.reduceAdd, Nat.reduceMul, Nat.reduceEqDiff, Nat.reduceLT, Nat.reduceLeDiff, or_false, false_or, Nat.not_lt_zero]
    · unfold b_114_18
      rw [show (0 : Int32) = nn 0 from rfl, m99_0, Option.bind_some]
      dsimp only
      rw [if_neg (fun x => x (show nn 0 = nn 0 from rfl)), if_neg (fun x => x (show nn 0 = nn 0 from rfl))]
  · refine ⟨sI Ic 4 r v, sI (sI Im 92 0 (nn 0)) 94 r v, ?_, hmod _ ?_, fun q hq => ⟨sI_ne (by omega), rfl⟩, fun q hq => ⟨by rw [sI_ne (by omega), sI_ne (by omega)], rfl⟩, by rw [sI_ne (by omega), sI_eq], inv_small h (fun q a b => ⟨sI_ne (by omega), rfl⟩) (fun q a b => ⟨by rw [sI_ne (by omega), sI_ne (by omega)], rfl⟩) ⟨s, T, txc_row (sI_ne (by omega)) (sI_ne (by omega)) t1, txm_row (by rw [sI_ne (by omega), sI_nk (by omega)]) (by rw [sI_ne (by omega), sI_ne (by omega)]) t2⟩ ⟨fun r' hr' => ?_, fun w hw => ?_, hM.2.2⟩ hs⟩
    · simp (disch := omega) only [m_86, b_86_0, m_87, b_87_0, nn_l, nn_o, nn_lt, nn_le, nn_eq, nn_cl, nn_add, nn_sub, if_pos, if_neg, lt_, Option.bind_some, ↓reduceIte, not_true_eq_false, not_false_eq_true, Nat.add_sub_cancel, Nat.add_zero, Nat.reduceSub, Nat.reduceAdd, Nat.reduceMul, Nat.reduceEqDiff, Nat.reduceLT, Nat.reduceLeDiff, or_false, false_or, Nat.not_lt_zero]
    · unfold b_114_18
      rw [show (0 : Int32) = nn 0 from rfl, m99_0, Option.bind_some]
      simp (disch := omega) only [nn_l, nn_o, nn_lt, nn_le, nn_eq, nn_cl, nn_add, nn_sub, if_pos, if_neg, lt_, Option.bind_some, ↓reduceIte, not_true_eq_false, not_false_eq_true, Nat.add_sub_cancel, Nat.add_zero, Nat.reduceSub, Nat.reduceAdd, Nat.reduceMul, Nat.reduceEqDiff, Nat.reduceLT, Nat.reduceLeDiff, or_false, false_or, Nat.not_lt_zero]
    · by_cases e : r' = r
      · subst e
        rw [sI_eq, sI_eq]
      · rw [sI_nk e, sI_nk e, sI_ne (by omega)]; exact hM.1 r' hr'
    · rw [sI_ne (by omega), sI_ne (by omega), sI_ne (by omega)]; exact hM.2.1 w hw
theorem and255 (v : Int32) : ∃ b, b < 256 ∧ v &&& nn 255 = nn b := by
  have h2 : (v &&& nn 255).toInt = v.toInt % 2 ^ 8 := Jvm.Kit.i32_mask v 255 (by decide) (by decide)
  refine ⟨(v.toInt % 2 ^ 8).toNat, by omega, ?_⟩
  rw [← Int32.toInt_inj, nn_i (by omega), h2]
  omega
theorem poke_2 {N r : Nat} {Ic Im : dI} {Jc Jm : dJ} (v : Int32) (hr : r < 256) (h : Inv2 N Ic Jc Im Jm) : ∃ Ic' Im', m_88 (nn r) v Ic Jc = some (Ic', Jc) ∧ m_116 (nn r) v Im Jm = some (Im', Jm) ∧ CF Ic Jc Ic' Jc ∧ MF Im Jm Im' Jm ∧ Im' 92 0 = nn 0 ∧ Inv2 (N + 1) Ic' Jc Im' Jm := by
  have h' := h
  obtain ⟨⟨s, T, t1, t2⟩, hM, hs, h4⟩ := h'
  obtain ⟨b, b1, b2⟩ := and255 v
  refine ⟨sI Ic 5 r (nn b), sI (sI Im 92 0 (nn 0)) 95 r (nn b), ?_, ?_, fun q hq => ⟨sI_ne (by omega), rfl⟩, fun q hq => ⟨by rw [sI_ne (by omega), sI_ne (by omega)], rfl⟩, by rw [sI_ne (by omega), sI_eq], inv_small h (fun q a b => ⟨sI_ne (by omega), rfl⟩) (fun q a b => ⟨by rw [sI_ne (by omega), sI_ne (by omega)], rfl⟩) ⟨s, T, txc_row (sI_ne (by omega)) (sI_ne (by omega)) t1, txm_row (by rw [sI_ne (by omega), sI_nk (by omega)]) (by rw [sI_ne (by omega), sI_ne (by omega)]) t2⟩ ⟨fun r' hr' => ?_, fun w hw => ?_, hM.2.2⟩ hs⟩
  · simp (disch := omega) only [m_88, b_88_0, m_89, b_89_0, b2, nn_l, nn_o, nn_lt, nn_le, nn_eq, nn_cl, nn_add, nn_sub, if_pos, if_neg, lt_, Option.bind_some, ↓reduceIte, not_true_eq_false, not_false_eq_true, Nat.add_sub_cancel, Nat.add_zero, Nat.reduceSub, Nat.reduceAdd, Nat.reduceMul, Nat.reduceEqDiff, Nat.reduceLT, Nat.reduceLeDiff, or_false, false_or, Nat.not_lt_zero]
  · unfold m_116 b_116_0
    rw [show (255 : Int64) = Int64.ofNat 255 from rfl, m98_in (by omega) (by omega), Option.bind_some, if_pos (show ¬ nn 1 = 0 by decide)]
    unfold b_116_18
    rw [show (0 : Int32) = nn 0 from rfl, m99_0, Option.bind_some]
    simp (disch := omega) only [b2, nn_l, nn_o, nn_lt, nn_le, nn_eq, nn_cl, nn_add, nn_sub, if_pos, if_neg, lt_, Option.bind_some, ↓reduceIte, not_true_eq_false, not_false_eq_true, Nat.add_sub_cancel, Nat.add_zero, Nat.reduceSub, Nat.reduceAdd, Nat.reduceMul, Nat.reduceEqDiff, Nat.reduceLT, Nat.reduceLeDiff, or_false, false_or, Nat.not_lt_zero]
  · rw [sI_ne (by omega), sI_ne (by omega), sI_ne (by omega)]; exact hM.1 r' hr'
  · by_cases e : w = r
    · subst e
      rw [sI_eq, sI_eq]
      exact ⟨rfl, b, b1, rfl⟩
    · rw [sI_nk e, sI_nk e, sI_ne (by omega)]; exact hM.2.1 w hw
theorem m98_out {x : Int32} {hi : Nat} (hh : hi < 2147483648) (hx : x < 0 ∨ nn hi < x) (I : dI) (J : dJ) : m_98 (Int32.toInt64 x) 0 (Int64.ofNat hi) I J = some (nn 0) := by
  unfold m_98 b_98_0
  rcases hx with hx | hx
  · rw [if_pos]
    · rfl
    · rw [lg_cmp_lt, Int64.lt_iff_toInt_lt, Int32.toInt_toInt64]
      rw [Int32.lt_iff_toInt_lt] at hx
      exact hx
  · by_cases c : lg_cmp (Int32.toInt64 x) 0 < 0
    · rw [if_pos c]
      rfl
    · rw [if_neg c, if_pos]
      · rfl
      · rw [lg_cmp_gt, Int64.lt_iff_toInt_lt, Int32.toInt_toInt64, Int64.toInt_ofNat_of_lt (by omega)]
        rw [Int32.lt_iff_toInt_lt, nn_i hh] at hx
        exact hx
/-! the reference where the class throws -/
theorem comp_out {x : Int32} {I : dI} {J : dJ} (hx : x < 0 ∨ nn 7 < x) : m_97 x I J = some (nn 0, sI I 92 0 (nn 1), J) := by
  unfold m_97 b_97_0
  rw [show (7 : Int64) = Int64.ofNat 7 from rfl, m98_out (by omega) hx, Option.bind_some, if_neg (fun y => y (show nn 0 = 0 from rfl))]
  unfold b_97_18
  rw [show (1 : Int32) = nn 1 from rfl, m99_1, Option.bind_some]
  dsimp only
  rw [if_neg (show ¬ nn 1 = 0 by decide)]
  rfl
theorem drop_out {x : Int32} {I : dI} {J : dJ} (hx : x < 0 ∨ nn 7 < x) : m_113 x I J = some (nn 0, sI I 92 0 (nn 1), J) := by
  unfold m_113 b_113_0
  rw [show (7 : Int64) = Int64.ofNat 7 from rfl, m98_out (by omega) hx, Option.bind_some, if_neg (fun y => y (show nn 0 = 0 from rfl))]
  unfold b_113_18
  rw [show (1 : Int32) = nn 1 from rfl, m99_1, Option.bind_some]
  dsimp only
  rw [if_neg (show ¬ nn 1 = 0 by decide)]
  rfl
theorem set_out {x v : Int32} {I : dI} {J : dJ} (hx : x < 0 ∨ nn 33 < x) : m_114 x v I J = some (sI I 92 0 (nn 1), J) := by
  unfold m_114 b_114_0
  rw [show (33 : Int64) = Int64.ofNat 33 from rfl, m98_out (by omega) hx, Option.bind_some, if_neg (fun y => y (show nn 0 = 0 from rfl))]
  unfold b_114_18
  rw [show (1 : Int32) = nn 1 from rfl, m99_1, Option.bind_some]
  dsimp only
  rw [if_pos (show ¬ nn 1 = 0 by decide)]
theorem poke_out {x v : Int32} {I : dI} {J : dJ} (hx : x < 0 ∨ nn 255 < x) : m_116 x v I J = some (sI I 92 0 (nn 1), J) := by
  unfold m_116 b_116_0
  rw [show (255 : Int64) = Int64.ofNat 255 from rfl, m98_out (by omega) hx, Option.bind_some, if_neg (fun y => y (show nn 0 = 0 from rfl))]
  unfold b_116_18
  rw [show (1 : Int32) = nn 1 from rfl, m99_1, Option.bind_some]
  dsimp only
  rw [if_pos (show ¬ nn 1 = 0 by decide)]
