/-! Settling: signs become nodes. -/
def SFr (I : dI) (J : dJ) (I' : dI) (J' : dJ) : Prop := (∀ q, q ≠ 7 → q ≠ 8 → q ≠ 9 → q ≠ 10 → q ≠ 12 → q ≠ 13 → q ≠ 14 → q ≠ 15 → I' q = I q) ∧ (∀ j, j ≠ 4 → I' 7 j = I 7 j) ∧ (∀ q, q ≠ 11 → J' q = J q)
theorem sfr_r (I : dI) (J : dJ) : SFr I J I J := ⟨fun _ _ _ _ _ _ _ _ _ => rfl, fun _ _ => rfl, fun _ _ => rfl⟩
theorem sfr_tr {I I1 I2 : dI} {J J1 J2 : dJ} (h : SFr I J I1 J1) (h' : SFr I1 J1 I2 J2) : SFr I J I2 J2 :=
  ⟨fun q a b c d e f g i => (h'.1 q a b c d e f g i).trans (h.1 q a b c d e f g i), fun j a => (h'.2.1 j a).trans (h.2.1 j a), fun q a => (h'.2.2 q a).trans (h.2.2 q a)⟩
def Cov (I : dI) (J : dJ) (tk tp : Nat → Int32) (tn : Nat → Int64) (Bs : List Nat) (t z : Nat) : Prop := ∀ i, i < z → ∃ q a b m, b ≤ t ∧ (∀ x, x ∈ Bs → x < a ∨ b ≤ x) ∧ Opd (I 8) (I 9) (I 10) (J 11) tk tp tn q i a b m
def CS (I : dI) (J : dJ) (tk tp : Nat → Int32) (tn : Nat → Int64) (t C : Nat) (Bs W O : List Nat) (o a m z : Nat) : Prop := Pil 12 I W ∧ Pil 14 I (o :: O) ∧ I 7 4 = nn z ∧ o + 1 = z ∧ z + cnt W ≤ C ∧ O.length + 1 ≤ z ∧ (∀ x, x ∈ O → x < z) ∧ (∃ q, Opd (I 8) (I 9) (I 10) (J 11) tk tp tn q o a t m) ∧ (∃ d, Lay (I 8) (I 9) (I 10) (J 11) tk tp tn z d W O Bs a) ∧ Cov I J tk tp tn Bs t z
def TopOK (W : List Nat) (m : Nat) : Prop := topS W < m ∨ (topS W = 10 ∧ 10 ≤ m)
theorem opd_keep {K L R K' L' R' : Nat → Int32} {V V' : Nat → Int64} {tk tp : Nat → Int32} {tn : Nat → Int64} {z q n a b m : Nat} (hK : ∀ i, i < z → K' i = K i ∧ L' i = L i ∧ R' i = R i ∧ V' i = V i) (hn : n < z) (h : Opd K L R V tk tp tn q n a b m) : Opd K' L' R' V' tk tp tn q n a b m := by
  have hm := opd_move (K' := K') (L' := L') (R' := R') (V' := V') (tk' := tk) (tp' := tp) (tn' := tn) 0 q n a b m (fun i hi => hK i (by omega)) (fun i u v => by
    rw [Nat.zero_add]
    exact ⟨rfl, (Int32.zero_add (tp i)).symm, rfl⟩) h
  rw [Nat.zero_add, Nat.zero_add] at hm
  exact hm
theorem node_add {I3 : dI} {J : dJ} {z : Nat} {O' : List Nat} {k l r : Int32} {v : Int64} (h3 : I3 7 4 = nn z) (hz : z < 40) (hO : Pil 14 I3 O') (hl : O'.length < 40) : ∃ I5, m_74 7 k l r v I3 J = some (nn z, adI I3 z k l r, sJ J 11 z v) ∧ m_75 14 40 (nn z) (adI I3 z k l r) (sJ J 11 z v) = some (I5, sJ J 11 z v) ∧ Pil 14 I5 (z :: O') ∧ (∀ q, q ≠ 7 → q ≠ 8 → q ≠ 9 → q ≠ 10 → q ≠ 14 → q ≠ 15 → I5 q = I3 q) ∧ (∀ j, j ≠ 4 → I5 7 j = I3 7 j) ∧ I5 7 4 = nn (z + 1) ∧ I5 8 z = k ∧ I5 9 z = l ∧ I5 10 z = r ∧ (∀ i, i < z → I5 8 i = I3 8 i ∧ I5 9 i = I3 9 i ∧ I5 10 i = I3 10 i ∧ (sJ J 11 z v) 11 i = J 11 i) := by
  have p6' : Pil 14 (adI I3 z k l r) O' := pil_fr hO (ad_ne (by omega) (by omega) (by omega) (by omega)) (ad_ne (by omega) (by omega) (by omega) (by omega))
  obtain ⟨p7, p8⟩ := pil_push (c := 40) (x := z) (sJ J 11 z v) p6' hl (by omega)
  have row5 : ∀ q, q ≠ 14 → q ≠ 15 → (sI (sI (adI I3 z k l r) (14 + 1) O'.length (nn z)) 14 1 (nn (O'.length + 1))) q = adI I3 z k l r q := by
    intro q r1 r2
    rw [sI_ne r1, sI_ne r2]
  refine ⟨_, m74_eq h3 hz, p7, p8, fun q b7 b8 b9 b10 b14 b15 => ?_, fun j hj => ?_, ?_, ?_, ?_, ?_, fun i hi => ⟨?_, ?_, ?_, sJ_nk (by omega)⟩⟩
  · rw [row5 q b14 b15, ad_ne b7 b8 b9 b10]
  · rw [row5 7 (by omega) (by omega), adI, sI_nk hj, sI_ne (by omega), sI_ne (by omega), sI_ne (by omega)]
  · rw [row5 7 (by omega) (by omega), adI, sI_eq]
  · rw [row5 8 (by omega) (by omega), adI, sI_ne (by omega), sI_ne (by omega), sI_ne (by omega), sI_eq]
  · rw [row5 9 (by omega) (by omega), adI, sI_ne (by omega), sI_ne (by omega), sI_eq]
  · rw [row5 10 (by omega) (by omega), adI, sI_ne (by omega), sI_eq]
  · rw [row5 8 (by omega) (by omega), adI, sI_ne (by omega), sI_ne (by omega), sI_ne (by omega), sI_nk (by omega)]
  · rw [row5 9 (by omega) (by omega), adI, sI_ne (by omega), sI_ne (by omega), sI_nk (by omega), sI_ne (by omega)]
  · rw [row5 10 (by omega) (by omega), adI, sI_ne (by omega), sI_nk (by omega), sI_ne (by omega), sI_ne (by omega)]
/-- a node of one operand, whatever waits -/
theorem settle_un {I : dI} {J : dJ} {w o z C : Nat} {W' O : List Nat} (hw : w < 16 ∨ w = 34 ∨ w = 35) (hC : C ≤ 40) (hl : W'.length < 80) (c1 : Pil 12 I (w :: W')) (c2 : Pil 14 I (o :: O)) (c3 : I 7 4 = nn z) (hz : z < 40) (c6 : O.length < 40) : ∃ I', m_72 I J = some (I', sJ J 11 z 0) ∧ SFr I J I' (sJ J 11 z 0) ∧ Pil 12 I' W' ∧ Pil 14 I' (z :: O) ∧ I' 7 4 = nn (z + 1) ∧ I' 8 z = nn w ∧ I' 9 z = nn o ∧ (∀ i, i < z → I' 8 i = I 8 i ∧ I' 9 i = I 9 i ∧ I' 10 i = I 10 i ∧ (sJ J 11 z 0) 11 i = J 11 i) := by
  obtain ⟨p1, p2⟩ := pil_pop (c := 80) J c1 hl (by omega)
  have hb : m_67 (nn w) (sI I 12 1 (nn W'.length)) J = some (nn 0) := by
    by_cases h : w < 16
    · simp (disch := omega) only [m_67, b_67_0, nn_l, nn_o, nn_lt, nn_le, nn_eq, nn_cl, nn_add, nn_sub, if_pos, if_neg, lt_, Option.bind_some, ↓reduceIte, not_true_eq_false, not_false_eq_true, Nat.add_sub_cancel, Nat.add_zero, Nat.reduceSub, Nat.reduceAdd, Nat.reduceMul, Nat.reduceEqDiff, Nat.reduceLT, Nat.reduceLeDiff, or_false, false_or, Nat.not_lt_zero]
    · simp (disch := omega) only [m_67, b_67_0, nn_l, nn_o, nn_lt, nn_le, nn_eq, nn_cl, nn_add, nn_sub, if_pos, if_neg, lt_, Option.bind_some, ↓reduceIte, not_true_eq_false, not_false_eq_true, Nat.add_sub_cancel, Nat.add_zero, Nat.reduceSub, Nat.reduceAdd, Nat.reduceMul, Nat.reduceEqDiff, Nat.reduceLT, Nat.reduceLeDiff, or_false, false_or, Nat.not_lt_zero]
  have c2' : Pil 14 (sI I 12 1 (nn W'.length)) (o :: O) := pil_fr c2 (sI_ne (by omega)) (sI_ne (by omega))
  obtain ⟨p5, p6⟩ := pil_pop (c := 40) J c2' c6 (by omega)
  have row3 : ∀ r, r ≠ 12 → r ≠ 14 → (sI (sI I 12 1 (nn W'.length)) 14 1 (nn O.length)) r = I r := by
    intro r r1 r2
    rw [sI_ne r2, sI_ne r1]
  obtain ⟨I5, n1, n2, n3, n4, n5, n6, n7, n8, n9, n10⟩ := node_add (k := nn w) (l := nn o) (r := -1) (v := 0) (J := J) (by rw [row3 7 (by omega) (by omega)]; exact c3) hz p6 c6
  refine ⟨I5, ?_, ⟨fun r b7 b8 b9 b10 b12 b13 b14 b15 => ?_, fun j hj => ?_, fun r hr => sJ_ne hr⟩, ?_, n3, n6, n7, n8, fun i hi => ?_⟩
  · unfold m_72 b_72_0
    rw [p1, Option.bind_some]
    dsimp only
    rw [hb, Option.bind_some, if_pos (show nn 0 = 0 from rfl)]
    unfold b_72_26
    rw [p5, Option.bind_some]
    dsimp only
    rw [n1, Option.bind_some]
    dsimp only
    rw [n2, Option.bind_some]
  · rw [n4 r b7 b8 b9 b10 b14 b15, row3 r b12 b14]
  · rw [n5 j hj, row3 7 (by omega) (by omega)]
  · refine pil_fr p2 ?_ ?_
    · rw [n4 12 (by omega) (by omega) (by omega) (by omega) (by omega) (by omega), sI_ne (by omega)]
    · rw [n4 (12 + 1) (by omega) (by omega) (by omega) (by omega) (by omega) (by omega), sI_ne (by omega)]
  · obtain ⟨y1, y2, y3, y4⟩ := n10 i hi
    rw [y1, y2, y3, y4, row3 8 (by omega) (by omega), row3 9 (by omega) (by omega), row3 10 (by omega) (by omega)]
    exact ⟨rfl, rfl, rfl, rfl⟩
theorem settle_one {I : dI} {J : dJ} {tk tp : Nat → Int32} {tn : Nat → Int64} {t C : Nat} {Bs W O : List Nat} {o a m z : Nat} (hC : C ≤ 40) (hB : Bs.length ≤ 8) (h : CS I J tk tp tn t C Bs W O o a m z) (hT : TopOK W m) (h0 : 0 < topS W) : ∃ I' J' W' O1 a', m_72 I J = some (I', J') ∧ SFr I J I' J' ∧ CS I' J' tk tp tn t C Bs W' O1 z a' (topS W) (z + 1) ∧ TopOK W' (topS W) ∧ cnt W' + 1 = cnt W := by
  obtain ⟨c1, c2, c3, c4, c5, c6, c7, ⟨q, c8⟩, ⟨d, c9⟩, c10⟩ := h
  have hlen := lay_len _ _ _ _ _ c9
  unfold TopOK at hT
  cases d with
  | zero =>
    obtain ⟨x1, _⟩ := c9
    subst x1
    exact absurd h0 (Nat.lt_irrefl 0)
  | succ d =>
    rcases c9 with ⟨s, κ, o1, W', O', a1, q1, m1, x1, x2, x3, x4, x5, x6, x7, x8, x9, x10, x11⟩ | ⟨s, w, W', x1, x2, x3, x4, x5⟩ | ⟨s, W', Bs', x1, x2, x3, x4, x5⟩ | ⟨s, W', Bs', x1, x2, x3, x4, x5⟩ | ⟨s, w, κ, W', Bs', x1, x2, x3, x4, x5, x6, x7, x8⟩
    · subst x1
      subst x2
      have hst : topS ((κ + 6) :: W') = rk κ + 1 := str_b x4 x5
      have hcn : cnt ((κ + 6) :: W') = 1 + cnt W' := by
        simp only [cnt]
        rw [if_neg (by omega)]
      rw [hst] at hT ⊢
      rw [hcn] at c5 hlen ⊢
      simp only [List.length_cons] at hlen c6
      have hrk := rk_le κ
      have hmm : rk κ + 1 < m := by omega
      obtain ⟨p1, p2⟩ := pil_pop (c := 80) J c1 (by omega) (by omega)
      have hb : m_67 (nn (κ + 6)) (sI I 12 1 (nn W'.length)) J = some (nn 1) := by
        simp (disch := omega) only [m_67, b_67_0, nn_l, nn_o, nn_lt, nn_le, nn_eq, nn_cl, nn_add, nn_sub, if_pos, if_neg, lt_, Option.bind_some, ↓reduceIte, not_true_eq_false, not_false_eq_true, Nat.add_sub_cancel, Nat.add_zero, Nat.reduceSub, Nat.reduceAdd, Nat.reduceMul, Nat.reduceEqDiff, Nat.reduceLT, Nat.reduceLeDiff, or_false, false_or, Nat.not_lt_zero]
      have c2' : Pil 14 (sI I 12 1 (nn W'.length)) (o :: o1 :: O') := pil_fr c2 (sI_ne (by omega)) (sI_ne (by omega))
      obtain ⟨p3, p4⟩ := pil_pop (c := 40) J c2' (by rw [List.length_cons]; omega) (by omega)
      obtain ⟨p5, p6⟩ := pil_pop (c := 40) J p4 (by omega) (by omega)
      have row3 : ∀ r, r ≠ 12 → r ≠ 14 → (sI (sI (sI I 12 1 (nn W'.length)) 14 1 (nn (o1 :: O').length)) 14 1 (nn O'.length)) r = I r := by
        intro r r1 r2
        rw [sI_ne r2, sI_ne r2, sI_ne r1]
      obtain ⟨I5, n1, n2, n3, n4, n5, n6, n7, n8, n9, n10⟩ := node_add (k := nn (κ + 6)) (l := nn o1) (r := nn o) (v := 0) (J := J) (by rw [row3 7 (by omega) (by omega)]; exact c3) (show z < 40 by omega) p6 (by omega)
      have hK : ∀ i, i < z → I5 8 i = I 8 i ∧ I5 9 i = I 9 i ∧ I5 10 i = I 10 i ∧ (sJ J 11 z 0) 11 i = J 11 i := by
        intro i hi
        obtain ⟨y1, y2, y3, y4⟩ := n10 i hi
        rw [y1, y2, y3, y4, row3 8 (by omega) (by omega), row3 9 (by omega) (by omega), row3 10 (by omega) (by omega)]
        exact ⟨rfl, rfl, rfl, rfl⟩
      have k1 := opd_mono (q' := q + q1) (by omega) (opd_keep hK (by omega) c8)
      have k2 := opd_mono (q' := q + q1) (by omega) (opd_keep hK (by omega) x8)
      have hnew : Opd (I5 8) (I5 9) (I5 10) ((sJ J 11 z 0) 11) tk tp tn (q + q1 + 1) z a1 t (rk κ + 1) := by
        have l1 := opd_lt k1
        have l2 := opd_lt k2
        subst x3
        exact Or.inr (Or.inr (Or.inr (Or.inr (Or.inr ⟨s, κ, o1, o, m1, m, by omega, by omega, x4, x5, x6, n7, by omega, by omega, n8, n9, rfl, x9, hmm, k2, k1⟩))))
      refine ⟨I5, sJ J 11 z 0, W', O', a1, ?_, ⟨fun r b7 b8 b9 b10 b12 b13 b14 b15 => ?_, fun j hj => ?_, fun r hr => sJ_ne hr⟩, ⟨?_, n3, n6, rfl, by omega, by omega, fun x hx => ?_, ⟨_, hnew⟩, ⟨d, ?_⟩, fun i hi => ?_⟩, Or.inl x10, by omega⟩
      · unfold m_72 b_72_0
        rw [p1, Option.bind_some]
        dsimp only
        rw [hb, Option.bind_some, if_neg (show ¬ nn 1 = 0 by decide), p3, Option.bind_some]
        dsimp only
        unfold b_72_26
        rw [p5, Option.bind_some]
        dsimp only
        rw [n1, Option.bind_some]
        dsimp only
        rw [n2, Option.bind_some]
      · rw [n4 r b7 b8 b9 b10 b14 b15, row3 r b12 b14]
      · rw [n5 j hj, row3 7 (by omega) (by omega)]
      · refine pil_fr p2 ?_ ?_
        · rw [n4 12 (by omega) (by omega) (by omega) (by omega) (by omega) (by omega), sI_ne (by omega), sI_ne (by omega)]
        · rw [n4 (12 + 1) (by omega) (by omega) (by omega) (by omega) (by omega) (by omega), sI_ne (by omega), sI_ne (by omega)]
      · have := c7 x (List.mem_cons_of_mem _ hx)
        omega
      · exact lay_move (by omega) hK d W' O' Bs a1 (fun _ _ => ⟨rfl, rfl, rfl⟩) x11
      · by_cases hi2 : i = z
        · subst hi2
          exact ⟨_, _, _, _, Nat.le_refl t, fun x hx => Or.inl (lay_bs _ _ _ _ _ x11 x hx), hnew⟩
        · obtain ⟨q2, a2, b2, m2, y1, y1', y2⟩ := c10 i (by omega)
          exact ⟨q2, a2, b2, m2, y1, y1', opd_keep hK (by omega) y2⟩
    · subst x1
      have hst : topS (w :: W') = 10 := str_p x4
      have hcn : cnt (w :: W') = 1 + cnt W' := by
        simp only [cnt]
        rw [if_neg (by omega)]
      rw [hst] at hT ⊢
      rw [hcn] at c5 hlen ⊢
      simp only [List.length_cons] at hlen
      obtain ⟨I5, n1, n2, n3, n4, n5, n6, n7, hK⟩ := settle_un (J := J) (C := C) (by omega) hC (by omega) c1 c2 c3 (by omega) (by omega)
      have k1 := opd_keep hK (by omega) c8
      have hnew : Opd (I5 8) (I5 9) (I5 10) ((sJ J 11 z 0) 11) tk tp tn (q + 1) z s t 10 := by
        have l1 := opd_lt k1
        subst x2
        exact Or.inr (Or.inr (Or.inl ⟨rfl, o, m, by omega, n7, by rw [n6]; exact x3, by omega, by omega, k1⟩))
      refine ⟨I5, sJ J 11 z 0, W', O, s, n1, n2, ⟨n3, n4, n5, rfl, by omega, by omega, fun x hx => ?_, ⟨_, hnew⟩, ⟨d, ?_⟩, fun i hi => ?_⟩, ?_, by omega⟩
      · have := c7 x hx
        omega
      · exact lay_move (by omega) hK d W' O Bs s (fun _ _ => ⟨rfl, rfl, rfl⟩) x5
      · by_cases hi2 : i = z
        · subst hi2
          exact ⟨_, _, _, _, Nat.le_refl t, fun x hx => Or.inl (lay_bs _ _ _ _ _ x5 x hx), hnew⟩
        · obtain ⟨q2, a2, b2, m2, y1, y1', y2⟩ := c10 i (by omega)
          exact ⟨q2, a2, b2, m2, y1, y1', opd_keep hK (by omega) y2⟩
      · unfold TopOK
        have : topS W' ≤ 10 := by
          cases W' with
          | nil => exact Nat.zero_le 10
          | cons x l => exact str_le x
        omega
    · subst x1
      exact absurd h0 (by rw [show topS (10 :: W') = 0 from rfl]; exact Nat.lt_irrefl 0)
    · subst x1
      exact absurd h0 (by rw [show topS (12 :: 34 :: W') = 0 from rfl]; exact Nat.lt_irrefl 0)
    · subst x1
      have : topS (w :: κ :: W') = 0 := by
        show str w = 0
        exact str_0 (by omega)
      omega
theorem top_71 {I : dI} {J : dJ} {tk tp : Nat → Int32} {tn : Nat → Int64} {K L R : Nat → Int32} {V : Nat → Int64} {z d e : Nat} {W O Bs : List Nat} (c1 : Pil 12 I W) (hl : W.length ≤ 80) (h : Lay K L R V tk tp tn z d W O Bs e) : ∃ r2, m_66 12 80 I J = some r2 ∧ m_71 r2 I J = some (nn (topS W)) := by
  cases d with
  | zero =>
    obtain ⟨x1, _⟩ := h
    subst x1
    exact ⟨_, pil_none J c1, m71_m1 I J⟩
  | succ d =>
    have key : ∀ w W', W = w :: W' → w < 1000 → ∃ r2, m_66 12 80 I J = some r2 ∧ m_71 r2 I J = some (nn (topS W)) := by
      intro w W' e1 e2
      subst e1
      rw [List.length_cons] at hl
      exact ⟨nn w, pil_top J c1 (by omega) (by omega), m71_eq e2 I J⟩
    rcases h with ⟨s, κ, o1, W', O', a1, q1, m1, x1, x2, x3, x4, x5, x6, x7, x8, x9, x10, x11⟩ | ⟨s, w, W', x1, x2, x3, x4, x5⟩ | ⟨s, W', Bs', x1, x2, x3, x4, x5⟩ | ⟨s, W', Bs', x1, x2, x3, x4, x5⟩ | ⟨s, w, κ, W', Bs', x1, x2, x3, x4, x5, x6, x7, x8⟩
    · exact key _ _ x1 (by omega)
    · exact key _ _ x1 (by omega)
    · exact key _ _ x1 (by omega)
    · exact key _ _ x1 (by omega)
    · exact key _ _ x1 (by omega)
theorem settle_ok {tk tp : Nat → Int32} {tn : Nat → Int64} {t C r : Nat} {Bs : List Nat} (hC : C ≤ 40) (hB : Bs.length ≤ 8) (hr : 1 ≤ r) (hr2 : r ≤ 11) : ∀ c fu i I J W O o a m z, cnt W = c → c < fu → i + c < 40 → CS I J tk tp tn t C Bs W O o a m z → TopOK W m → r ≤ m → ∃ I' J' W' O' o' a' m' z', b_70_2 fu (nn r) (nn i) I J = some (I', J') ∧ SFr I J I' J' ∧ CS I' J' tk tp tn t C Bs W' O' o' a' m' z' ∧ topS W' < r ∧ r ≤ m' := by
  intro c
  induction c with
  | zero =>
    intro fu i I J W O o a m z h1 h2 h3 h hT hm
    obtain ⟨f, rfl⟩ : ∃ f, fu = f + 1 := ⟨fu - 1, by omega⟩
    by_cases h0 : 0 < topS W
    · obtain ⟨_, _, _, _, _, _, _, _, _, x⟩ := settle_one hC hB h hT h0
      omega
    · have h' := h
      obtain ⟨c1, c2, c3, c4, c5, c6, c7, c8, ⟨d, c9⟩, c10⟩ := h'
      have hlen := lay_len _ _ _ _ _ c9
      obtain ⟨r2, y1, y2⟩ := top_71 (J := J) c1 (by omega) c9
      refine ⟨I, J, W, O, o, a, m, z, ?_, sfr_r I J, h, by omega, hm⟩
      rw [b_70_2, if_neg (show ¬ (40 : Int32) ≤ nn i by rw [nn_l, nn_le (by omega) (by omega)]; omega), y1, Option.bind_some, y2, Option.bind_some, if_pos (show nn (topS W) < nn r by rw [nn_lt (by omega) (by omega)]; omega)]
  | succ c ih =>
    intro fu i I J W O o a m z h1 h2 h3 h hT hm
    obtain ⟨f, rfl⟩ : ∃ f, fu = f + 1 := ⟨fu - 1, by omega⟩
    have h' := h
    obtain ⟨c1, c2, c3, c4, c5, c6, c7, c8, ⟨d, c9⟩, c10⟩ := h'
    have hlen := lay_len _ _ _ _ _ c9
    obtain ⟨r2, y1, y2⟩ := top_71 (J := J) c1 (by omega) c9
    have htop : topS W ≤ 10 := by
      cases W with
      | nil => exact Nat.zero_le 10
      | cons x l => exact str_le x
    by_cases h0 : topS W < r
    · refine ⟨I, J, W, O, o, a, m, z, ?_, sfr_r I J, h, h0, hm⟩
      rw [b_70_2, if_neg (show ¬ (40 : Int32) ≤ nn i by rw [nn_l, nn_le (by omega) (by omega)]; omega), y1, Option.bind_some, y2, Option.bind_some, if_pos (show nn (topS W) < nn r by rw [nn_lt (by omega) (by omega)]; omega)]
    · obtain ⟨I1, J1, W1, O1, a1, x1, x2, x3, x4, x5⟩ := settle_one hC hB h hT (by omega)
      obtain ⟨I', J', W', O', o', a', m', z', q1, q2, q3, q4, q5⟩ := ih f (i + 1) I1 J1 W1 O1 z a1 (topS W) (z + 1) (by omega) (by omega) (by omega) x3 x4 (by omega)
      refine ⟨I', J', W', O', o', a', m', z', ?_, sfr_tr x2 q2, q3, q4, q5⟩
      rw [b_70_2, if_neg (show ¬ (40 : Int32) ≤ nn i by rw [nn_l, nn_le (by omega) (by omega)]; omega), y1, Option.bind_some, y2, Option.bind_some, if_neg (show ¬ nn (topS W) < nn r by rw [nn_lt (by omega) (by omega)]; omega), x1, Option.bind_some, nn_l, nn_add]
      exact q1
