/-! Signs between operands, closing brackets, the end. -/
theorem cst_cs {I I4 : dI} {J : dJ} {tk tp : Nat → Int32} {tn : Nat → Int64} {t C z : Nat} {Bs W O : List Nat} (h : CSt I J tk tp tn t C Bs W O z 1) (row : ∀ q, q ≠ 7 → I4 q = I q) (r74 : I4 7 4 = I 7 4) : ∃ o O' a, O = o :: O' ∧ 1 ≤ z ∧ CS I4 J tk tp tn t C Bs W O' o a 11 z := by
  obtain ⟨c1, c2, c3, c4, c5, c6, c7, c8⟩ := h
  rcases c8 with ⟨s1, _⟩ | ⟨_, o, O', a, s2, s3, s4, s5⟩ | ⟨s1, _⟩ | ⟨s1, _⟩
  · omega
  · subst s2
    rw [List.length_cons] at c5
    refine ⟨o, O', a, rfl, by omega, pil_fr c1 (row 12 (by omega)) (row (12 + 1) (by omega)), pil_fr c2 (row 14 (by omega)) (row (14 + 1) (by omega)), by rw [r74]; exact c3, s3, c4, c5, fun x hx => c6 x (List.mem_cons_of_mem _ hx), opI_row (row 8 (by omega)) (row 9 (by omega)) (row 10 (by omega)) rfl s4, lyI_row (row 8 (by omega)) (row 9 (by omega)) (row 10 (by omega)) rfl s5, cov_row (row 8 (by omega)) (row 9 (by omega)) (row 10 (by omega)) rfl c7⟩
  · omega
  · omega
theorem top_le (W : List Nat) : topS W ≤ 10 := by
  cases W with
  | nil => exact Nat.zero_le 10
  | cons x l => exact str_le x
theorem settle_m {I : dI} {J : dJ} {tk tp : Nat → Int32} {tn : Nat → Int64} {t C r : Nat} {Bs W O : List Nat} {o a z : Nat} (hC : C ≤ 40) (hz : 1 ≤ z) (hB : Bs.length ≤ 8) (hr : 1 ≤ r) (hr2 : r ≤ 11) (h : CS I J tk tp tn t C Bs W O o a 11 z) : ∃ I' J' W' O' o' a' m' z', m_70 (nn r) I J = some (I', J') ∧ SFr I J I' J' ∧ CS I' J' tk tp tn t C Bs W' O' o' a' m' z' ∧ topS W' < r ∧ r ≤ m' := by
  obtain ⟨F, hF, hF2⟩ : ∃ F, FU = F ∧ 2000 < F := ⟨5000, rfl, by decide⟩
  have h5 := h.2.2.2.2.1
  have := top_le W
  obtain ⟨I', J', W', O', o', a', m', z', q1, q2, q3, q4, q5⟩ := settle_ok hC hB hr hr2 (cnt W) F 0 I J W O o a 11 z rfl (by omega) (by omega) h (Or.inl (by omega)) hr2
  refine ⟨I', J', W', O', o', a', m', z', ?_, q2, q3, q4, q5⟩
  unfold m_70 b_70_0
  rw [hF]
  exact q1
theorem tk_bin {I : dI} {J : dJ} {tk tp : Nat → Int32} {tn : Nat → Int64} {t n κ z : Nat} {Bs B W O : List Nat} (hn : n < 40) (hB : Bs.length ≤ 8) (k1 : 10 ≤ κ) (k2 : κ ≤ 27) (h : CSt I J tk tp tn t n Bs W O z 1) (hN : Nx I n 1 B) (hp : tk t = nn κ) : ∃ I' J' W' O' z', m_76 (nn (κ + 6)) I J = some (I', J') ∧ BFr I J I' J' ∧ CSt I' J' tk tp tn (t + 1) (n + 1) Bs W' O' z' 0 ∧ Nx I' (n + 1) 0 B := by
  obtain ⟨n1, n2, n3⟩ := hN
  obtain ⟨o, O1, a, e1, hz, hcs⟩ := cst_cs (I4 := sI I 7 5 (nn (n + 1))) h (fun q hq => sI_ne hq) (sI_nk (by omega))
  have hrk := rk_le κ
  obtain ⟨I1, J1, W', O', o', a', m', z', q1, q2, q3, q4, q5⟩ := settle_m (r := rk κ + 1) (by omega) hz hB (by omega) (by omega) hcs
  obtain ⟨c1, c2, c3, c4, c5, c6, c7, ⟨q, c8⟩, ⟨d, c9⟩, c10⟩ := q3
  have hlen := lay_len _ _ _ _ _ c9
  obtain ⟨p1, p2⟩ := pil_push (c := 80) (x := κ + 6) J1 c1 (by omega) (by omega)
  generalize hI2 : sI (sI I1 (12 + 1) W'.length (nn (κ + 6))) 12 1 (nn (W'.length + 1)) = I2 at p1 p2
  have row2 : ∀ q, q ≠ 12 → q ≠ 13 → I2 q = I1 q := fun q b12 b13 => by rw [← hI2, sI_ne b12, sI_ne b13]
  have row : ∀ q, q ≠ 6 → q ≠ 12 → q ≠ 13 → (sI I2 6 6 (nn 0)) q = I1 q := fun q b6 b12 b13 => by rw [sI_ne b6, row2 q b12 b13]
  have h5 : I1 7 5 = nn (n + 1) := by rw [q2.2.1 5 (by omega), sI_eq]
  have s8 := row 8 (by omega) (by omega) (by omega)
  have s9 := row 9 (by omega) (by omega) (by omega)
  have s10 := row 10 (by omega) (by omega) (by omega)
  refine ⟨sI I2 6 6 (nn 0), J1, (κ + 6) :: W', o' :: O', z', ?_, ⟨fun q hq => ?_, fun q hq => q2.2.2 q hq⟩, ⟨pil_fr p2 (sI_ne (by omega)) (sI_ne (by omega)), pil_fr c2 (row 14 (by omega) (by omega) (by omega)) (row (14 + 1) (by omega) (by omega) (by omega)), by rw [row 7 (by omega) (by omega) (by omega)]; exact c3, ?_, by rw [List.length_cons]; exact c6, fun x hx => ?_, ?_, Or.inl ⟨rfl, d + 1, ?_⟩⟩, by rw [row 7 (by omega) (by omega) (by omega)]; exact h5, sI_eq, ?_⟩
  · rw [m76_part (by omega) (by omega) n1, b76_78 (by omega) (by omega) (by rw [sI_ne (by omega)]; exact n2)]
    unfold m_78 b_78_0
    rw [if_neg (show ¬ nn (κ + 6) = 11 from ne_nn (k := 11) (by omega) (by omega) (by omega)), if_pos (show ¬ nn (κ + 6) = 13 from ne_nn (k := 13) (by omega) (by omega) (by omega)), m71_eq (by omega), Option.bind_some, str_b k1 k2, q1, Option.bind_some]
    dsimp only
    rw [p1, Option.bind_some]
    rfl
  · rw [row q (by omega) (by omega) (by omega), q2.1 q (by omega) (by omega) (by omega) (by omega) (by omega) (by omega) (by omega) (by omega), sI_ne (by omega)]
  · rw [cnt_1 (by omega)]; omega
  · rcases List.mem_cons.mp hx with e | e
    · omega
    · exact c7 x e
  · exact cov_tok (by omega) (fun _ _ => ⟨rfl, rfl, rfl⟩) (cov_row s8 s9 s10 rfl c10)
  · rw [s8, s9, s10]
    exact Or.inl ⟨t, κ, o', W', O', a', q, m', rfl, rfl, rfl, k1, k2, hp, by omega, c8, q5, q4, c9⟩
  · refine pil_fr n3 ?_ ?_
    · rw [row 16 (by omega) (by omega) (by omega), q2.1 16 (by omega) (by omega) (by omega) (by omega) (by omega) (by omega) (by omega) (by omega), sI_ne (by omega)]
    · rw [row (16 + 1) (by omega) (by omega) (by omega), q2.1 (16 + 1) (by omega) (by omega) (by omega) (by omega) (by omega) (by omega) (by omega) (by omega), sI_ne (by omega)]
theorem lay_tb {K L R : Nat → Int32} {V : Nat → Int64} {tk tp : Nat → Int32} {tn : Nat → Int64} {z d e : Nat} {W O Bs : List Nat} {I : dI} {J : dJ} (h : Lay K L R V tk tp tn z d W O Bs e) (c1 : Pil 12 I W) (hl : W.length ≤ 80) : ∃ r, m_66 12 80 I J = some r ∧ m_79 r I J = some (nn 0) := by
  have key : ∀ w W', W = w :: W' → w < 1000 → (w ≠ 8 ∧ w ≠ 9 ∧ w ≠ 34 ∧ w ≠ 6 ∧ w ≠ 7) → ∃ r, m_66 12 80 I J = some r ∧ m_79 r I J = some (nn 0) := by
    intro w W' e1 e2 e3
    subst e1
    rw [List.length_cons] at hl
    refine ⟨nn w, pil_top J c1 (by omega) (by omega), ?_⟩
    simp (disch := omega) only [m_79, b_79_0, nn_l, nn_o, nn_lt, nn_le, nn_eq, nn_cl, nn_add, nn_sub, if_pos, if_neg, lt_, Option.bind_some, ↓reduceIte, not_true_eq_false, not_false_eq_true, Nat.add_sub_cancel, Nat.add_zero, Nat.reduceSub, Nat.reduceAdd, Nat.reduceMul, Nat.reduceEqDiff, Nat.reduceLT, Nat.reduceLeDiff, or_false, false_or, Nat.not_lt_zero]
  cases d with
  | zero =>
    obtain ⟨x1, _⟩ := h
    subst x1
    exact ⟨_, pil_none J c1, rfl⟩
  | succ d =>
    rcases h with ⟨s, κ, o1, W', O', a1, q1, m1, x1, x2, x3, x4, x5, x6, x7, x8, x9, x10, x11⟩ | ⟨s, w, W', x1, x2, x3, x4, x5⟩ | ⟨s, W', Bs', x1, x2, x3, x4, x5⟩ | ⟨s, W', Bs', x1, x2, x3, x4, x5⟩ | ⟨s, w, κ, W', Bs', x1, x2, x3, x4, x5, x6, x7, x8⟩
    · exact key _ _ x1 (by omega) (by omega)
    · exact key _ _ x1 (by omega) (by omega)
    · exact key _ _ x1 (by omega) (by omega)
    · exact key _ _ x1 (by omega) (by omega)
    · exact key _ _ x1 (by omega) (by omega)
theorem m79_t {w : Nat} (h : w = 34 ∨ (6 ≤ w ∧ w ≤ 9)) (I : dI) (J : dJ) : m_79 (nn w) I J = some (nn 1) := by
  have h5 : w = 34 ∨ w = 6 ∨ w = 7 ∨ w = 8 ∨ w = 9 := by omega
  rcases h5 with rfl | rfl | rfl | rfl | rfl <;> rfl
/-- a bracket closes: the reference's rows are tk', tp', tn' then -/
theorem tk_close {I : dI} {J : dJ} {tk tp tk' tp' : Nat → Int32} {tn tn' : Nat → Int64} {t n kc z p b : Nat} {Bs B W O : List Nat} (hn : n ≤ 40) (hB : Bs.length < 8) (hBB : B.length = Bs.length) (hk : kc = 11 ∨ kc = 13) (h : CSt I J tk tp tn t n (p :: Bs) W O z 1) (hN : Nx I n 1 (b :: B)) (hpt : p < t) (ht : t < 1000) (ht1 : ∀ i, i < t → i ≠ p → tk' i = tk i ∧ tp' i = tp i ∧ tn' i = tn i) (ht2 : tk' p = tk p ∧ tp' p = nn t) (ht3 : Clo (tk' t)) : ∃ I' J' W' O' z', m_76 (nn kc) I J = some (I', J') ∧ BFr I J I' J' ∧ CSt I' J' tk' tp' tn' (t + 1) n Bs W' O' z' 1 ∧ Nx I' n 1 B := by
  obtain ⟨n1, n2, n3⟩ := hN
  obtain ⟨o, O1, a, e1, hz, hcs⟩ := cst_cs (I4 := I) h (fun q hq => rfl) rfl
  obtain ⟨I1, J1, W1, O2, o', a', m', z', q1, q2, q3, q4, q5⟩ := settle_m (r := 1) (by omega) hz (by rw [List.length_cons]; omega) (by omega) (by omega) hcs
  obtain ⟨c1, c2, c3, c4, c5, c6, c7, c8, ⟨d, c9⟩, c10⟩ := q3
  have hlen := lay_len _ _ _ _ _ c9
  rw [List.length_cons] at hlen
  have n3' : Pil 16 I1 (b :: B) := pil_fr n3 (q2.1 16 (by omega) (by omega) (by omega) (by omega) (by omega) (by omega) (by omega) (by omega)) (q2.1 (16 + 1) (by omega) (by omega) (by omega) (by omega) (by omega) (by omega) (by omega) (by omega))
  have h75 : I1 7 5 = nn n := by rw [q2.2.1 5 (by omega)]; exact n1
  have h66 : I1 6 6 = nn 1 := by rw [q2.1 6 (by omega) (by omega) (by omega) (by omega) (by omega) (by omega) (by omega) (by omega)]; exact n2
  -- the bracket's pops
  have pops : ∀ w Wx, W1 = w :: Wx → m_76 (nn kc) I J = (m_66 12 80 (sI (sI I1 12 1 (nn Wx.length)) 16 1 (nn B.length)) J1).bind (fun r8 => (m_79 r8 (sI (sI I1 12 1 (nn Wx.length)) 16 1 (nn B.length)) J1).bind (fun r10 => if r10 = 0 then (some (sI (sI I1 12 1 (nn Wx.length)) 16 1 (nn B.length), J1)) else (m_72 (sI (sI I1 12 1 (nn Wx.length)) 16 1 (nn B.length)) J1))) ∧ Pil 12 (sI (sI I1 12 1 (nn Wx.length)) 16 1 (nn B.length)) Wx ∧ Pil 16 (sI (sI I1 12 1 (nn Wx.length)) 16 1 (nn B.length)) B := by
    intro w Wx e2
    subst e2
    rw [List.length_cons] at hlen
    obtain ⟨p1, p2⟩ := pil_pop (c := 80) J1 c1 (by omega) (by omega)
    obtain ⟨p3, p4⟩ := pil_pop (c := 8) J1 (pil_fr (I' := sI I1 12 1 (nn Wx.length)) n3' (sI_ne (by omega)) (sI_ne (by omega))) (by omega) (by omega)
    refine ⟨?_, pil_fr p2 (sI_ne (by omega)) (sI_ne (by omega)), p4⟩
    have h12 : m_76 (nn kc) I J = b_78_12 I J := by
      unfold m_76 b_76_0
      rw [m68_f (by omega), Option.bind_some, if_pos (show nn 0 = 0 from rfl), b76_78 (by omega) (by omega) n2]
      rcases hk with rfl | rfl
      · rfl
      · rfl
    rw [h12]
    unfold b_78_12
    rw [show (1 : Int32) = nn 1 from rfl, q1, Option.bind_some]
    dsimp only
    rw [p1, Option.bind_some]
    dsimp only
    rw [p3, Option.bind_some]
    dsimp only
    simp only [bind_eta]
  have rowI : ∀ (Wx : List Nat) q, q ≠ 12 → q ≠ 16 → (sI (sI I1 12 1 (nn Wx.length)) 16 1 (nn B.length)) q = I1 q := fun Wx q b12 b16 => by rw [sI_ne b16, sI_ne b12]
  have bfr : ∀ q, q < 6 ∨ 17 < q → I1 q = I q := fun q hq => q2.1 q (by omega) (by omega) (by omega) (by omega) (by omega) (by omega) (by omega) (by omega)
  have covt : Cov I1 J1 tk' tp' tn' Bs (t + 1) z' := by
    intro i hi
    obtain ⟨qq, aa, bb, mm, y1, y1', y2⟩ := c10 i hi
    have y3 := y1' p List.mem_cons_self
    obtain ⟨q', h3⟩ := opI_tok (I := I1) (J := J1) (tk' := tk') (tp' := tp') (tn' := tn') (fun x u v => ht1 x (by omega) (by omega)) ⟨qq, y2⟩
    exact ⟨q', aa, bb, mm, by omega, fun x hx => y1' x (List.mem_cons_of_mem _ hx), h3⟩
  have lyt : ∀ {Wx Ox : List Nat} {e : Nat}, e ≤ p → (∃ d, Lay (I1 8) (I1 9) (I1 10) (J1 11) tk tp tn z' d Wx Ox Bs e) → LyI I1 J1 tk' tp' tn' z' Wx Ox Bs e := fun he hh => lyI_tok (I := I1) (J := J1) (fun i hi => ht1 i (by omega) (by omega)) hh
  have opt : p < a' → OpI I1 J1 tk' tp' tn' o' a' t m' := fun hp => opI_tok (fun i u v => ht1 i v (by omega)) c8
  have hab : a' < t := by obtain ⟨q, x⟩ := c8; exact opd_lt x
  -- a node over the bracket
  have node : ∀ w Wx e, W1 = (if w = 34 then 12 else if w ≤ 7 then 12 else 10) :: w :: Wx ∨ (∃ v, W1 = v :: w :: Wx ∧ (v = 10 ∨ v = 12)) → (w = 34 ∨ (6 ≤ w ∧ w ≤ 9)) → e ≤ p → (∃ d, Lay (I1 8) (I1 9) (I1 10) (J1 11) tk tp tn z' d Wx O2 Bs e) → (∀ (I' : dI) (J' : dJ) q, I' 8 z' = nn w → I' 9 z' = nn o' → Opd (I' 8) (I' 9) (I' 10) (J' 11) tk' tp' tn' q o' a' t m' → Opd (I' 8) (I' 9) (I' 10) (J' 11) tk' tp' tn' (q + 1) z' e (t + 1) 11) → p < a' → ∃ I' J' W' O' z', m_76 (nn kc) I J = some (I', J') ∧ BFr I J I' J' ∧ CSt I' J' tk' tp' tn' (t + 1) n Bs W' O' z' 1 ∧ Nx I' n 1 B := by
    intro w Wx e hW hw hep hly hop hpa
    obtain ⟨v, hv, hv2⟩ : ∃ v, W1 = v :: w :: Wx ∧ (v = 10 ∨ v = 12) := by
      rcases hW with h | h
      · refine ⟨_, h, ?_⟩
        split
        · omega
        · split <;> omega
      · exact h
    obtain ⟨m1, m2, m3⟩ := pops v (w :: Wx) hv
    have hcn : cnt W1 = 1 + cnt Wx := by
      rw [hv, cnt_0 hv2, cnt_1 (by omega)]
    rw [hv, List.length_cons, List.length_cons] at hlen
    rw [cnt_0 hv2, cnt_1 (by omega)] at hlen
    generalize hI2 : sI (sI I1 12 1 (nn (w :: Wx).length)) 16 1 (nn B.length) = I2 at m1 m2 m3
    have row2 : ∀ q, q ≠ 12 → q ≠ 16 → I2 q = I1 q := fun q b12 b16 => by rw [← hI2, sI_ne b16, sI_ne b12]
    obtain ⟨I3, s1, s2, s3, s4, s5, s6, s7, hK⟩ := settle_un (J := J1) (C := 40) (I := I2) (w := w) (o := o') (z := z') (W' := Wx) (O := O2) (by omega) (by omega) (by omega) m2 (pil_fr c2 (row2 14 (by omega) (by omega)) (row2 (14 + 1) (by omega) (by omega))) (by rw [row2 7 (by omega) (by omega)]; exact c3) (by omega) (by omega)
    have hK' : ∀ i, i < z' → I3 8 i = I1 8 i ∧ I3 9 i = I1 9 i ∧ I3 10 i = I1 10 i ∧ (sJ J1 11 z' 0) 11 i = J1 11 i := by
      intro i hi
      obtain ⟨y1, y2, y3, y4⟩ := hK i hi
      rw [y1, y2, y3, y4, row2 8 (by omega) (by omega), row2 9 (by omega) (by omega), row2 10 (by omega) (by omega)]
      exact ⟨rfl, rfl, rfl, rfl⟩
    obtain ⟨q, ho⟩ := opt hpa
    have hnew := hop I3 (sJ J1 11 z' 0) q s6 s7 (opd_keep hK' (by omega) ho)
    obtain ⟨d', hd'⟩ := lyt hep hly
    have hd2 := lay_move (z' := z' + 1) (by omega) hK' d' Wx O2 Bs e (fun _ _ => ⟨rfl, rfl, rfl⟩) hd'
    refine ⟨I3, sJ J1 11 z' 0, Wx, z' :: O2, z' + 1, ?_, ⟨fun q hq => ?_, fun q hq => ?_⟩, ⟨s3, s4, s5, by omega, by rw [List.length_cons]; omega, fun x hx => ?_, fun i hi => ?_, Or.inr (Or.inl ⟨rfl, z', O2, e, rfl, rfl, ⟨_, hnew⟩, ⟨d', hd2⟩⟩)⟩, ?_, ?_, ?_⟩
    · rw [m1, pil_top J1 m2 (by omega) (by omega), Option.bind_some, m79_t hw, Option.bind_some, if_neg (show ¬ nn 1 = 0 by decide)]
      exact s1
    · rw [s2.1 q (by omega) (by omega) (by omega) (by omega) (by omega) (by omega) (by omega) (by omega), row2 q (by omega) (by omega), bfr q hq]
    · rw [sJ_ne hq]; exact q2.2.2 q hq
    · rcases List.mem_cons.mp hx with e1 | e1
      · omega
      · have := c7 x e1; omega
    · by_cases hi2 : i = z'
      · subst hi2
        exact ⟨_, _, _, _, Nat.le_refl _, fun x hx => Or.inl (lay_bs _ _ _ _ _ hd2 x hx), hnew⟩
      · obtain ⟨qq, aa, bb, mm, y1, y1', y2⟩ := covt i (by omega)
        exact ⟨qq, aa, bb, mm, y1, y1', opd_keep hK' (by omega) y2⟩
    · rw [s2.2.1 5 (by omega), row2 7 (by omega) (by omega)]; exact h75
    · rw [s2.1 6 (by omega) (by omega) (by omega) (by omega) (by omega) (by omega) (by omega) (by omega), row2 6 (by omega) (by omega)]; exact h66
    · exact pil_fr m3 (s2.1 16 (by omega) (by omega) (by omega) (by omega) (by omega) (by omega) (by omega) (by omega)) (s2.1 (16 + 1) (by omega) (by omega) (by omega) (by omega) (by omega) (by omega) (by omega) (by omega))
  cases d with
  | zero =>
    obtain ⟨_, _, x3, _⟩ := c9
    cases x3
  | succ d =>
    rcases c9 with ⟨s, κ, o1, Wx, Ox, a1, qx, mx, x1, x2, x3, x4, x5, x6, x7, x8, x9, x10, x11⟩ | ⟨s, w, Wx, x1, x2, x3, x4, x5⟩ | ⟨s, Wx, Bs', x1, x2, x3, x4, x5⟩ | ⟨s, Wx, Bs', x1, x2, x3, x4, x5⟩ | ⟨s, w, κ, Wx, Bs', x1, x2, x3, x4, x5, x6, x7, x8⟩
    · exfalso
      rw [x1] at q4
      have : topS ((κ + 6) :: Wx) = rk κ + 1 := str_b x4 x5
      omega
    · exfalso
      rw [x1] at q4
      have : topS (w :: Wx) = 10 := str_p x4
      omega
    · -- plain round brackets
      injection x2 with e2 e3
      subst e2
      subst e3
      obtain ⟨m1, m2, m3⟩ := pops 10 Wx x1
      have hcn : cnt W1 = cnt Wx := by rw [x1, cnt_0 (by omega)]
      rw [x1, List.length_cons, cnt_0 (Or.inl rfl)] at hlen
      obtain ⟨d', hd'⟩ := lyt (Nat.le_refl p) ⟨d, x5⟩
      obtain ⟨r, r1, r2⟩ := lay_tb (J := J1) x5 m2 (by omega)
      obtain ⟨q, ho⟩ := opt (by omega)
      have hr := rowI Wx
      have hnew : OpI I1 J1 tk' tp' tn' o' p (t + 1) 11 := ⟨q + 1, Or.inr (Or.inl ⟨rfl, by rw [ht2.1]; exact x4, ht2.2, by omega, ht3, m', by rw [show t + 1 - 1 = t by omega, ← x3]; exact ho⟩)⟩
      refine ⟨sI (sI I1 12 1 (nn Wx.length)) 16 1 (nn B.length), J1, Wx, o' :: O2, z', ?_, ⟨fun q hq => ?_, fun q hq => q2.2.2 q hq⟩, ⟨m2, pil_fr c2 (hr 14 (by omega) (by omega)) (hr (14 + 1) (by omega) (by omega)), by rw [hr 7 (by omega) (by omega)]; exact c3, by omega, by rw [List.length_cons]; exact c6, fun x hx => ?_, cov_row (hr 8 (by omega) (by omega)) (hr 9 (by omega) (by omega)) (hr 10 (by omega) (by omega)) rfl covt, Or.inr (Or.inl ⟨rfl, o', O2, p, rfl, c4, opI_row (hr 8 (by omega) (by omega)) (hr 9 (by omega) (by omega)) (hr 10 (by omega) (by omega)) rfl hnew, lyI_row (hr 8 (by omega) (by omega)) (hr 9 (by omega) (by omega)) (hr 10 (by omega) (by omega)) rfl ⟨d', hd'⟩⟩)⟩, by rw [hr 7 (by omega) (by omega)]; exact h75, by rw [hr 6 (by omega) (by omega)]; exact h66, m3⟩
      · rw [m1, r1, Option.bind_some, r2, Option.bind_some, if_pos (show nn 0 = 0 from rfl)]
      · rw [hr q (by omega) (by omega), bfr q hq]
      · rcases List.mem_cons.mp hx with e1 | e1
        · omega
        · exact c7 x e1
    · -- a word's square brackets
      injection x2 with e2 e3
      subst e2
      subst e3
      refine node 34 Wx p (Or.inr ⟨12, x1, Or.inr rfl⟩) (Or.inl rfl) (Nat.le_refl p) ⟨d, x5⟩ (fun I' J' q y1 y2 y3 => ?_) (by omega)
      exact Or.inr (Or.inr (Or.inr (Or.inl ⟨rfl, y1, by rw [ht2.1]; exact x4, ht2.2, by omega, ht3, o', m', by omega, y2, by rw [show t + 1 - 1 = t by omega, ← x3]; exact y3⟩)))
    · injection x2 with e2 e3
      subst e3
      refine node κ Wx s (Or.inr ⟨w, x1, by omega⟩) (Or.inr ⟨x4, x5⟩) (by omega) ⟨d, x8⟩ (fun I' J' q y1 y2 y3 => ?_) (by omega)
      have hs := ht1 s (by omega) (by omega)
      exact Or.inr (Or.inr (Or.inr (Or.inr (Or.inl ⟨rfl, ⟨κ, x4, x5, y1, by rw [hs.1]; exact x6⟩, by rw [← e2, ht2.1, e2]; rcases x7 with ⟨_, h⟩ | ⟨_, h⟩; exact Or.inl h; exact Or.inr h, by rw [← e2]; exact ht2.2, by omega, ht3, o', m', by omega, y2, by rw [show t + 1 - 1 = t by omega, ← x3]; exact y3⟩))))
/-- the end: the root -/
theorem tk_end {I : dI} {J : dJ} {tk tp : Nat → Int32} {tn : Nat → Int64} {t n z : Nat} {W O : List Nat} (hn : n ≤ 40) (h : CSt I J tk tp tn t n [] W O z 1) : ∃ I' J' z' m, m_70 (nn 1) I J = some (I', J') ∧ SFr I J I' J' ∧ I' 7 4 = nn z' ∧ 1 ≤ z' ∧ z' ≤ 40 ∧ OpI I' J' tk tp tn (z' - 1) 0 t m ∧ Cov I' J' tk tp tn [] t z' := by
  obtain ⟨o, O1, a, e1, hz, hcs⟩ := cst_cs (I4 := I) h (fun q hq => rfl) rfl
  obtain ⟨I1, J1, W1, O2, o', a', m', z', q1, q2, q3, q4, q5⟩ := settle_m (r := 1) (by omega) hz (by decide) (by omega) (by omega) hcs
  obtain ⟨c1, c2, c3, c4, c5, c6, c7, c8, ⟨d, c9⟩, c10⟩ := q3
  refine ⟨I1, J1, z', m', q1, q2, c3, by omega, by omega, ?_, c10⟩
  have ha : a' = 0 := by
    cases d with
    | zero => exact c9.2.2.2
    | succ d =>
      rcases c9 with ⟨s, κ, o1, Wx, Ox, a1, qx, mx, x1, x2, x3, x4, x5, x6, x7, x8, x9, x10, x11⟩ | ⟨s, w, Wx, x1, x2, x3, x4, x5⟩ | ⟨s, Wx, Bs', x1, x2, x3, x4, x5⟩ | ⟨s, Wx, Bs', x1, x2, x3, x4, x5⟩ | ⟨s, w, κ, Wx, Bs', x1, x2, x3, x4, x5, x6, x7, x8⟩
      · exfalso
        rw [x1] at q4
        have : topS ((κ + 6) :: Wx) = rk κ + 1 := str_b x4 x5
        omega
      · exfalso
        rw [x1] at q4
        have : topS (w :: Wx) = 10 := str_p x4
        omega
      · cases x2
      · cases x2
      · cases x2
  rw [show z' - 1 = o' by omega, ← ha]
  exact c8
