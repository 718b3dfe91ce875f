/-! Tokens that wait: signs before an operand, words, brackets. -/
theorem cst_ly0 {I : dI} {J : dJ} {tk tp : Nat → Int32} {tn : Nat → Int64} {t C z : Nat} {Bs W O : List Nat} (h : CSt I J tk tp tn t C Bs W O z 0) : LyI I J tk tp tn z W O Bs t := by
  obtain ⟨_, _, _, _, _, _, _, c8⟩ := h
  rcases c8 with ⟨_, s2⟩ | ⟨s1, _⟩ | ⟨s1, _⟩ | ⟨s1, _⟩
  · exact s2
  · omega
  · omega
  · omega
theorem cst_len {I : dI} {J : dJ} {tk tp : Nat → Int32} {tn : Nat → Int64} {t C z st : Nat} {Bs W O : List Nat} (h : CSt I J tk tp tn t C Bs W O z st) : W.length ≤ cnt W + Bs.length := by
  obtain ⟨_, _, _, _, _, _, _, c8⟩ := h
  rcases c8 with ⟨_, d, s2⟩ | ⟨_, o, O', a, _, _, _, d, s5⟩ | ⟨_, κ, W', s, s2, s3, _, _, d, s6⟩ | ⟨_, κ, W', s, s2, s3, _, _, d, s6⟩
  · exact Nat.le_of_eq (lay_len _ _ _ _ _ s2)
  · exact Nat.le_of_eq (lay_len _ _ _ _ _ s5)
  · have := lay_len _ _ _ _ _ s6
    subst s2
    simp only [cnt, List.length_cons]
    rw [if_neg (by omega)]
    omega
  · have := lay_len _ _ _ _ _ s6
    subst s2
    simp only [cnt, List.length_cons]
    rw [if_neg (by omega)]
    omega
theorem cnt_1 {w : Nat} {W : List Nat} (h : w ≠ 10 ∧ w ≠ 12) : cnt (w :: W) = 1 + cnt W := by
  simp only [cnt]
  rw [if_neg (by omega)]
theorem cnt_0 {w : Nat} {W : List Nat} (h : w = 10 ∨ w = 12) : cnt (w :: W) = cnt W := by
  simp only [cnt]
  rw [if_pos h, Nat.zero_add]
theorem tk_pre {I : dI} {J : dJ} {tk tp : Nat → Int32} {tn : Nat → Int64} {t n kc w z : Nat} {Bs B W O : List Nat} (hn : n < 40) (hB : Bs.length ≤ 8) (hk : (kc = 14 ∧ w = 14) ∨ (kc = 15 ∧ w = 15) ∨ (kc = 30 ∧ w = 35)) (h : CSt I J tk tp tn t n Bs W O z 0) (hN : Nx I n 0 B) (hp : Pref (nn w) (tk t)) : ∃ I' J', m_76 (nn kc) I J = some (I', J') ∧ BFr I J I' J' ∧ CSt I' J' tk tp tn (t + 1) (n + 1) Bs (w :: W) O z 0 ∧ Nx I' (n + 1) 0 B := by
  have hly := cst_ly0 h
  have hlen := cst_len h
  obtain ⟨c1, c2, c3, c4, c5, c6, c7, c8⟩ := h
  obtain ⟨n1, n2, n3⟩ := hN
  obtain ⟨p1, p2⟩ := pil_push (c := 80) (x := w) J (pil_fr (I' := sI I 7 5 (nn (n + 1))) c1 (sI_ne (by omega)) (sI_ne (by omega))) (by omega) (by omega)
  generalize hI1 : sI (sI (sI I 7 5 (nn (n + 1))) (12 + 1) W.length (nn w)) 12 1 (nn (W.length + 1)) = I1 at p1 p2
  have row : ∀ q, q ≠ 7 → q ≠ 12 → q ≠ 13 → I1 q = I q := fun q b7 b12 b13 => by rw [← hI1, sI_ne b12, sI_ne b13, sI_ne b7]
  have r75 : I1 7 5 = nn (n + 1) := by rw [← hI1, sI_ne (by omega), sI_ne (by omega), sI_eq]
  have r74 : I1 7 4 = nn z := by rw [← hI1, sI_ne (by omega), sI_ne (by omega), sI_nk (by omega)]; exact c3
  refine ⟨I1, J, ?_, ⟨fun q hq => row q (by omega) (by omega) (by omega), fun q _ => rfl⟩, ⟨p2, pil_fr c2 (row 14 (by omega) (by omega) (by omega)) (row (14 + 1) (by omega) (by omega) (by omega)), r74, ?_, c5, c6, ?_, Or.inl ⟨rfl, ?_⟩⟩, r75, by rw [row 6 (by omega) (by omega) (by omega)]; exact n2, pil_fr n3 (row 16 (by omega) (by omega) (by omega)) (row (16 + 1) (by omega) (by omega) (by omega))⟩
  · have h80 : m_80 (nn kc) (sI I 7 5 (nn (n + 1))) J = b_80_124 (nn w) (sI I 7 5 (nn (n + 1))) J := by
      rcases hk with ⟨rfl, rfl⟩ | ⟨rfl, rfl⟩ | ⟨rfl, rfl⟩ <;> rfl
    rw [m76_part (by omega) (by omega) n1, b76_80 (st := 0) (by omega) (by omega) (by rw [sI_ne (by omega)]; exact n2) (by omega) (by omega), h80]
    unfold b_80_124
    rw [p1, Option.bind_some]
  · rw [cnt_1 (by omega)]; omega
  · exact cov_tok (by omega) (fun _ _ => ⟨rfl, rfl, rfl⟩) (cov_row (row 8 (by omega) (by omega) (by omega)) (row 9 (by omega) (by omega) (by omega)) (row 10 (by omega) (by omega) (by omega)) rfl c7)
  · obtain ⟨d, hd⟩ := lyI_row (I' := I1) (J' := J) (row 8 (by omega) (by omega) (by omega)) (row 9 (by omega) (by omega) (by omega)) (row 10 (by omega) (by omega) (by omega)) rfl hly
    exact ⟨d + 1, Or.inr (Or.inl ⟨t, w, W, rfl, rfl, hp, by omega, hd⟩)⟩
theorem tk_kw {I : dI} {J : dJ} {tk tp : Nat → Int32} {tn : Nat → Int64} {t n kc z : Nat} {Bs B W O : List Nat} (hn : n < 40) (hB : Bs.length ≤ 8) (hk : 6 ≤ kc ∧ kc ≤ 9) (h : CSt I J tk tp tn t n Bs W O z 0) (hN : Nx I n 0 B) (hp : tk t = nn kc) : ∃ I' J', m_76 (nn kc) I J = some (I', J') ∧ BFr I J I' J' ∧ CSt I' J' tk tp tn (t + 1) (n + 1) Bs (kc :: W) O z (if kc ≤ 7 then 3 else 2) ∧ Nx I' (n + 1) (if kc ≤ 7 then 3 else 2) B := by
  have hly := cst_ly0 h
  have hlen := cst_len h
  obtain ⟨c1, c2, c3, c4, c5, c6, c7, c8⟩ := h
  obtain ⟨n1, n2, n3⟩ := hN
  obtain ⟨p1, p2⟩ := pil_push (c := 80) (x := kc) J (pil_fr (I' := sI I 7 5 (nn (n + 1))) c1 (sI_ne (by omega)) (sI_ne (by omega))) (by omega) (by omega)
  generalize hI1 : sI (sI (sI I 7 5 (nn (n + 1))) (12 + 1) W.length (nn kc)) 12 1 (nn (W.length + 1)) = I1 at p1 p2
  have row1 : ∀ q, q ≠ 7 → q ≠ 12 → q ≠ 13 → I1 q = I q := fun q b7 b12 b13 => by rw [← hI1, sI_ne b12, sI_ne b13, sI_ne b7]
  have r75 : I1 7 5 = nn (n + 1) := by rw [← hI1, sI_ne (by omega), sI_ne (by omega), sI_eq]
  have r74 : I1 7 4 = nn z := by rw [← hI1, sI_ne (by omega), sI_ne (by omega), sI_nk (by omega)]; exact c3
  generalize hst : (if kc ≤ 7 then 3 else 2) = st
  have row : ∀ q, q ≠ 6 → q ≠ 7 → q ≠ 12 → q ≠ 13 → (sI I1 6 6 (nn st)) q = I q := fun q b6 b7 b12 b13 => by rw [sI_ne b6, row1 q b7 b12 b13]
  have hly' := lyI_row (I' := sI I1 6 6 (nn st)) (J' := J) (row 8 (by omega) (by omega) (by omega) (by omega)) (row 9 (by omega) (by omega) (by omega) (by omega)) (row 10 (by omega) (by omega) (by omega) (by omega)) rfl hly
  refine ⟨sI I1 6 6 (nn st), J, ?_, ⟨fun q hq => row q (by omega) (by omega) (by omega) (by omega), fun q _ => rfl⟩, ⟨pil_fr p2 (sI_ne (by omega)) (sI_ne (by omega)), pil_fr c2 (row 14 (by omega) (by omega) (by omega) (by omega)) (row (14 + 1) (by omega) (by omega) (by omega) (by omega)), by rw [sI_ne (by omega)]; exact r74, ?_, c5, c6, ?_, ?_⟩, by rw [sI_ne (by omega)]; exact r75, sI_eq, pil_fr n3 (row 16 (by omega) (by omega) (by omega) (by omega)) (row (16 + 1) (by omega) (by omega) (by omega) (by omega))⟩
  · have h80 : m_80 (nn kc) (sI I 7 5 (nn (n + 1))) J = (m_75 12 80 (nn kc) (sI I 7 5 (nn (n + 1))) J).bind (fun r => some (sI r.1 6 6 (nn st), r.2)) := by
      have h4 : kc = 6 ∨ kc = 7 ∨ kc = 8 ∨ kc = 9 := by omega
      rcases h4 with rfl | rfl | rfl | rfl <;> subst hst <;> rfl
    rw [m76_part (by omega) (by omega) n1, b76_80 (st := 0) (by omega) (by omega) (by rw [sI_ne (by omega)]; exact n2) (by omega) (by omega), h80, p1, Option.bind_some]
  · rw [cnt_1 (by omega)]; omega
  · exact cov_tok (by omega) (fun _ _ => ⟨rfl, rfl, rfl⟩) (cov_row (row 8 (by omega) (by omega) (by omega) (by omega)) (row 9 (by omega) (by omega) (by omega) (by omega)) (row 10 (by omega) (by omega) (by omega) (by omega)) rfl c7)
  · by_cases c : kc ≤ 7
    · rw [if_pos c] at hst
      exact Or.inr (Or.inr (Or.inr ⟨hst.symm, kc, W, t, rfl, by omega, rfl, hp, hly'⟩))
    · rw [if_neg c] at hst
      exact Or.inr (Or.inr (Or.inl ⟨hst.symm, kc, W, t, rfl, by omega, rfl, hp, hly'⟩))
theorem b77_push {I : dI} {J : dJ} {kc : Nat} {B W : List Nat} (c1 : Pil 12 I W) (hl : W.length < 80) (n3 : Pil 16 I B) (hB : B.length < 8) : ∃ I', b_77_22 (nn kc) I J = some (I', J) ∧ Pil 12 I' (kc :: W) ∧ Pil 16 I' (kc :: B) ∧ I' 6 6 = nn 0 ∧ ∀ q, q ≠ 6 → q ≠ 12 → q ≠ 13 → q ≠ 16 → q ≠ 17 → I' q = I q := by
  obtain ⟨p1, p2⟩ := pil_push (c := 80) (x := kc) J c1 hl (by omega)
  generalize hI1 : sI (sI I (12 + 1) W.length (nn kc)) 12 1 (nn (W.length + 1)) = I1 at p1 p2
  have row1 : ∀ q, q ≠ 12 → q ≠ 13 → I1 q = I q := fun q b12 b13 => by rw [← hI1, sI_ne b12, sI_ne b13]
  obtain ⟨p3, p4⟩ := pil_push (c := 8) (x := kc) J (pil_fr (I' := I1) n3 (row1 16 (by omega) (by omega)) (row1 (16 + 1) (by omega) (by omega))) hB (by omega)
  generalize hI2 : sI (sI I1 (16 + 1) B.length (nn kc)) 16 1 (nn (B.length + 1)) = I2 at p3 p4
  have row2 : ∀ q, q ≠ 16 → q ≠ 17 → I2 q = I1 q := fun q b16 b17 => by rw [← hI2, sI_ne b16, sI_ne b17]
  refine ⟨sI I2 6 6 (nn 0), ?_, pil_fr p2 (by rw [sI_ne (by omega), row2 12 (by omega) (by omega)]) (by rw [sI_ne (by omega), row2 (12 + 1) (by omega) (by omega)]), pil_fr p4 (sI_ne (by omega)) (sI_ne (by omega)), sI_eq, fun q b6 b12 b13 b16 b17 => by rw [sI_ne b6, row2 q b16 b17, row1 q b12 b13]⟩
  unfold b_77_22
  rw [p1, Option.bind_some]
  dsimp only
  rw [p3, Option.bind_some]
  rfl
theorem tk_open {I : dI} {J : dJ} {tk tp : Nat → Int32} {tn : Nat → Int64} {t n kc κ z st : Nat} {Bs B W O : List Nat} (hn : n < 40) (hB : Bs.length < 8) (hBB : B.length = Bs.length) (hk : (kc = 10 ∧ κ = 30 ∧ (st = 0 ∨ st = 2)) ∨ (kc = 12 ∧ κ = 32 ∧ (st = 0 ∨ st = 3))) (h : CSt I J tk tp tn t n Bs W O z st) (hN : Nx I n st B) (hp : tk t = nn κ) : ∃ I' J' W', m_76 (nn kc) I J = some (I', J') ∧ BFr I J I' J' ∧ CSt I' J' tk tp tn (t + 1) (n + 1) (t :: Bs) W' O z 0 ∧ Nx I' (n + 1) 0 (kc :: B) := by
  have hkc : kc = 10 ∨ kc = 12 := by
    rcases hk with h | h
    · exact Or.inl h.1
    · exact Or.inr h.1
  have hkd : kc ≠ 0 ∧ kc ≠ 11 ∧ kc ≠ 13 := by
    rcases hkc with rfl | rfl <;> decide
  have hke : kc < 1000 := by
    rcases hkc with rfl | rfl <;> decide
  have hlen := cst_len h
  obtain ⟨c1, c2, c3, c4, c5, c6, c7, c8⟩ := h
  obtain ⟨n1, n2, n3⟩ := hN
  have s6 : (sI I 7 5 (nn (n + 1))) 6 6 = nn st := by rw [sI_ne (by omega)]; exact n2
  have c1' : Pil 12 (sI I 7 5 (nn (n + 1))) W := pil_fr c1 (sI_ne (by omega)) (sI_ne (by omega))
  have n3' : Pil 16 (sI I 7 5 (nn (n + 1))) B := pil_fr n3 (sI_ne (by omega)) (sI_ne (by omega))
  have fin : ∀ (Wx : List Nat) (I1 : dI), Pil 12 I1 Wx → Wx.length < 80 → Pil 16 I1 B → (∀ q, q ≠ 7 → q ≠ 12 → q ≠ 13 → I1 q = I q) → I1 7 5 = nn (n + 1) → I1 7 4 = nn z → m_77 (nn kc) (sI I 7 5 (nn (n + 1))) J = b_77_22 (nn kc) I1 J → z + cnt Wx ≤ n + 1 → (∀ I' : dI, I' 8 = I 8 → I' 9 = I 9 → I' 10 = I 10 → LyI I' J tk tp tn z (kc :: Wx) O (t :: Bs) (t + 1)) → ∃ I' J' W', m_76 (nn kc) I J = some (I', J') ∧ BFr I J I' J' ∧ CSt I' J' tk tp tn (t + 1) (n + 1) (t :: Bs) W' O z 0 ∧ Nx I' (n + 1) 0 (kc :: B) := by
    intro Wx I1 g1 g2 g3 g4 g5 g6 g7 g8 g9
    obtain ⟨I', b1, b2, b3, b4, b5⟩ := b77_push (J := J) (kc := kc) g1 g2 g3 (by omega)
    have row : ∀ q, q ≠ 6 → q ≠ 7 → q ≠ 12 → q ≠ 13 → q ≠ 16 → q ≠ 17 → I' q = I q := fun q b6 b7 b12 b13 b16 b17 => by rw [b5 q b6 b12 b13 b16 b17, g4 q b7 b12 b13]
    refine ⟨I', J, kc :: Wx, ?_, ⟨fun q hq => row q (by omega) (by omega) (by omega) (by omega) (by omega) (by omega), fun q _ => rfl⟩, ⟨b2, pil_fr c2 (row 14 (by omega) (by omega) (by omega) (by omega) (by omega) (by omega)) (row (14 + 1) (by omega) (by omega) (by omega) (by omega) (by omega) (by omega)), by rw [b5 7 (by omega) (by omega) (by omega) (by omega) (by omega)]; exact g6, ?_, c5, c6, ?_, Or.inl ⟨rfl, g9 I' (row 8 (by omega) (by omega) (by omega) (by omega) (by omega) (by omega)) (row 9 (by omega) (by omega) (by omega) (by omega) (by omega) (by omega)) (row 10 (by omega) (by omega) (by omega) (by omega) (by omega) (by omega))⟩⟩, by rw [b5 7 (by omega) (by omega) (by omega) (by omega) (by omega)]; exact g5, b4, b3⟩
    · rw [m76_part hke hkd n1, b76_77 hkc, g7, b1]
    · rw [cnt_0 hkc]; exact g8
    · exact cov_open (cov_row (row 8 (by omega) (by omega) (by omega) (by omega) (by omega) (by omega)) (row 9 (by omega) (by omega) (by omega) (by omega) (by omega) (by omega)) (row 10 (by omega) (by omega) (by omega) (by omega) (by omega) (by omega)) rfl c7)
  have same : ∀ q, q ≠ 7 → q ≠ 12 → q ≠ 13 → (sI I 7 5 (nn (n + 1))) q = I q := fun q b7 _ _ => sI_ne b7
  have s75 : (sI I 7 5 (nn (n + 1))) 7 5 = nn (n + 1) := sI_eq
  have s74 : (sI I 7 5 (nn (n + 1))) 7 4 = nn z := by rw [sI_nk (by omega)]; exact c3
  by_cases hz0 : st = 0
  · subst hz0
    have hly : LyI I J tk tp tn z W O Bs t := by
      rcases c8 with ⟨_, s2⟩ | ⟨s1, _⟩ | ⟨s1, _⟩ | ⟨s1, _⟩
      · exact s2
      · omega
      · omega
      · omega
    rcases hk with ⟨k1, k2, k3⟩ | ⟨k1, k2, k3⟩
    · subst k1
      subst k2
      refine fin W _ c1' (by omega) n3' same s75 s74 ?_ (by omega) (fun I' e8 e9 e10 => ?_)
      · rfl
      · obtain ⟨d, hd⟩ := lyI_row (I' := I') (J' := J) e8 e9 e10 rfl hly
        exact ⟨d + 1, Or.inr (Or.inr (Or.inl ⟨t, W, Bs, rfl, rfl, rfl, hp, hd⟩))⟩
    · subst k1
      subst k2
      obtain ⟨p1, p2⟩ := pil_push (c := 80) (x := 34) J c1' (by omega) (by omega)
      generalize hI1 : sI (sI (sI I 7 5 (nn (n + 1))) (12 + 1) W.length (nn 34)) 12 1 (nn (W.length + 1)) = I1 at p1 p2
      have row1 : ∀ q, q ≠ 12 → q ≠ 13 → I1 q = (sI I 7 5 (nn (n + 1))) q := fun q b12 b13 => by rw [← hI1, sI_ne b12, sI_ne b13]
      refine fin (34 :: W) I1 p2 (by rw [List.length_cons]; omega) (pil_fr n3' (row1 16 (by omega) (by omega)) (row1 (16 + 1) (by omega) (by omega))) (fun q b7 b12 b13 => by rw [row1 q b12 b13]; exact same q b7 b12 b13) (by rw [row1 7 (by omega) (by omega)]; exact s75) (by rw [row1 7 (by omega) (by omega)]; exact s74) ?_ (by rw [cnt_1 (by omega)]; omega) (fun I' e8 e9 e10 => ?_)
      · unfold m_77 b_77_0
        rw [if_neg (fun x => x (show nn 12 = 12 from rfl)), s6, if_neg (fun x => x (show nn 0 = 0 from rfl)), show (34 : Int32) = nn 34 from rfl, p1, Option.bind_some]
      · obtain ⟨d, hd⟩ := lyI_row (I' := I') (J' := J) e8 e9 e10 rfl hly
        exact ⟨d + 1, Or.inr (Or.inr (Or.inr (Or.inl ⟨t, W, Bs, rfl, rfl, rfl, hp, hd⟩)))⟩
  · rcases c8 with ⟨s1, _⟩ | ⟨s1, _⟩ | ⟨s1, κ', W', s, s2, s3, s4, s5, s6'⟩ | ⟨s1, κ', W', s, s2, s3, s4, s5, s6'⟩
    · omega
    · omega
    · have k1 : kc = 10 := by omega
      have k2 : κ = 30 := by omega
      subst k1
      subst k2
      subst s4
      refine fin W _ c1' (by omega) n3' same s75 s74 rfl (by omega) (fun I' e8 e9 e10 => ?_)
      obtain ⟨d, hd⟩ := lyI_row (I' := I') (J' := J) e8 e9 e10 rfl s6'
      subst s2
      exact ⟨d + 1, Or.inr (Or.inr (Or.inr (Or.inr ⟨s, 10, κ', W', Bs, rfl, rfl, rfl, by omega, by omega, s5, Or.inl ⟨rfl, hp⟩, hd⟩)))⟩
    · have k1 : kc = 12 := by omega
      have k2 : κ = 32 := by omega
      subst k1
      subst k2
      subst s4
      refine fin W _ c1' (by omega) n3' same s75 s74 ?_ (by omega) (fun I' e8 e9 e10 => ?_)
      · unfold m_77 b_77_0
        rw [if_neg (fun x => x (show nn 12 = 12 from rfl)), s6, s1, if_pos (show ¬ nn 3 = 0 by decide)]
      · obtain ⟨d, hd⟩ := lyI_row (I' := I') (J' := J) e8 e9 e10 rfl s6'
        subst s2
        exact ⟨d + 1, Or.inr (Or.inr (Or.inr (Or.inr ⟨s, 12, κ', W', Bs, rfl, rfl, rfl, by omega, by omega, s5, Or.inr ⟨rfl, hp⟩, hd⟩)))⟩
