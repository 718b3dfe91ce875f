/-! What a token does to the builder, and to the rows that wait. -/
def LyI (I : dI) (J : dJ) (tk tp : Nat → Int32) (tn : Nat → Int64) (z : Nat) (W O Bs : List Nat) (e : Nat) : Prop := ∃ d, Lay (I 8) (I 9) (I 10) (J 11) tk tp tn z d W O Bs e
def OpI (I : dI) (J : dJ) (tk tp : Nat → Int32) (tn : Nat → Int64) (o a b m : Nat) : Prop := ∃ q, Opd (I 8) (I 9) (I 10) (J 11) tk tp tn q o a b m
def CSt (I : dI) (J : dJ) (tk tp : Nat → Int32) (tn : Nat → Int64) (t C : Nat) (Bs W O : List Nat) (z st : Nat) : Prop := Pil 12 I W ∧ Pil 14 I O ∧ I 7 4 = nn z ∧ z + cnt W ≤ C ∧ O.length ≤ z ∧ (∀ x, x ∈ O → x < z) ∧ Cov I J tk tp tn Bs t z ∧ ((st = 0 ∧ LyI I J tk tp tn z W O Bs t) ∨ (st = 1 ∧ ∃ o O' a, O = o :: O' ∧ o + 1 = z ∧ OpI I J tk tp tn o a t 11 ∧ LyI I J tk tp tn z W O' Bs a) ∨ (st = 2 ∧ ∃ κ W' s, W = κ :: W' ∧ (κ = 8 ∨ κ = 9) ∧ t = s + 1 ∧ tk s = nn κ ∧ LyI I J tk tp tn z W' O Bs s) ∨ (st = 3 ∧ ∃ κ W' s, W = κ :: W' ∧ (κ = 6 ∨ κ = 7) ∧ t = s + 1 ∧ tk s = nn κ ∧ LyI I J tk tp tn z W' O Bs s))
theorem opI_tok {I : dI} {J : dJ} {tk tp tk' tp' : Nat → Int32} {tn tn' : Nat → Int64} {o a b m : Nat} (ht : ∀ i, a ≤ i → i < b → tk' i = tk i ∧ tp' i = tp i ∧ tn' i = tn i) (h : OpI I J tk tp tn o a b m) : OpI I J tk' tp' tn' o a b m := by
  obtain ⟨q, h⟩ := h
  have hm := opd_move (K' := I 8) (L' := I 9) (R' := I 10) (V' := J 11) (tk' := tk') (tp' := tp') (tn' := tn') 0 q o a b m (fun i hi => ⟨rfl, rfl, rfl, rfl⟩) (fun i u v => by
    obtain ⟨x1, x2, x3⟩ := ht i u v
    rw [Nat.zero_add, x1, x2, x3]
    exact ⟨rfl, (Int32.zero_add (tp i)).symm, rfl⟩) h
  rw [Nat.zero_add, Nat.zero_add] at hm
  exact ⟨q, hm⟩
theorem lyI_tok {I : dI} {J : dJ} {tk tp tk' tp' : Nat → Int32} {tn tn' : Nat → Int64} {z e : Nat} {W O Bs : List Nat} (ht : ∀ i, i < e → tk' i = tk i ∧ tp' i = tp i ∧ tn' i = tn i) (h : LyI I J tk tp tn z W O Bs e) : LyI I J tk' tp' tn' z W O Bs e := by
  obtain ⟨d, h⟩ := h
  exact ⟨d, lay_move (Nat.le_refl z) (fun i _ => ⟨rfl, rfl, rfl, rfl⟩) d W O Bs e ht h⟩
theorem cov_tok {I : dI} {J : dJ} {tk tp tk' tp' : Nat → Int32} {tn tn' : Nat → Int64} {t t' z : Nat} {Bs : List Nat} (htt : t ≤ t') (ht : ∀ i, i < t → tk' i = tk i ∧ tp' i = tp i ∧ tn' i = tn i) (h : Cov I J tk tp tn Bs t z) : Cov I J tk' tp' tn' Bs t' z := by
  intro i hi
  obtain ⟨q, a, b, m, h1, h1', h2⟩ := h i hi
  obtain ⟨q', h3⟩ := opI_tok (tk' := tk') (tp' := tp') (tn' := tn') (fun x u v => ht x (by omega)) ⟨q, h2⟩
  exact ⟨q', a, b, m, by omega, h1', h3⟩
theorem cov_open {I : dI} {J : dJ} {tk tp : Nat → Int32} {tn : Nat → Int64} {t z : Nat} {Bs : List Nat} (h : Cov I J tk tp tn Bs t z) : Cov I J tk tp tn (t :: Bs) (t + 1) z := by
  intro i hi
  obtain ⟨q, a, b, m, h1, h1', h2⟩ := h i hi
  refine ⟨q, a, b, m, by omega, fun x hx => ?_, h2⟩
  rcases List.mem_cons.mp hx with e | e
  · exact Or.inr (by omega)
  · exact h1' x e
theorem cst_tok {I : dI} {J : dJ} {tk tp tk' tp' : Nat → Int32} {tn tn' : Nat → Int64} {t C z st : Nat} {Bs W O : List Nat} (ht : ∀ i, i < t → tk' i = tk i ∧ tp' i = tp i ∧ tn' i = tn i) (h : CSt I J tk tp tn t C Bs W O z st) : CSt I J tk' tp' tn' t C Bs W O z st := by
  obtain ⟨h1, h2, h3, h4, h5, h6, h7, h8⟩ := h
  refine ⟨h1, h2, h3, h4, h5, h6, cov_tok (Nat.le_refl t) ht h7, ?_⟩
  rcases h8 with ⟨s1, s2⟩ | ⟨s1, o, O', a, s2, s3, s4, s5⟩ | ⟨s1, κ, W', s, s2, s3, s4, s5, s6⟩ | ⟨s1, κ, W', s, s2, s3, s4, s5, s6⟩
  · exact Or.inl ⟨s1, lyI_tok ht s2⟩
  · have hab : a < t := by obtain ⟨q, x⟩ := s4; exact opd_lt x
    exact Or.inr (Or.inl ⟨s1, o, O', a, s2, s3, opI_tok (fun i u v => ht i v) s4, lyI_tok (fun i hi => ht i (by omega)) s5⟩)
  · exact Or.inr (Or.inr (Or.inl ⟨s1, κ, W', s, s2, s3, s4, by rw [(ht s (by omega)).1]; exact s5, lyI_tok (fun i hi => ht i (by omega)) s6⟩))
  · exact Or.inr (Or.inr (Or.inr ⟨s1, κ, W', s, s2, s3, s4, by rw [(ht s (by omega)).1]; exact s5, lyI_tok (fun i hi => ht i (by omega)) s6⟩))
/-- rows 8 to 11 stand -/
theorem lyI_row {I I' : dI} {J J' : dJ} {tk tp : Nat → Int32} {tn : Nat → Int64} {z e : Nat} {W O Bs : List Nat} (h8 : I' 8 = I 8) (h9 : I' 9 = I 9) (h10 : I' 10 = I 10) (h11 : J' 11 = J 11) (h : LyI I J tk tp tn z W O Bs e) : LyI I' J' tk tp tn z W O Bs e := by
  unfold LyI
  rw [h8, h9, h10, h11]
  exact h
theorem opI_row {I I' : dI} {J J' : dJ} {tk tp : Nat → Int32} {tn : Nat → Int64} {o a b m : Nat} (h8 : I' 8 = I 8) (h9 : I' 9 = I 9) (h10 : I' 10 = I 10) (h11 : J' 11 = J 11) (h : OpI I J tk tp tn o a b m) : OpI I' J' tk tp tn o a b m := by
  unfold OpI
  rw [h8, h9, h10, h11]
  exact h
theorem cov_row {I I' : dI} {J J' : dJ} {tk tp : Nat → Int32} {tn : Nat → Int64} {t z : Nat} {Bs : List Nat} (h8 : I' 8 = I 8) (h9 : I' 9 = I 9) (h10 : I' 10 = I 10) (h11 : J' 11 = J 11) (h : Cov I J tk tp tn Bs t z) : Cov I' J' tk tp tn Bs t z := by
  unfold Cov
  rw [h8, h9, h10, h11]
  exact h
/-- what may change in a turn of the builder -/
def BFr (I : dI) (J : dJ) (I' : dI) (J' : dJ) : Prop := (∀ q, q < 6 ∨ 17 < q → I' q = I q) ∧ (∀ q, q ≠ 11 → J' q = J q)
theorem bfr_r (I : dI) (J : dJ) : BFr I J I J := ⟨fun _ _ => rfl, fun _ _ => rfl⟩
theorem bfr_tr {I I1 I2 : dI} {J J1 J2 : dJ} (h : BFr I J I1 J1) (h' : BFr I1 J1 I2 J2) : BFr I J I2 J2 := ⟨fun q a => (h'.1 q a).trans (h.1 q a), fun q a => (h'.2 q a).trans (h.2 q a)⟩
theorem bfr_s {I I1 : dI} {J J1 : dJ} {p k : Nat} {v : Int32} (h : BFr I J I1 J1) (hp : 6 ≤ p ∧ p ≤ 17) : BFr I J (sI I1 p k v) J1 := ⟨fun q a => by rw [sI_ne (by omega)]; exact h.1 q a, h.2⟩
theorem bfr_sf {I I1 I2 : dI} {J J1 J2 : dJ} (h : BFr I J I1 J1) (h' : SFr I1 J1 I2 J2) : BFr I J I2 J2 := ⟨fun q a => (h'.1 q (by omega) (by omega) (by omega) (by omega) (by omega) (by omega) (by omega) (by omega)).trans (h.1 q a), fun q a => (h'.2.2 q a).trans (h.2 q a)⟩
/-- the state, the parts, the open brackets behind a token -/
def Nx (I' : dI) (n st : Nat) (B : List Nat) : Prop := I' 7 5 = nn n ∧ I' 6 6 = nn st ∧ Pil 16 I' B
theorem m76_part {kc n : Nat} {I : dI} {J : dJ} (hc : kc < 1000) (h : kc ≠ 0 ∧ kc ≠ 11 ∧ kc ≠ 13) (h7 : I 7 5 = nn n) : m_76 (nn kc) I J = b_76_20 (nn kc) (sI I 7 5 (nn (n + 1))) J := by
  unfold m_76 b_76_0
  rw [m68_t hc h, Option.bind_some, if_neg (show ¬ nn 1 = 0 by decide), h7, nn_l, nn_add]
  rfl
theorem b76_80 {kc st : Nat} {I : dI} {J : dJ} (hc : kc < 1000) (h : kc ≠ 10 ∧ kc ≠ 12) (h6 : I 6 6 = nn st) (hst : st ≠ 1) (hs : st ≤ 3) : b_76_20 (nn kc) I J = m_80 (nn kc) I J := by
  unfold b_76_20
  rw [m69_f hc h, Option.bind_some, if_pos (show nn 0 = 0 from rfl), h6, if_pos (show ¬ nn st = 1 from ne_nn (k := 1) (by omega) (by omega) hst)]
  exact bind_eta
theorem b76_78 {kc : Nat} {I : dI} {J : dJ} (hc : kc < 1000) (h : kc ≠ 10 ∧ kc ≠ 12) (h6 : I 6 6 = nn 1) : b_76_20 (nn kc) I J = m_78 (nn kc) I J := by
  unfold b_76_20
  rw [m69_f hc h, Option.bind_some, if_pos (show nn 0 = 0 from rfl), h6, if_neg (fun x => x (show nn 1 = 1 from rfl))]
  exact bind_eta
theorem b76_77 {kc : Nat} {I : dI} {J : dJ} (h : kc = 10 ∨ kc = 12) : b_76_20 (nn kc) I J = m_77 (nn kc) I J := by
  unfold b_76_20
  rw [m69_t h, Option.bind_some, if_neg (show ¬ nn 1 = 0 by decide)]
  exact bind_eta
theorem tk_leaf {I : dI} {J : dJ} {tk tp : Nat → Int32} {tn : Nat → Int64} {t n kc z : Nat} {Bs B W O : List Nat} (hn : n < 40) (hk : kc = 3 ∨ kc = 4 ∨ kc = 5) (h : CSt I J tk tp tn t n Bs W O z 0) (hN : Nx I n 0 B) (hl : Leaf (nn kc) (J 18 4) (tk t) (tn t)) : ∃ I' J' , m_76 (nn kc) I J = some (I', J') ∧ BFr I J I' J' ∧ CSt I' J' tk tp tn (t + 1) (n + 1) Bs W (z :: O) (z + 1) 1 ∧ Nx I' (n + 1) 1 B := by
  obtain ⟨c1, c2, c3, c4, c5, c6, c7, c8⟩ := h
  obtain ⟨n1, n2, n3⟩ := hN
  have hly : LyI I J tk tp tn z W O Bs t := by
    rcases c8 with ⟨_, s2⟩ | ⟨s1, _⟩ | ⟨s1, _⟩ | ⟨s1, _⟩
    · exact s2
    · omega
    · omega
    · omega
  obtain ⟨I5, a1, a2, a3, a4, a5, a6, a7, a8, a9, a10⟩ := node_add (k := nn kc) (l := -1) (r := -1) (v := J 18 4) (J := J) (I3 := sI I 7 5 (nn (n + 1))) (z := z) (O' := O) (by rw [sI_nk (by omega)]; exact c3) (by omega) (pil_fr c2 (sI_ne (by omega)) (sI_ne (by omega))) (by omega)
  have row : ∀ q, q ≠ 7 → q ≠ 8 → q ≠ 9 → q ≠ 10 → q ≠ 14 → q ≠ 15 → I5 q = I q := fun q b7 b8 b9 b10 b14 b15 => by rw [a4 q b7 b8 b9 b10 b14 b15, sI_ne b7]
  have hK : ∀ i, i < z → I5 8 i = I 8 i ∧ I5 9 i = I 9 i ∧ I5 10 i = I 10 i ∧ (sJ J 11 z (J 18 4)) 11 i = J 11 i := by
    intro i hi
    obtain ⟨y1, y2, y3, y4⟩ := a10 i hi
    rw [y1, y2, y3, y4, sI_ne (by omega), sI_ne (by omega), sI_ne (by omega)]
    exact ⟨rfl, rfl, rfl, rfl⟩
  have hnew : Opd (I5 8) (I5 9) (I5 10) ((sJ J 11 z (J 18 4)) 11) tk tp tn 1 z t (t + 1) 11 := Or.inl ⟨rfl, rfl, by rw [a7, sJ_eq]; exact hl⟩
  have s8 : ∀ q, q ≠ 6 → (sI I5 6 6 (nn 1)) q = I5 q := fun q hq => sI_ne hq
  refine ⟨sI I5 6 6 (nn 1), sJ J 11 z (J 18 4), ?_, ⟨fun q hq => ?_, fun q hq => sJ_ne hq⟩, ⟨?_, ?_, ?_, by omega, by rw [List.length_cons]; omega, fun x hx => ?_, ?_, Or.inr (Or.inl ⟨rfl, z, O, t, rfl, rfl, ?_, ?_⟩)⟩, ⟨?_, sI_eq, ?_⟩⟩
  · have h80 : m_80 (nn kc) (sI I 7 5 (nn (n + 1))) J = b_80_44 (nn kc) (sI I 7 5 (nn (n + 1))) J := by
      rcases hk with rfl | rfl | rfl <;> rfl
    rw [m76_part (by omega) (by omega) n1, b76_80 (st := 0) (by omega) (by omega) (by rw [sI_ne (by omega)]; exact n2) (by omega) (by omega), h80]
    unfold b_80_44
    rw [a1, Option.bind_some]
    dsimp only
    rw [a2, Option.bind_some]
    rfl
  · rw [sI_ne (by omega), row q (by omega) (by omega) (by omega) (by omega) (by omega) (by omega)]
  · exact pil_fr c1 (by rw [s8 12 (by omega), row 12 (by omega) (by omega) (by omega) (by omega) (by omega) (by omega)]) (by rw [s8 (12 + 1) (by omega), row (12 + 1) (by omega) (by omega) (by omega) (by omega) (by omega) (by omega)])
  · exact pil_fr a3 (s8 14 (by omega)) (s8 (14 + 1) (by omega))
  · rw [s8 7 (by omega)]; exact a6
  · rcases List.mem_cons.mp hx with e | e
    · omega
    · have := c6 x e; omega
  · refine cov_row (s8 8 (by omega)) (s8 9 (by omega)) (s8 10 (by omega)) rfl ?_
    intro i hi
    by_cases hi2 : i = z
    · subst hi2
      refine ⟨_, _, _, _, Nat.le_refl _, fun x hx => Or.inl ?_, hnew⟩
      obtain ⟨d, hd⟩ := hly
      exact lay_bs _ _ _ _ _ hd x hx
    · obtain ⟨q2, a2', b2, m2, y1, y1', y2⟩ := c7 i (by omega)
      exact ⟨q2, a2', b2, m2, by omega, y1', opd_keep hK (by omega) y2⟩
  · exact opI_row (s8 8 (by omega)) (s8 9 (by omega)) (s8 10 (by omega)) rfl ⟨1, hnew⟩
  · refine lyI_row (s8 8 (by omega)) (s8 9 (by omega)) (s8 10 (by omega)) rfl ?_
    obtain ⟨d, hd⟩ := hly
    exact ⟨d, lay_move (by omega) hK d W O Bs t (fun _ _ => ⟨rfl, rfl, rfl⟩) hd⟩
  · rw [s8 7 (by omega), a5 5 (by omega), sI_eq]
  · exact pil_fr n3 (by rw [s8 16 (by omega), row 16 (by omega) (by omega) (by omega) (by omega) (by omega) (by omega)]) (by rw [s8 (16 + 1) (by omega), row (16 + 1) (by omega) (by omega) (by omega) (by omega) (by omega) (by omega)])
