/-! Piles, and what is settled. -/
def pil (g : Nat → Int32) : List Nat → Prop
  | [] => True
  | x :: l => g l.length = nn x ∧ pil g l
theorem pil_eq {g g' : Nat → Int32} : ∀ l : List Nat, (∀ i, i < l.length → g' i = g i) → pil g l → pil g' l := by
  intro l
  induction l with
  | nil => intro _ _; exact True.intro
  | cons x l ih =>
    intro h hp
    refine ⟨?_, ih (fun i hi => h i (by rw [List.length_cons]; omega)) hp.2⟩
    rw [h l.length (by rw [List.length_cons]; omega)]
    exact hp.1
def Pil (p : Nat) (I : dI) (l : List Nat) : Prop := I p 1 = nn l.length ∧ pil (I (p + 1)) l
theorem pil_push {p c x : Nat} {l : List Nat} {I : dI} (J : dJ) (h : Pil p I l) (hc : l.length < c) (hc2 : c < 1000) : m_75 p c (nn x) I J = some (sI (sI I (p + 1) l.length (nn x)) p 1 (nn (l.length + 1)), J) ∧ Pil p (sI (sI I (p + 1) l.length (nn x)) p 1 (nn (l.length + 1))) (x :: l) := by
  obtain ⟨h1, h2⟩ := h
  refine ⟨?_, sI_eq, ?_, ?_⟩
  · simp (disch := omega) only [m_75, b_75_0, h1, sI_ne, nn_l, nn_o, nn_lt, nn_le, nn_eq, nn_cl, nn_add, nn_sub, if_pos, if_neg, lt_, Option.bind_some, ↓reduceIte, not_true_eq_false, not_false_eq_true, Nat.add_sub_cancel, Nat.add_zero, Nat.reduceSub, Nat.reduceAdd, Nat.reduceMul, Nat.reduceEqDiff, Nat.reduceLT, Nat.reduceLeDiff, or_false, false_or, Nat.not_lt_zero]
  · rw [sI_ne (by omega), sI_eq]
  · refine pil_eq l (fun i hi => ?_) h2
    rw [sI_ne (by omega), sI_nk (by omega)]
theorem pil_pop {p c x : Nat} {l : List Nat} {I : dI} (J : dJ) (h : Pil p I (x :: l)) (hc : l.length < c) (hc2 : c < 1000) : m_73 p c I J = some (nn x, sI I p 1 (nn l.length), J) ∧ Pil p (sI I p 1 (nn l.length)) l := by
  obtain ⟨h1, h2, h3⟩ := h
  rw [List.length_cons] at h1
  refine ⟨?_, sI_eq, ?_⟩
  · simp (disch := omega) only [m_73, b_73_0, h1, h2, sI_ne, sI_eq, nn_l, nn_o, nn_lt, nn_le, nn_eq, nn_cl, nn_add, nn_sub, if_pos, if_neg, lt_, Option.bind_some, ↓reduceIte, not_true_eq_false, not_false_eq_true, Nat.add_sub_cancel, Nat.add_zero, Nat.reduceSub, Nat.reduceAdd, Nat.reduceMul, Nat.reduceEqDiff, Nat.reduceLT, Nat.reduceLeDiff, or_false, false_or, Nat.not_lt_zero]
  · rw [sI_ne (by omega)]
    exact h3
theorem pil_top {p c x : Nat} {l : List Nat} {I : dI} (J : dJ) (h : Pil p I (x :: l)) (hc : l.length < c) (hc2 : c < 1000) : m_66 p c I J = some (nn x) := by
  obtain ⟨h1, h2, h3⟩ := h
  rw [List.length_cons] at h1
  simp (disch := omega) only [m_66, b_66_0, h1, h2, nn_l, nn_o, nn_lt, nn_le, nn_eq, nn_cl, nn_add, nn_sub, if_pos, if_neg, lt_, Option.bind_some, ↓reduceIte, not_true_eq_false, not_false_eq_true, Nat.add_sub_cancel, Nat.add_zero, Nat.reduceSub, Nat.reduceAdd, Nat.reduceMul, Nat.reduceEqDiff, Nat.reduceLT, Nat.reduceLeDiff, or_false, false_or, Nat.not_lt_zero]
theorem pil_none {p c : Nat} {I : dI} (J : dJ) (h : Pil p I []) : m_66 p c I J = some (-(nn 1)) := by
  have h1 : I p 1 = nn 0 := h.1
  simp (disch := omega) only [m_66, b_66_0, h1, nn_l, nn_o, nn_lt, nn_le, nn_eq, nn_cl, nn_add, nn_sub, if_pos, if_neg, lt_, Option.bind_some, ↓reduceIte, not_true_eq_false, not_false_eq_true, Nat.add_sub_cancel, Nat.add_zero, Nat.reduceSub, Nat.reduceAdd, Nat.reduceMul, Nat.reduceEqDiff, Nat.reduceLT, Nat.reduceLeDiff, or_false, false_or, Nat.not_lt_zero]
theorem pil_fr {p : Nat} {l : List Nat} {I I' : dI} (h : Pil p I l) (h1 : I' p = I p) (h2 : I' (p + 1) = I (p + 1)) : Pil p I' l := by
  unfold Pil
  rw [h1, h2]
  exact h
def str (w : Nat) : Nat := if w = 14 ∨ w = 15 ∨ w = 35 then 10 else if 16 ≤ w ∧ w ≤ 33 then rk (w - 6) + 1 else 0
theorem str_le (w : Nat) : str w ≤ 10 := by
  unfold str
  split
  · omega
  · split
    · have := rk_le (w - 6); omega
    · omega
theorem str_b {κ : Nat} (h1 : 10 ≤ κ) (h2 : κ ≤ 27) : str (κ + 6) = rk κ + 1 := by
  unfold str
  rw [if_neg (by omega), if_pos (by omega), Nat.add_sub_cancel]
theorem str_p {w : Nat} (h : w = 14 ∨ w = 15 ∨ w = 35) : str w = 10 := if_pos h
theorem str_0 {w : Nat} (h : w < 14 ∨ w = 34) : str w = 0 := by
  unfold str
  rw [if_neg (by omega), if_neg (by omega)]
theorem m71_eq {c : Nat} (hc : c < 1000) (I : dI) (J : dJ) : m_71 (nn c) I J = some (nn (str c)) := by
  by_cases h : c = 14 ∨ c = 15 ∨ c = 16 ∨ c = 17 ∨ c = 18 ∨ c = 19 ∨ c = 20 ∨ c = 21 ∨ c = 22 ∨ c = 23 ∨ c = 24 ∨ c = 25 ∨ c = 26 ∨ c = 27 ∨ c = 28 ∨ c = 29 ∨ c = 30 ∨ c = 31 ∨ c = 32 ∨ c = 33 ∨ c = 35
  · rcases h with h | h | h | h | h | h | h | h | h | h | h | h | h | h | h | h | h | h | h | h | h <;> subst h <;> rfl
  · unfold m_71 b_71_0 str
    rw [if_neg (show ¬ nn c = 14 from ne_nn (k := 14) hc (by omega) (by omega)), if_neg (show ¬ nn c = 15 from ne_nn (k := 15) hc (by omega) (by omega)), if_neg (show ¬ nn c = 16 from ne_nn (k := 16) hc (by omega) (by omega)), if_neg (show ¬ nn c = 17 from ne_nn (k := 17) hc (by omega) (by omega)), if_neg (show ¬ nn c = 18 from ne_nn (k := 18) hc (by omega) (by omega)), if_neg (show ¬ nn c = 19 from ne_nn (k := 19) hc (by omega) (by omega)), if_neg (show ¬ nn c = 20 from ne_nn (k := 20) hc (by omega) (by omega)), if_neg (show ¬ nn c = 21 from ne_nn (k := 21) hc (by omega) (by omega)), if_neg (show ¬ nn c = 22 from ne_nn (k := 22) hc (by omega) (by omega)), if_neg (show ¬ nn c = 23 from ne_nn (k := 23) hc (by omega) (by omega)), if_neg (show ¬ nn c = 24 from ne_nn (k := 24) hc (by omega) (by omega)), if_neg (show ¬ nn c = 25 from ne_nn (k := 25) hc (by omega) (by omega)), if_neg (show ¬ nn c = 26 from ne_nn (k := 26) hc (by omega) (by omega)), if_neg (show ¬ nn c = 27 from ne_nn (k := 27) hc (by omega) (by omega)), if_neg (show ¬ nn c = 28 from ne_nn (k := 28) hc (by omega) (by omega)), if_neg (show ¬ nn c = 29 from ne_nn (k := 29) hc (by omega) (by omega)), if_neg (show ¬ nn c = 30 from ne_nn (k := 30) hc (by omega) (by omega)), if_neg (show ¬ nn c = 31 from ne_nn (k := 31) hc (by omega) (by omega)), if_neg (show ¬ nn c = 32 from ne_nn (k := 32) hc (by omega) (by omega)), if_neg (show ¬ nn c = 33 from ne_nn (k := 33) hc (by omega) (by omega)), if_neg (show ¬ nn c = 35 from ne_nn (k := 35) hc (by omega) (by omega))]
    rw [if_neg (by omega), if_neg (by omega)]
    rfl
theorem m71_m1 (I : dI) (J : dJ) : m_71 (-(nn 1)) I J = some (nn 0) := rfl
def topS (W : List Nat) : Nat := match W with
  | [] => 0
  | w :: _ => str w
def cnt (W : List Nat) : Nat := match W with
  | [] => 0
  | w :: W => (if w = 10 ∨ w = 12 then 0 else 1) + cnt W
def Lay (K L R : Nat → Int32) (V : Nat → Int64) (tk tp : Nat → Int32) (tn : Nat → Int64) (z : Nat) : Nat → List Nat → List Nat → List Nat → Nat → Prop
  | 0, W, O, Bs, e => W = [] ∧ O = [] ∧ Bs = [] ∧ e = 0
  | d + 1, W, O, Bs, e =>
    (∃ s κ o W' O' a q m, W = (κ + 6) :: W' ∧ O = o :: O' ∧ e = s + 1 ∧ 10 ≤ κ ∧ κ ≤ 27 ∧ tk s = nn κ ∧ o < z ∧ Opd K L R V tk tp tn q o a s m ∧ rk κ + 1 ≤ m ∧ topS W' < rk κ + 1 ∧ Lay K L R V tk tp tn z d W' O' Bs a) ∨
    (∃ s w W', W = w :: W' ∧ e = s + 1 ∧ Pref (nn w) (tk s) ∧ (w = 14 ∨ w = 15 ∨ w = 35) ∧ Lay K L R V tk tp tn z d W' O Bs s) ∨
    (∃ s W' Bs', W = 10 :: W' ∧ Bs = s :: Bs' ∧ e = s + 1 ∧ tk s = nn 30 ∧ Lay K L R V tk tp tn z d W' O Bs' s) ∨
    (∃ s W' Bs', W = 12 :: 34 :: W' ∧ Bs = s :: Bs' ∧ e = s + 1 ∧ tk s = nn 32 ∧ Lay K L R V tk tp tn z d W' O Bs' s) ∨
    (∃ s w κ W' Bs', W = w :: κ :: W' ∧ Bs = (s + 1) :: Bs' ∧ e = s + 2 ∧ 6 ≤ κ ∧ κ ≤ 9 ∧ tk s = nn κ ∧ ((w = 10 ∧ tk (s + 1) = nn 30) ∨ (w = 12 ∧ tk (s + 1) = nn 32)) ∧ Lay K L R V tk tp tn z d W' O Bs' s)
theorem lay_move {K L R K' L' R' : Nat → Int32} {V V' : Nat → Int64} {tk tp tk' tp' : Nat → Int32} {tn tn' : Nat → Int64} {z z' : Nat} (hz : z ≤ z') (hK : ∀ i, i < z → K' i = K i ∧ L' i = L i ∧ R' i = R i ∧ V' i = V i) : ∀ d W O Bs e, (∀ i, i < e → tk' i = tk i ∧ tp' i = tp i ∧ tn' i = tn i) → Lay K L R V tk tp tn z d W O Bs e → Lay K' L' R' V' tk' tp' tn' z' d W O Bs e := by
  intro d
  induction d with
  | zero => intro W O Bs e _ h; exact h
  | succ d ih =>
    intro W O Bs e ht h
    rcases h with ⟨s, κ, o, W', O', a, q, m, h1, h2, h3, h4, h5, h6, h7, h8, h9, h10, h11⟩ | ⟨s, w, W', h1, h2, h3, h4, h5⟩ | ⟨s, W', Bs', h1, h2, h3, h4, h5⟩ | ⟨s, W', Bs', h1, h2, h3, h4, h5⟩ | ⟨s, w, κ, W', Bs', h1, h2, h3, h4, h5, h6, h7, h8⟩
    · have hab := opd_lt h8
      have hm := opd_move (K' := K') (L' := L') (R' := R') (V' := V') (tk' := tk') (tp' := tp') (tn' := tn') 0 q o a s m (fun i hi => hK i (by omega)) (fun i u v => by
        obtain ⟨x1, x2, x3⟩ := ht i (by omega)
        rw [Nat.zero_add]
        refine ⟨x1, ?_, x3⟩
        rw [x2]
        exact (Int32.zero_add (tp i)).symm) h8
      rw [Nat.zero_add, Nat.zero_add] at hm
      exact Or.inl ⟨s, κ, o, W', O', a, q, m, h1, h2, h3, h4, h5, by rw [(ht s (by omega)).1]; exact h6, by omega, hm, h9, h10, ih W' O' Bs a (fun i hi => ht i (by omega)) h11⟩
    · exact Or.inr (Or.inl ⟨s, w, W', h1, h2, by rw [(ht s (by omega)).1]; exact h3, h4, ih W' O Bs s (fun i hi => ht i (by omega)) h5⟩)
    · exact Or.inr (Or.inr (Or.inl ⟨s, W', Bs', h1, h2, h3, by rw [(ht s (by omega)).1]; exact h4, ih W' O Bs' s (fun i hi => ht i (by omega)) h5⟩))
    · exact Or.inr (Or.inr (Or.inr (Or.inl ⟨s, W', Bs', h1, h2, h3, by rw [(ht s (by omega)).1]; exact h4, ih W' O Bs' s (fun i hi => ht i (by omega)) h5⟩)))
    · exact Or.inr (Or.inr (Or.inr (Or.inr ⟨s, w, κ, W', Bs', h1, h2, h3, h4, h5, by rw [(ht s (by omega)).1]; exact h6, by rw [(ht (s + 1) (by omega)).1]; exact h7, ih W' O Bs' s (fun i hi => ht i (by omega)) h8⟩)))
theorem lay_len {K L R : Nat → Int32} {V : Nat → Int64} {tk tp : Nat → Int32} {tn : Nat → Int64} {z : Nat} : ∀ d W O Bs e, Lay K L R V tk tp tn z d W O Bs e → W.length = cnt W + Bs.length := by
  intro d
  induction d with
  | zero =>
    intro W O Bs e h
    obtain ⟨h1, _, h3, _⟩ := h
    subst h1
    subst h3
    rfl
  | succ d ih =>
    intro W O Bs e h
    rcases h with ⟨s, κ, o, W', O', a, q, m, h1, h2, h3, h4, h5, h6, h7, h8, h9, h10, h11⟩ | ⟨s, w, W', h1, h2, h3, h4, h5⟩ | ⟨s, W', Bs', h1, h2, h3, h4, h5⟩ | ⟨s, W', Bs', h1, h2, h3, h4, h5⟩ | ⟨s, w, κ, W', Bs', h1, h2, h3, h4, h5, h6, h7, h8⟩
    · have := ih _ _ _ _ h11
      subst h1
      simp only [cnt, List.length_cons]
      rw [if_neg (by omega)]
      omega
    · have := ih _ _ _ _ h5
      subst h1
      simp only [cnt, List.length_cons]
      rw [if_neg (by omega)]
      omega
    · have := ih _ _ _ _ h5
      subst h1
      subst h2
      simp only [cnt, List.length_cons]
      rw [if_pos (by decide)]
      omega
    · have := ih _ _ _ _ h5
      subst h1
      subst h2
      simp only [cnt, List.length_cons]
      rw [if_pos (by decide), if_neg (by decide)]
      omega
    · have := ih _ _ _ _ h8
      subst h1
      subst h2
      simp only [cnt, List.length_cons]
      rw [if_pos (by omega), if_neg (by omega)]
      omega
theorem lay_bs {K L R : Nat → Int32} {V : Nat → Int64} {tk tp : Nat → Int32} {tn : Nat → Int64} {z : Nat} : ∀ d W O Bs e, Lay K L R V tk tp tn z d W O Bs e → ∀ x, x ∈ Bs → x < e := by
  intro d
  induction d with
  | zero =>
    intro W O Bs e h x hx
    obtain ⟨_, _, h3, _⟩ := h
    subst h3
    cases hx
  | succ d ih =>
    intro W O Bs e h x hx
    rcases h with ⟨s, κ, o, W', O', a, q, m, h1, h2, h3, h4, h5, h6, h7, h8, h9, h10, h11⟩ | ⟨s, w, W', h1, h2, h3, h4, h5⟩ | ⟨s, W', Bs', h1, h2, h3, h4, h5⟩ | ⟨s, W', Bs', h1, h2, h3, h4, h5⟩ | ⟨s, w, κ, W', Bs', h1, h2, h3, h4, h5, h6, h7, h8⟩
    · have q1 := ih _ _ _ _ h11 x hx
      have q2 := opd_lt h8
      omega
    · have q1 := ih _ _ _ _ h5 x hx
      omega
    · subst h2
      rcases List.mem_cons.mp hx with e1 | e1
      · omega
      · have q1 := ih _ _ _ _ h5 x e1
        omega
    · subst h2
      rcases List.mem_cons.mp hx with e1 | e1
      · omega
      · have q1 := ih _ _ _ _ h5 x e1
        omega
    · subst h2
      rcases List.mem_cons.mp hx with e1 | e1
      · omega
      · have q1 := ih _ _ _ _ h8 x e1
        omega
def adI (I : dI) (z : Nat) (k l r : Int32) : dI := sI (sI (sI (sI I 8 z k) 9 z l) 10 z r) 7 4 (nn (z + 1))
theorem m74_eq {z : Nat} {k l r : Int32} {v : Int64} {I : dI} {J : dJ} (h : I 7 4 = nn z) (hz : z < 40) : m_74 7 k l r v I J = some (nn z, adI I z k l r, sJ J 11 z v) := by
  simp (disch := omega) only [m_74, b_74_0, h, adI, sI_ne, nn_l, nn_o, nn_lt, nn_le, nn_eq, nn_cl, nn_add, nn_sub, if_pos, if_neg, lt_, Option.bind_some, ↓reduceIte, not_true_eq_false, not_false_eq_true, Nat.add_sub_cancel, Nat.add_zero, Nat.reduceSub, Nat.reduceAdd, Nat.reduceMul, Nat.reduceEqDiff, Nat.reduceLT, Nat.reduceLeDiff, or_false, false_or, Nat.not_lt_zero]
theorem ad_ne {I : dI} {z q : Nat} {k l r : Int32} (h7 : q ≠ 7) (h8 : q ≠ 8) (h9 : q ≠ 9) (h10 : q ≠ 10) : adI I z k l r q = I q := by
  rw [adI, sI_ne h7, sI_ne h10, sI_ne h9, sI_ne h8]
