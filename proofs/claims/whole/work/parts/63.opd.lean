/-! Operands: a node of the class's tree and a row of the reference's tokens. -/
def rk (k : Nat) : Nat := if k = 10 then 0 else if k = 11 then 1 else if k < 18 then 2 else if k = 18 then 3 else if k = 19 then 4 else if k = 20 then 5 else if k < 23 then 6 else if k < 25 then 7 else 8
theorem rk_le (k : Nat) : rk k ≤ 8 := by
  unfold rk
  repeat' split
  all_goals omega
theorem m124_eq {k : Nat} (h1 : 10 ≤ k) (h2 : k ≤ 27) (I : dI) (J : dJ) : m_124 (nn k) I J = some (nn (rk k)) := by
  have h : k = 10 ∨ k = 11 ∨ k = 12 ∨ k = 13 ∨ k = 14 ∨ k = 15 ∨ k = 16 ∨ k = 17 ∨ k = 18 ∨ k = 19 ∨ k = 20 ∨ k = 21 ∨ k = 22 ∨ k = 23 ∨ k = 24 ∨ k = 25 ∨ k = 26 ∨ k = 27 := by omega
  rcases h with h | h | h | h | h | h | h | h | h | h | h | h | h | h | h | h | h | h <;> subst h <;> simp (disch := omega) only [m_124, b_124_0, nn_l, nn_o, nn_lt, nn_le, nn_eq, nn_cl, nn_add, nn_sub, if_pos, if_neg, lt_, Option.bind_some, ↓reduceIte, not_true_eq_false, not_false_eq_true, Nat.add_sub_cancel, Nat.add_zero, Nat.reduceSub, Nat.reduceAdd, Nat.reduceMul, Nat.reduceEqDiff, Nat.reduceLT, Nat.reduceLeDiff, or_false, false_or, Nat.not_lt_zero] <;> rfl
def Leaf (k : Int32) (v : Int64) (t : Int32) (w : Int64) : Prop := (k = nn 3 ∧ t = nn 1 ∧ v = w) ∨ (k = nn 4 ∧ t = nn 2 ∧ v = w ∧ ∃ z, z < 32 ∧ w = Int64.ofNat z) ∨ (k = nn 4 ∧ t = nn 3 ∧ v = Int64.ofNat 32) ∨ (k = nn 4 ∧ t = nn 4 ∧ v = Int64.ofNat 33) ∨ (k = nn 5 ∧ t = nn 5)
def Pref (k t : Int32) : Prop := (k = nn 35 ∧ t = nn 24) ∨ (k = nn 14 ∧ t = nn 28) ∨ (k = nn 15 ∧ t = nn 29)
def Clo (t : Int32) : Prop := t = nn 31 ∨ t = nn 33
def Opd (K L R : Nat → Int32) (V : Nat → Int64) (tk tp : Nat → Int32) (tn : Nat → Int64) : Nat → Nat → Nat → Nat → Nat → Prop
  | 0, _, _, _, _ => False
  | q + 1, n, a, b, m =>
    (b = a + 1 ∧ m = 11 ∧ Leaf (K n) (V n) (tk a) (tn a)) ∨
    (m = 11 ∧ tk a = nn 30 ∧ tp a = nn (b - 1) ∧ a + 2 < b ∧ Clo (tk (b - 1)) ∧ ∃ m', Opd K L R V tk tp tn q n (a + 1) (b - 1) m') ∨
    (m = 10 ∧ ∃ c m', c < n ∧ L n = nn c ∧ Pref (K n) (tk a) ∧ a + 1 < b ∧ 10 ≤ m' ∧ Opd K L R V tk tp tn q c (a + 1) b m') ∨
    (m = 11 ∧ K n = nn 34 ∧ tk a = nn 32 ∧ tp a = nn (b - 1) ∧ a + 2 < b ∧ Clo (tk (b - 1)) ∧ ∃ c m', c < n ∧ L n = nn c ∧ Opd K L R V tk tp tn q c (a + 1) (b - 1) m') ∨
    (m = 11 ∧ (∃ κ, 6 ≤ κ ∧ κ ≤ 9 ∧ K n = nn κ ∧ tk a = nn κ) ∧ (tk (a + 1) = nn 30 ∨ tk (a + 1) = nn 32) ∧ tp (a + 1) = nn (b - 1) ∧ a + 3 < b ∧ Clo (tk (b - 1)) ∧ ∃ c m', c < n ∧ L n = nn c ∧ Opd K L R V tk tp tn q c (a + 2) (b - 1) m') ∨
    (∃ s κ c d m1 m2, a < s ∧ s + 1 < b ∧ 10 ≤ κ ∧ κ ≤ 27 ∧ tk s = nn κ ∧ K n = nn (κ + 6) ∧ c < n ∧ d < n ∧ L n = nn c ∧ R n = nn d ∧ m = rk κ + 1 ∧ m ≤ m1 ∧ m < m2 ∧ Opd K L R V tk tp tn q c a s m1 ∧ Opd K L R V tk tp tn q d (s + 1) b m2)
theorem opd_lt {K L R : Nat → Int32} {V : Nat → Int64} {tk tp : Nat → Int32} {tn : Nat → Int64} {q n a b m : Nat} (h : Opd K L R V tk tp tn q n a b m) : a < b := by
  cases q with
  | zero => exact h.elim
  | succ q =>
    rcases h with ⟨h, _⟩ | ⟨_, _, _, h, _⟩ | ⟨_, c, m', _, _, _, h, _⟩ | ⟨_, _, _, _, h, _⟩ | ⟨_, _, _, _, h, _⟩ | ⟨s, κ, c, d, m1, m2, h, h2, _⟩ <;> omega
theorem opd_m {K L R : Nat → Int32} {V : Nat → Int64} {tk tp : Nat → Int32} {tn : Nat → Int64} {q n a b m : Nat} (h : Opd K L R V tk tp tn q n a b m) : 1 ≤ m ∧ m ≤ 11 := by
  cases q with
  | zero => exact h.elim
  | succ q =>
    rcases h with ⟨_, h, _⟩ | ⟨h, _⟩ | ⟨h, _⟩ | ⟨h, _⟩ | ⟨h, _⟩ | ⟨s, κ, c, d, m1, m2, _, _, _, _, _, _, _, _, _, _, h, _⟩
    · omega
    · omega
    · omega
    · omega
    · omega
    · have := rk_le κ
      omega
theorem opd_up {K L R : Nat → Int32} {V : Nat → Int64} {tk tp : Nat → Int32} {tn : Nat → Int64} : ∀ q n a b m, Opd K L R V tk tp tn q n a b m → Opd K L R V tk tp tn (q + 1) n a b m := by
  intro q
  induction q with
  | zero => intro n a b m h; exact h.elim
  | succ q ih =>
    intro n a b m h
    rcases h with h | ⟨h1, h2, h3, h4, h5, m', h6⟩ | ⟨h1, c, m', h2, h3, h4, h5, h6, h7⟩ | ⟨h1, h2, h3, h4, h5, h6, c, m', h7, h8, h9⟩ | ⟨h1, h2, h3, h4, h5, h6, c, m', h7, h8, h9⟩ | ⟨s, κ, c, d, m1, m2, h1, h2, h3, h4, h5, h6, h7, h8, h9, h10, h11, h12, h13, h14, h15⟩
    · exact Or.inl h
    · exact Or.inr (Or.inl ⟨h1, h2, h3, h4, h5, m', ih _ _ _ _ h6⟩)
    · exact Or.inr (Or.inr (Or.inl ⟨h1, c, m', h2, h3, h4, h5, h6, ih _ _ _ _ h7⟩))
    · exact Or.inr (Or.inr (Or.inr (Or.inl ⟨h1, h2, h3, h4, h5, h6, c, m', h7, h8, ih _ _ _ _ h9⟩)))
    · exact Or.inr (Or.inr (Or.inr (Or.inr (Or.inl ⟨h1, h2, h3, h4, h5, h6, c, m', h7, h8, ih _ _ _ _ h9⟩))))
    · exact Or.inr (Or.inr (Or.inr (Or.inr (Or.inr ⟨s, κ, c, d, m1, m2, h1, h2, h3, h4, h5, h6, h7, h8, h9, h10, h11, h12, h13, ih _ _ _ _ h14, ih _ _ _ _ h15⟩))))
theorem opd_mono {K L R : Nat → Int32} {V : Nat → Int64} {tk tp : Nat → Int32} {tn : Nat → Int64} {q q' n a b m : Nat} (hq : q ≤ q') (h : Opd K L R V tk tp tn q n a b m) : Opd K L R V tk tp tn q' n a b m := by
  induction q' with
  | zero =>
    have e : q = 0 := by omega
    subst e
    exact h
  | succ q' ih =>
    by_cases e : q = q' + 1
    · subst e
      exact h
    · exact opd_up _ _ _ _ _ (ih (by omega))
theorem opd_move {K L R K' L' R' : Nat → Int32} {V V' : Nat → Int64} {tk tp tk' tp' : Nat → Int32} {tn tn' : Nat → Int64} (o : Nat) : ∀ q n a b m, (∀ i, i ≤ n → K' i = K i ∧ L' i = L i ∧ R' i = R i ∧ V' i = V i) → (∀ i, a ≤ i → i < b → tk' (o + i) = tk i ∧ tp' (o + i) = nn o + tp i ∧ tn' (o + i) = tn i) → Opd K L R V tk tp tn q n a b m → Opd K' L' R' V' tk' tp' tn' q n (o + a) (o + b) m := by
  intro q
  induction q with
  | zero => intro n a b m _ _ h; exact h.elim
  | succ q ih =>
    intro n a b m hn ht h
    obtain ⟨eK, eL, eR, eV⟩ := hn n (Nat.le_refl n)
    have hab := opd_lt h
    obtain ⟨ta, pa, na⟩ := ht a (Nat.le_refl a) hab
    obtain ⟨tz, _, _⟩ := ht (b - 1) (by omega) (by omega)
    have ez : o + b - 1 = o + (b - 1) := by omega
    rcases h with ⟨h1, h2, h3⟩ | ⟨h1, h2, h3, h4, h5, m', h6⟩ | ⟨h1, c, m', h2, h3, h4, h5, h6, h7⟩ | ⟨h1, h2, h3, h4, h5, h6, c, m', h7, h8, h9⟩ | ⟨h1, ⟨κ, k1, k2, k3, k4⟩, h3, h4, h5, h6, c, m', h7, h8, h9⟩ | ⟨s, κ, c, d, m1, m2, h1, h2, h3, h4, h5, h6, h7, h8, h9, h10, h11, h12, h13, h14, h15⟩
    · refine Or.inl ⟨by omega, h2, ?_⟩
      rw [eK, eV, ta, na]
      exact h3
    · refine Or.inr (Or.inl ⟨h1, by rw [ta]; exact h2, by rw [pa, h3, nn_add, ez], by omega, by rw [ez, tz]; exact h5, m', ?_⟩)
      rw [ez]
      exact ih n (a + 1) (b - 1) m' hn (fun i u v => ht i (by omega) (by omega)) h6
    · refine Or.inr (Or.inr (Or.inl ⟨h1, c, m', h2, by rw [eL]; exact h3, by rw [eK, ta]; exact h4, by omega, h6, ?_⟩))
      exact ih c (a + 1) b m' (fun i u => hn i (by omega)) (fun i u v => ht i (by omega) (by omega)) h7
    · refine Or.inr (Or.inr (Or.inr (Or.inl ⟨h1, by rw [eK]; exact h2, by rw [ta]; exact h3, by rw [pa, h4, nn_add, ez], by omega, by rw [ez, tz]; exact h6, c, m', h7, by rw [eL]; exact h8, ?_⟩)))
      rw [ez]
      exact ih c (a + 1) (b - 1) m' (fun i u => hn i (by omega)) (fun i u v => ht i (by omega) (by omega)) h9
    · obtain ⟨tb, pb, _⟩ := ht (a + 1) (by omega) (by omega)
      refine Or.inr (Or.inr (Or.inr (Or.inr (Or.inl ⟨h1, ⟨κ, k1, k2, by rw [eK]; exact k3, by rw [ta]; exact k4⟩, ?_, ?_, by omega, by rw [ez, tz]; exact h6, c, m', h7, by rw [eL]; exact h8, ?_⟩))))
      · rw [show o + a + 1 = o + (a + 1) by omega, tb]
        exact h3
      · rw [show o + a + 1 = o + (a + 1) by omega, pb, h4, nn_add, ez]
      · rw [ez]
        exact ih c (a + 2) (b - 1) m' (fun i u => hn i (by omega)) (fun i u v => ht i (by omega) (by omega)) h9
    · obtain ⟨ts, _, _⟩ := ht s (by omega) (by omega)
      refine Or.inr (Or.inr (Or.inr (Or.inr (Or.inr ⟨o + s, κ, c, d, m1, m2, by omega, by omega, h3, h4, by rw [ts]; exact h5, by rw [eK]; exact h6, h7, h8, by rw [eL]; exact h9, by rw [eR]; exact h10, h11, h12, h13, ?_, ?_⟩))))
      · exact ih c a s m1 (fun i u => hn i (by omega)) (fun i u v => ht i (by omega) (by omega)) h14
      · exact ih d (s + 1) b m2 (fun i u => hn i (by omega)) (fun i u v => ht i (by omega) (by omega)) h15
theorem opd_open {K L R : Nat → Int32} {V : Nat → Int64} {tk tp : Nat → Int32} {tn : Nat → Int64} : ∀ q n a b m, Opd K L R V tk tp tn q n a b m → tk a = nn 30 → ∃ z, tp a = nn z ∧ a < z ∧ z < b := by
  intro q
  induction q with
  | zero => intro n a b m h; exact h.elim
  | succ q ih =>
    intro n a b m h ho
    rcases h with ⟨h1, h2, h3⟩ | ⟨h1, h2, h3, h4, h5, m', h6⟩ | ⟨h1, c, m', h2, h3, h4, h5, h6, h7⟩ | ⟨h1, h2, h3, h4, h5, h6, c, m', h7, h8, h9⟩ | ⟨h1, ⟨κ, k1, k2, k3, k4⟩, h3, h4, h5, h6, c, m', h7, h8, h9⟩ | ⟨s, κ, c, d, m1, m2, h1, h2, h3, h4, h5, h6, h7, h8, h9, h10, h11, h12, h13, h14, h15⟩
    · rw [ho] at h3
      rcases h3 with ⟨_, e, _⟩ | ⟨_, e, _⟩ | ⟨_, e, _⟩ | ⟨_, e, _⟩ | ⟨_, e⟩ <;> exact absurd e (by decide)
    · exact ⟨b - 1, h3, by omega, by omega⟩
    · rw [ho] at h4
      rcases h4 with ⟨_, e⟩ | ⟨_, e⟩ | ⟨_, e⟩ <;> exact absurd e (by decide)
    · rw [ho] at h3
      exact absurd h3 (by decide)
    · rw [ho, nn_eq (by omega) (by omega)] at k4
      omega
    · obtain ⟨z, z1, z2, z3⟩ := ih c a s m1 h14 ho
      exact ⟨z, z1, z2, by omega⟩
/-! The sign that binds least. -/
def Fnd (tk : Nat → Int32) (g : Int32) (r : Nat) : Prop := (g = -(nn 1) ∧ r = 20) ∨ ∃ z k, g = nn z ∧ z < 960 ∧ tk z = nn k ∧ 10 ≤ k ∧ k ≤ 27 ∧ r = rk k + 1
def Ls (tk tp : Nat → Int32) (t : Nat) (x : Nat) (g : Int32) (e : Nat) (a : Nat) (g' : Int32) (e' : Nat) (a' : Nat) : Prop := ∀ fu I J, I 105 = tk → I 106 = tp → b_123_8 (fu + t) (nn x) g (nn e) (nn a) I J = b_123_8 fu (nn x) g' (nn e') (nn a') I J
theorem ls_trans {tk tp : Nat → Int32} {t u x : Nat} {g g' g'' : Int32} {e a e' a' e'' a'' : Nat} (h1 : Ls tk tp t x g e a g' e' a') (h2 : Ls tk tp u x g' e' a' g'' e'' a'') : Ls tk tp (u + t) x g e a g'' e'' a'' := by
  intro fu I J hk hp
  rw [show fu + (u + t) = fu + u + t by omega, h1 (fu + u) I J hk hp, h2 fu I J hk hp]
theorem ls_skip {tk tp : Nat → Int32} {x a e z : Nat} {g : Int32} (hx : x ≤ 960) (ha : a < x) (hk : tk a = nn 30 ∨ tk a = nn 32) (hp : tp a = nn z) : Ls tk tp 1 x g e a g 1 (z + 1) := by
  intro fu I J ek ep
  rw [← ek] at hk
  rw [← ep] at hp
  rcases hk with hk | hk <;> simp (disch := omega) only [b_123_8, b_123_37, b_123_103, hk, hp, nn_l, nn_o, nn_lt, nn_le, nn_eq, nn_cl, nn_add, nn_sub, if_pos, if_neg, lt_, Option.bind_some, ↓reduceIte, not_true_eq_false, not_false_eq_true, Nat.add_sub_cancel, Nat.add_zero, Nat.reduceSub, Nat.reduceAdd, Nat.reduceMul, Nat.reduceEqDiff, Nat.reduceLT, Nat.reduceLeDiff, or_false, false_or, Nat.not_lt_zero]
theorem ls_opd {tk tp : Nat → Int32} {x a e k : Nat} {g : Int32} (hx : x ≤ 960) (ha : a < x) (hk : tk a = nn k) (h9 : k < 10) : Ls tk tp 1 x g e a g 1 (a + 1) := by
  intro fu I J ek ep
  rw [← ek] at hk
  simp (disch := omega) only [b_123_8, b_123_89, b_123_101, b_123_103, m_109, b_109_0, hk, nn_l, nn_o, nn_lt, nn_le, nn_eq, nn_cl, nn_add, nn_sub, if_pos, if_neg, lt_, Option.bind_some, ↓reduceIte, not_true_eq_false, not_false_eq_true, Nat.add_sub_cancel, Nat.add_zero, Nat.reduceSub, Nat.reduceAdd, Nat.reduceMul, Nat.reduceEqDiff, Nat.reduceLT, Nat.reduceLeDiff, or_false, false_or, Nat.not_lt_zero]
  split <;> rfl
theorem ls_pre {tk tp : Nat → Int32} {x a k : Nat} {g : Int32} (hx : x ≤ 960) (ha : a < x) (hk : tk a = nn k) (h : k = 24 ∨ k = 28 ∨ k = 29) : Ls tk tp 1 x g 0 a g 0 (a + 1) := by
  intro fu I J ek ep
  rw [← ek] at hk
  rcases h with h | h | h <;> subst h <;> simp (disch := omega) only [b_123_8, b_123_89, b_123_101, b_123_103, hk, nn_l, nn_o, nn_lt, nn_le, nn_eq, nn_cl, nn_add, nn_sub, if_pos, if_neg, lt_, Option.bind_some, ↓reduceIte, not_true_eq_false, not_false_eq_true, Nat.add_sub_cancel, Nat.add_zero, Nat.reduceSub, Nat.reduceAdd, Nat.reduceMul, Nat.reduceEqDiff, Nat.reduceLT, Nat.reduceLeDiff, or_false, false_or, Nat.not_lt_zero]
theorem ls_bin {tk tp : Nat → Int32} {x a k r : Nat} {g : Int32} (hx : x ≤ 960) (ha : a < x) (hk : tk a = nn k) (h1 : 10 ≤ k) (h2 : k ≤ 27) (hg : Fnd tk g r) : Ls tk tp 1 x g 1 a (if rk k + 1 ≤ r then nn a else g) 0 (a + 1) := by
  intro fu I J ek ep
  rw [← ek] at hk hg
  have hr := rk_le k
  rcases hg with ⟨rfl, rfl⟩ | ⟨z, κ, rfl, hz, hκ, k1, k2, rfl⟩
  · simp (disch := omega) only [b_123_8, b_123_86, b_123_89, b_123_101, b_123_103, m_109, b_109_0, hk, nn_m1, nn_l, nn_o, nn_lt, nn_le, nn_eq, nn_cl, nn_add, nn_sub, if_pos, if_neg, lt_, Option.bind_some, ↓reduceIte, not_true_eq_false, not_false_eq_true, Nat.add_sub_cancel, Nat.add_zero, Nat.reduceSub, Nat.reduceAdd, Nat.reduceMul, Nat.reduceEqDiff, Nat.reduceLT, Nat.reduceLeDiff, or_false, false_or, Nat.not_lt_zero, ↓reduceIte]
  · have hs := rk_le κ
    by_cases hc : rk k ≤ rk κ
    · simp (disch := omega) only [b_123_8, b_123_86, b_123_89, b_123_101, b_123_103, m_109, b_109_0, m124_eq h1 h2, m124_eq k1 k2, hk, hκ, nn_l, nn_o, nn_lt, nn_le, nn_eq, nn_cl, nn_add, nn_sub, if_pos, if_neg, lt_, Option.bind_some, ↓reduceIte, not_true_eq_false, not_false_eq_true, Nat.add_sub_cancel, Nat.add_zero, Nat.reduceSub, Nat.reduceAdd, Nat.reduceMul, Nat.reduceEqDiff, Nat.reduceLT, Nat.reduceLeDiff, or_false, false_or, Nat.not_lt_zero]
    · simp (disch := omega) only [b_123_8, b_123_86, b_123_89, b_123_101, b_123_103, m_109, b_109_0, m124_eq h1 h2, m124_eq k1 k2, hk, hκ, nn_l, nn_o, nn_lt, nn_le, nn_eq, nn_cl, nn_add, nn_sub, if_pos, if_neg, lt_, Option.bind_some, ↓reduceIte, not_true_eq_false, not_false_eq_true, Nat.add_sub_cancel, Nat.add_zero, Nat.reduceSub, Nat.reduceAdd, Nat.reduceMul, Nat.reduceEqDiff, Nat.reduceLT, Nat.reduceLeDiff, or_false, false_or, Nat.not_lt_zero]
def Lc (tk tp : Nat → Int32) (a b m s : Nat) : Prop := ∀ x g r, b ≤ x → x ≤ 960 → Fnd tk g r → ∃ t, t ≤ b - a ∧ Ls tk tp t x g 0 a (if m ≤ 9 ∧ m ≤ r then nn s else g) 1 b
def Lt (tk : Nat → Int32) (a b m s : Nat) : Prop := m ≤ 9 → a < s ∧ s < b ∧ ∃ k, tk s = nn k ∧ 10 ≤ k ∧ k ≤ 27 ∧ m = rk k + 1
theorem fd_upd {tk : Nat → Int32} {g : Int32} {r m s : Nat} (hg : Fnd tk g r) (hs : m ≤ 9 → s < 960 ∧ ∃ k, tk s = nn k ∧ 10 ≤ k ∧ k ≤ 27 ∧ m = rk k + 1) : Fnd tk (if m ≤ 9 ∧ m ≤ r then nn s else g) (if m ≤ 9 ∧ m ≤ r then m else r) := by
  by_cases h : m ≤ 9 ∧ m ≤ r
  · rw [if_pos h, if_pos h]
    obtain ⟨h1, k, h2, h3, h4, h5⟩ := hs h.1
    exact Or.inr ⟨s, k, rfl, h1, h2, h3, h4, h5⟩
  · rw [if_neg h, if_neg h]
    exact hg
theorem lc_bin {tk tp : Nat → Int32} {a b s k m1 m2 s1 s2 : Nat} (ha : a < s) (hb : s + 1 < b) (hk : tk s = nn k) (k1 : 10 ≤ k) (k2 : k ≤ 27) (hm1 : rk k + 1 ≤ m1) (hm2 : rk k + 1 < m2) (h1 : Lc tk tp a s m1 s1) (t1 : Lt tk a s m1 s1) (h2 : Lc tk tp (s + 1) b m2 s2) (t2 : Lt tk (s + 1) b m2 s2) : Lc tk tp a b (rk k + 1) s := by
  intro x g r hx hx2 hg
  have hr := rk_le k
  obtain ⟨u1, v1, w1⟩ := h1 x g r (by omega) hx2 hg
  have g1 := fd_upd (r := r) (m := m1) (s := s1) hg (fun h => by obtain ⟨q1, q2, q3⟩ := t1 h; exact ⟨by omega, q3⟩)
  have f1 : ((m1 ≤ 9 ∧ m1 ≤ r) ∧ (if m1 ≤ 9 ∧ m1 ≤ r then m1 else r) = m1) ∨ (¬ (m1 ≤ 9 ∧ m1 ≤ r) ∧ (if m1 ≤ 9 ∧ m1 ≤ r then m1 else r) = r ∧ (if m1 ≤ 9 ∧ m1 ≤ r then nn s1 else g) = g) := by
    by_cases c : m1 ≤ 9 ∧ m1 ≤ r
    · exact Or.inl ⟨c, if_pos c⟩
    · exact Or.inr ⟨c, if_neg c, if_neg c⟩
  generalize (if m1 ≤ 9 ∧ m1 ≤ r then nn s1 else g) = G1 at w1 g1 f1
  generalize (if m1 ≤ 9 ∧ m1 ≤ r then m1 else r) = R1 at g1 f1
  have w2 := ls_bin (tp := tp) hx2 (show s < x by omega) hk k1 k2 g1
  have g2 := fd_upd (r := R1) (m := rk k + 1) (s := s) g1 (fun _ => ⟨by omega, k, hk, k1, k2, rfl⟩)
  have f2 : (if rk k + 1 ≤ 9 ∧ rk k + 1 ≤ R1 then nn s else G1) = (if rk k + 1 ≤ R1 then nn s else G1) := by
    by_cases c : rk k + 1 ≤ R1
    · rw [if_pos c, if_pos ⟨by omega, c⟩]
    · rw [if_neg c, if_neg (fun q => c q.2)]
  have f3 : (if rk k + 1 ≤ R1 then nn s else G1) = (if rk k + 1 ≤ 9 ∧ rk k + 1 ≤ r then nn s else g) := by
    rcases f1 with ⟨c, e⟩ | ⟨c, e, e'⟩
    · rw [if_pos (by omega), if_pos (by omega)]
    · rw [e, e']
      by_cases c2 : rk k + 1 ≤ r
      · rw [if_pos c2, if_pos ⟨by omega, c2⟩]
      · rw [if_neg c2, if_neg (fun q => c2 q.2)]
  have f4 : ∀ R2, R2 = (if rk k + 1 ≤ 9 ∧ rk k + 1 ≤ R1 then rk k + 1 else R1) → R2 < m2 := by
    intro R2 e
    by_cases c : rk k + 1 ≤ 9 ∧ rk k + 1 ≤ R1
    · rw [if_pos c] at e; omega
    · rw [if_neg c] at e; omega
  rw [f2] at g2
  obtain ⟨u3, v3, w3⟩ := h2 x _ _ hx hx2 g2
  have f5 : ¬ (m2 ≤ 9 ∧ m2 ≤ (if rk k + 1 ≤ 9 ∧ rk k + 1 ≤ R1 then rk k + 1 else R1)) := fun q => by have := f4 _ rfl; omega
  rw [if_neg f5] at w3
  rw [f3] at w2 w3
  exact ⟨u3 + (1 + u1), by omega, ls_trans (ls_trans w1 w2) w3⟩
theorem lc_all {K L R : Nat → Int32} {V : Nat → Int64} {tk tp : Nat → Int32} {tn : Nat → Int64} : ∀ q n a b m, Opd K L R V tk tp tn q n a b m → ∃ s, Lc tk tp a b m s ∧ Lt tk a b m s := by
  intro q
  induction q with
  | zero => intro n a b m h; exact h.elim
  | succ q ih =>
    intro n a b m h
    have hab := opd_lt h
    rcases h with ⟨h1, h2, h3⟩ | ⟨h1, h2, h3, h4, h5, m', h6⟩ | ⟨h1, c, m', h2, h3, h4, h5, h6, h7⟩ | ⟨h1, h2, h3, h4, h5, h6, c, m', h7, h8, h9⟩ | ⟨h1, ⟨κ, k1, k2, k3, k4⟩, h3, h4, h5, h6, c, m', h7, h8, h9⟩ | ⟨s, κ, c, d, m1, m2, h1, h2, h3, h4, h5, h6, h7, h8, h9, h10, h11, h12, h13, h14, h15⟩
    · refine ⟨0, fun x g r hx hx2 hg => ⟨1, by omega, ?_⟩, fun h => by omega⟩
      rw [if_neg (by omega), h1]
      rcases h3 with ⟨_, e, _⟩ | ⟨_, e, _⟩ | ⟨_, e, _⟩ | ⟨_, e, _⟩ | ⟨_, e⟩ <;> exact ls_opd hx2 (by omega) e (by omega)
    · refine ⟨0, fun x g r hx hx2 hg => ⟨1, by omega, ?_⟩, fun h => by omega⟩
      rw [if_neg (by omega)]
      have w := ls_skip (g := g) (e := 0) (z := b - 1) hx2 (show a < x by omega) (Or.inl h2) h3
      rw [show b - 1 + 1 = b by omega] at w
      exact w
    · obtain ⟨s, q1, q2⟩ := ih c (a + 1) b m' h7
      refine ⟨0, fun x g r hx hx2 hg => ?_, fun h => by omega⟩
      obtain ⟨u, v, w⟩ := q1 x g r hx hx2 hg
      rw [if_neg (by omega)] at w
      refine ⟨u + 1, by omega, ?_⟩
      rw [if_neg (by omega)]
      refine ls_trans ?_ w
      rcases h4 with ⟨_, e⟩ | ⟨_, e⟩ | ⟨_, e⟩ <;> exact ls_pre hx2 (by omega) e (by omega)
    · refine ⟨0, fun x g r hx hx2 hg => ⟨1, by omega, ?_⟩, fun h => by omega⟩
      rw [if_neg (by omega)]
      have w := ls_skip (g := g) (e := 0) (z := b - 1) hx2 (show a < x by omega) (Or.inr h3) h4
      rw [show b - 1 + 1 = b by omega] at w
      exact w
    · refine ⟨0, fun x g r hx hx2 hg => ⟨1 + 1, by omega, ?_⟩, fun h => by omega⟩
      rw [if_neg (by omega)]
      have w := ls_skip (g := g) (e := 1) (z := b - 1) hx2 (show a + 1 < x by omega) h3 h4
      rw [show b - 1 + 1 = b by omega] at w
      exact ls_trans (ls_opd hx2 (by omega) k4 (by omega)) w
    · obtain ⟨s1, q1, q2⟩ := ih c a s m1 h14
      obtain ⟨s2, q3, q4⟩ := ih d (s + 1) b m2 h15
      subst h11
      exact ⟨s, lc_bin h1 h2 h5 h3 h4 h12 h13 q1 q2 q3 q4, fun _ => ⟨h1, by omega, κ, h5, h3, h4, rfl⟩⟩
theorem least_none {K L R : Nat → Int32} {V : Nat → Int64} {tn : Nat → Int64} {q n a b m : Nat} {I : dI} {J : dJ} (h : Opd K L R V (I 105) (I 106) tn q n a b m) (hm : 10 ≤ m) (hb : b ≤ 960) : m_123 (nn a) (nn b) I J = some (-(nn 1)) := by
  obtain ⟨s, h1, _⟩ := lc_all q n a b m h
  obtain ⟨t, h2, h3⟩ := h1 b (-(nn 1)) 20 (Nat.le_refl b) hb (Or.inl ⟨rfl, rfl⟩)
  have h4 := h3 (FU - t - 1 + 1) I J rfl rfl
  rw [if_neg (by omega)] at h4
  have e : FU - t - 1 + 1 + t = FU := by
    have : FU = 5000 := rfl
    omega
  rw [e] at h4
  show b_123_8 FU (nn b) (-(nn 1)) (nn 0) (nn a) I J = _
  rw [h4]
  simp (disch := omega) only [b_123_8, nn_l, nn_o, nn_lt, nn_le, nn_eq, nn_cl, nn_add, nn_sub, if_pos, if_neg, lt_, Option.bind_some, ↓reduceIte, not_true_eq_false, not_false_eq_true, Nat.add_sub_cancel, Nat.add_zero, Nat.reduceSub, Nat.reduceAdd, Nat.reduceMul, Nat.reduceEqDiff, Nat.reduceLT, Nat.reduceLeDiff, or_false, false_or, Nat.not_lt_zero]
theorem least_some {K L R : Nat → Int32} {V : Nat → Int64} {tn : Nat → Int64} {q a b s k c d m1 m2 : Nat} {I : dI} {J : dJ} (ha : a < s) (hb : s + 1 < b) (hb2 : b ≤ 960) (hk : I 105 s = nn k) (k1 : 10 ≤ k) (k2 : k ≤ 27) (hm1 : rk k + 1 ≤ m1) (hm2 : rk k + 1 < m2) (h1 : Opd K L R V (I 105) (I 106) tn q c a s m1) (h2 : Opd K L R V (I 105) (I 106) tn q d (s + 1) b m2) : m_123 (nn a) (nn b) I J = some (nn s) := by
  obtain ⟨s1, q1, q2⟩ := lc_all _ _ _ _ _ h1
  obtain ⟨s2, q3, q4⟩ := lc_all _ _ _ _ _ h2
  obtain ⟨t, h2, h3⟩ := lc_bin ha hb hk k1 k2 hm1 hm2 q1 q2 q3 q4 b (-(nn 1)) 20 (Nat.le_refl b) hb2 (Or.inl ⟨rfl, rfl⟩)
  have h4 := h3 (FU - t - 1 + 1) I J rfl rfl
  have hr := rk_le k
  rw [if_pos (by omega)] at h4
  have e : FU - t - 1 + 1 + t = FU := by
    have : FU = 5000 := rfl
    omega
  rw [e] at h4
  show b_123_8 FU (nn b) (-(nn 1)) (nn 0) (nn a) I J = _
  rw [h4]
  simp (disch := omega) only [b_123_8, nn_l, nn_o, nn_lt, nn_le, nn_eq, nn_cl, nn_add, nn_sub, if_pos, if_neg, lt_, Option.bind_some, ↓reduceIte, not_true_eq_false, not_false_eq_true, Nat.add_sub_cancel, Nat.add_zero, Nat.reduceSub, Nat.reduceAdd, Nat.reduceMul, Nat.reduceEqDiff, Nat.reduceLT, Nat.reduceLeDiff, or_false, false_or, Nat.not_lt_zero]
theorem opd_kind {K L R : Nat → Int32} {V : Nat → Int64} {tk tp : Nat → Int32} {tn : Nat → Int64} : ∀ q n a b m, Opd K L R V tk tp tn q n a b m → ∃ t, t < 100 ∧ tk a = nn t := by
  intro q
  induction q with
  | zero => intro n a b m h; exact h.elim
  | succ q ih =>
    intro n a b m h
    rcases h with ⟨h1, h2, h3⟩ | ⟨h1, h2, h3, h4, h5, m', h6⟩ | ⟨h1, c, m', h2, h3, h4, h5, h6, h7⟩ | ⟨h1, h2, h3, h4, h5, h6, c, m', h7, h8, h9⟩ | ⟨h1, ⟨κ, k1, k2, k3, k4⟩, h3, h4, h5, h6, c, m', h7, h8, h9⟩ | ⟨s, κ, c, d, m1, m2, h1, h2, h3, h4, h5, h6, h7, h8, h9, h10, h11, h12, h13, h14, h15⟩
    · rcases h3 with ⟨_, e, _⟩ | ⟨_, e, _⟩ | ⟨_, e, _⟩ | ⟨_, e, _⟩ | ⟨_, e⟩
      · exact ⟨1, by omega, e⟩
      · exact ⟨2, by omega, e⟩
      · exact ⟨3, by omega, e⟩
      · exact ⟨4, by omega, e⟩
      · exact ⟨5, by omega, e⟩
    · exact ⟨30, by omega, h2⟩
    · rcases h4 with ⟨_, e⟩ | ⟨_, e⟩ | ⟨_, e⟩
      · exact ⟨24, by omega, e⟩
      · exact ⟨28, by omega, e⟩
      · exact ⟨29, by omega, e⟩
    · exact ⟨32, by omega, h3⟩
    · exact ⟨κ, by omega, k4⟩
    · exact ih c a s m1 h14
theorem opd_first {K L R : Nat → Int32} {V : Nat → Int64} {tk tp : Nat → Int32} {tn : Nat → Int64} {q n a s m b : Nat} (h : Opd K L R V tk tp tn q n a s m) (hs : s + 1 < b) (hb : b ≤ 960) : ∃ t, t < 100 ∧ tk a = nn t ∧ (t ≠ 30 ∨ tp a ≠ nn (b - 1)) := by
  obtain ⟨t, h1, h2⟩ := opd_kind _ _ _ _ _ h
  refine ⟨t, h1, h2, ?_⟩
  by_cases e : t = 30
  · subst e
    obtain ⟨z, z1, z2, z3⟩ := opd_open _ _ _ _ _ h h2
    refine Or.inr fun e2 => ?_
    rw [z1, nn_eq (by omega) (by omega)] at e2
    omega
  · exact Or.inl e
theorem opd_cov {K L R : Nat → Int32} {V : Nat → Int64} {tk tp : Nat → Int32} {tn : Nat → Int64} : ∀ q n a b m, Opd K L R V tk tp tn q n a b m → ∀ t κ, a ≤ t → t < b → (κ = 8 ∨ κ = 9) → tk t = nn κ → ∃ q' n' b' m', Opd K L R V tk tp tn q' n' t b' m' ∧ n' ≤ n ∧ b' ≤ b ∧ K n' = nn κ := by
  intro q
  induction q with
  | zero => intro n a b m h; exact h.elim
  | succ q ih =>
    intro n a b m h t κ ha hb hκ ht
    have hs := h
    have nclo : ∀ x, Clo x → x ≠ nn κ := by
      intro x hx e
      rcases hx with hx | hx <;> rw [hx, nn_eq (by omega) (by omega)] at e <;> omega
    rcases h with ⟨h1, h2, h3⟩ | ⟨h1, h2, h3, h4, h5, m', h6⟩ | ⟨h1, c, m', h2, h3, h4, h5, h6, h7⟩ | ⟨h1, h2, h3, h4, h5, h6, c, m', h7, h8, h9⟩ | ⟨h1, ⟨κ', k1, k2, k3, k4⟩, h3, h4, h5, h6, c, m', h7, h8, h9⟩ | ⟨s, κ', c, d, m1, m2, h1, h2, h3, h4, h5, h6, h7, h8, h9, h10, h11, h12, h13, h14, h15⟩
    · have e : t = a := by omega
      subst e
      rcases h3 with ⟨_, e, _⟩ | ⟨_, e, _⟩ | ⟨_, e, _⟩ | ⟨_, e, _⟩ | ⟨_, e⟩ <;> rw [ht, nn_eq (by omega) (by omega)] at e <;> omega
    · by_cases e1 : t = a
      · subst e1
        rw [ht, nn_eq (by omega) (by omega)] at h2
        omega
      · by_cases e2 : t = b - 1
        · subst e2
          exact absurd ht (nclo _ h5)
        · obtain ⟨q', n', b', m2, x1, x2, x3, x4⟩ := ih n (a + 1) (b - 1) m' h6 t κ (by omega) (by omega) hκ ht
          exact ⟨q', n', b', m2, x1, x2, by omega, x4⟩
    · by_cases e1 : t = a
      · subst e1
        rcases h4 with ⟨_, e⟩ | ⟨_, e⟩ | ⟨_, e⟩ <;> rw [ht, nn_eq (by omega) (by omega)] at e <;> omega
      · obtain ⟨q', n', b', m2, x1, x2, x3, x4⟩ := ih c (a + 1) b m' h7 t κ (by omega) (by omega) hκ ht
        exact ⟨q', n', b', m2, x1, by omega, by omega, x4⟩
    · by_cases e1 : t = a
      · subst e1
        rw [ht, nn_eq (by omega) (by omega)] at h3
        omega
      · by_cases e2 : t = b - 1
        · subst e2
          exact absurd ht (nclo _ h6)
        · obtain ⟨q', n', b', m2, x1, x2, x3, x4⟩ := ih c (a + 1) (b - 1) m' h9 t κ (by omega) (by omega) hκ ht
          exact ⟨q', n', b', m2, x1, by omega, by omega, x4⟩
    · by_cases e1 : t = a
      · subst e1
        rw [ht, nn_eq (by omega) (by omega)] at k4
        subst k4
        exact ⟨q + 1, n, b, m, hs, Nat.le_refl n, Nat.le_refl b, k3⟩
      · by_cases e2 : t = b - 1
        · subst e2
          exact absurd ht (nclo _ h6)
        · by_cases e3 : t = a + 1
          · subst e3
            rcases h3 with h3 | h3 <;> rw [ht, nn_eq (by omega) (by omega)] at h3 <;> omega
          · obtain ⟨q', n', b', m2, x1, x2, x3, x4⟩ := ih c (a + 2) (b - 1) m' h9 t κ (by omega) (by omega) hκ ht
            exact ⟨q', n', b', m2, x1, by omega, by omega, x4⟩
    · by_cases e1 : t = s
      · subst e1
        rw [ht, nn_eq (by omega) (by omega)] at h5
        omega
      · by_cases e2 : t < s
        · obtain ⟨q', n', b', m3, x1, x2, x3, x4⟩ := ih c a s m1 h14 t κ ha e2 hκ ht
          exact ⟨q', n', b', m3, x1, by omega, by omega, x4⟩
        · obtain ⟨q', n', b', m3, x1, x2, x3, x4⟩ := ih d (s + 1) b m2 h15 t κ (by omega) hb hκ ht
          exact ⟨q', n', b', m3, x1, by omega, by omega, x4⟩
theorem opd_old {K L R : Nat → Int32} {V : Nat → Int64} {tk tp : Nat → Int32} {tn : Nat → Int64} : ∀ q n a b m κ, Opd K L R V tk tp tn q n a b m → (κ = 8 ∨ κ = 9) → K n = nn κ → ∃ q' c a' b' m', a ≤ a' ∧ b' ≤ b ∧ L n = nn c ∧ c < n ∧ tk a' = nn κ ∧ tp (a' + 1) = nn (b' - 1) ∧ a' + 3 < b' ∧ Opd K L R V tk tp tn q' c (a' + 2) (b' - 1) m' ∧ (tk a = nn κ → a' = a ∧ b' = b) := by
  intro q
  induction q with
  | zero => intro n a b m κ h; exact h.elim
  | succ q ih =>
    intro n a b m κ h hκ hK
    rcases h with ⟨h1, h2, h3⟩ | ⟨h1, h2, h3, h4, h5, m', h6⟩ | ⟨h1, c, m', h2, h3, h4, h5, h6, h7⟩ | ⟨h1, h2, h3, h4, h5, h6, c, m', h7, h8, h9⟩ | ⟨h1, ⟨κ', k1, k2, k3, k4⟩, h3, h4, h5, h6, c, m', h7, h8, h9⟩ | ⟨s, κ', c, d, m1, m2, h1, h2, h3, h4, h5, h6, h7, h8, h9, h10, h11, h12, h13, h14, h15⟩
    · rcases h3 with ⟨e, _⟩ | ⟨e, _⟩ | ⟨e, _⟩ | ⟨e, _⟩ | ⟨e, _⟩ <;> rw [hK, nn_eq (by omega) (by omega)] at e <;> omega
    · obtain ⟨q', c, a', b', m2, x1, x2, x3, x4, x5, x6, x7, x8, x9⟩ := ih n (a + 1) (b - 1) m' κ h6 hκ hK
      refine ⟨q', c, a', b', m2, by omega, by omega, x3, x4, x5, x6, x7, x8, fun e => ?_⟩
      rw [h2, nn_eq (by omega) (by omega)] at e
      omega
    · rcases h4 with ⟨e, _⟩ | ⟨e, _⟩ | ⟨e, _⟩ <;> rw [hK, nn_eq (by omega) (by omega)] at e <;> omega
    · rw [hK, nn_eq (by omega) (by omega)] at h2
      omega
    · rw [hK, nn_eq (by omega) (by omega)] at k3
      subst k3
      exact ⟨q, c, a, b, m', Nat.le_refl a, Nat.le_refl b, h8, h7, k4, h4, h5, h9, fun _ => ⟨rfl, rfl⟩⟩
    · rw [hK, nn_eq (by omega) (by omega)] at h6
      omega
