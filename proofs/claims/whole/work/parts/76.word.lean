/-! Words in the text. -/
def Wd (T : Nat → Nat) (st e : Nat) (ws : List Nat) : Prop := e = st + ws.length ∧ ∀ x, x < ws.length → T (st + x) = ws.getD x 0
def Sb (w : Nat) (ws : List Nat) : Prop := st_len.getD w 0 = ws.length ∧ ws.length < 8 ∧ ∀ i, i < ws.length → (((st_byt.getD w []).getD i (nn 0) &&& nn 255).toUInt32 % 65536).toInt32 = nn (ws.getD i 0)
theorem sb_of {w : Nat} {ws : List Nat} (h1 : st_len.getD w 0 = ws.length) (h2 : ws.length < 8) (h3 : ∀ i : Fin 8, i.val < ws.length → (((st_byt.getD w []).getD i.val (nn 0) &&& nn 255).toUInt32 % 65536).toInt32 = nn (ws.getD i.val 0)) : Sb w ws :=
  ⟨h1, h2, fun i hi => h3 ⟨i, by omega⟩ hi⟩
def wPc : List Nat := [112, 99]
def wPid : List Nat := [112, 105, 100]
def wCount : List Nat := [99, 111, 117, 110, 116]
def wByte : List Nat := [98, 121, 116, 101]
def wHalf : List Nat := [104, 97, 108, 102]
def wOld : List Nat := [111, 108, 100]
def wChg : List Nat := [99, 104, 97, 110, 103, 101, 100]
theorem sb_6 : Sb 6 wPc := sb_of (by decide +kernel) (by decide) (by decide +kernel)
theorem sb_7 : Sb 7 wPid := sb_of (by decide +kernel) (by decide) (by decide +kernel)
theorem sb_8 : Sb 8 wCount := sb_of (by decide +kernel) (by decide) (by decide +kernel)
theorem sb_9 : Sb 9 wByte := sb_of (by decide +kernel) (by decide) (by decide +kernel)
theorem sb_10 : Sb 10 wHalf := sb_of (by decide +kernel) (by decide) (by decide +kernel)
theorem sb_11 : Sb 11 wOld := sb_of (by decide +kernel) (by decide) (by decide +kernel)
theorem sb_12 : Sb 12 wChg := sb_of (by decide +kernel) (by decide) (by decide +kernel)
def Wl (ws : List Nat) : Prop := ∀ i, i < ws.length → 1 ≤ ws.getD i 0 ∧ ws.getD i 0 < 127
theorem wl_of {ws : List Nat} (h2 : ws.length < 8) (h3 : ∀ i : Fin 8, i.val < ws.length → 1 ≤ ws.getD i.val 0 ∧ ws.getD i.val 0 < 127) : Wl ws := fun i hi => h3 ⟨i, by omega⟩ hi
theorem m56_t {s st e w : Nat} {ws : List Nat} {T : Nat → Nat} {I : dI} {J : dJ} (hS : Sb w ws) (hT : Txc s T I) (h1 : I 18 1 = nn st) (he : st + ws.length ≤ s) : ∀ n i fu, i + n = ws.length → n < fu → (∀ x, i ≤ x → x < ws.length → T (st + x) = ws.getD x 0) → b_56_20 w fu (nn i) I J = some (nn 1) := by
  obtain ⟨s1, s2, s3⟩ := hS
  have hs := hT.2.1
  intro n
  induction n with
  | zero =>
    intro i fu hi hf hx
    obtain ⟨f, rfl⟩ : ∃ f, fu = f + 1 := ⟨fu - 1, by omega⟩
    simp (disch := omega) only [b_56_20, s1, nn_nI, nn_l, nn_o, nn_lt, nn_le, nn_eq, nn_cl, nn_add, nn_sub, if_pos, if_neg, lt_, Option.bind_some, ↓reduceIte, not_true_eq_false, not_false_eq_true, Nat.add_sub_cancel, Nat.add_zero, Nat.reduceSub, Nat.reduceAdd, Nat.reduceMul, Nat.reduceEqDiff, Nat.reduceLT, Nat.reduceLeDiff, or_false, false_or, Nat.not_lt_zero]
  | succ n ih =>
    intro i fu hi hf hx
    obtain ⟨f, rfl⟩ : ∃ f, fu = f + 1 := ⟨fu - 1, by omega⟩
    have e1 := hx i (by omega) (by omega)
    have q := ih (i + 1) f (by omega) (by omega) (fun x a b => hx x (by omega) b)
    simp (disch := omega) only [b_56_20, s1, nn_nI, h1, m48_eq hT (show st + i < 1000 by omega), ch_in (show st + i < s by omega), s3 i (by omega), e1, q, ↓reduceIte, nn_l, nn_o, nn_lt, nn_le, nn_eq, nn_cl, nn_add, nn_sub, if_pos, if_neg, lt_, Option.bind_some, ↓reduceIte, not_true_eq_false, not_false_eq_true, Nat.add_sub_cancel, Nat.add_zero, Nat.reduceSub, Nat.reduceAdd, Nat.reduceMul, Nat.reduceEqDiff, Nat.reduceLT, Nat.reduceLeDiff, or_false, false_or, Nat.not_lt_zero]
theorem m56_f {s st e w : Nat} {ws : List Nat} {T : Nat → Nat} {I : dI} {J : dJ} (hS : Sb w ws) (hL : Wl ws) (hT : Txc s T I) (h1 : I 18 1 = nn st) (he : st + ws.length ≤ s) : ∀ n i fu, i + n = ws.length → n < fu → (∃ x, i ≤ x ∧ x < ws.length ∧ T (st + x) ≠ ws.getD x 0) → b_56_20 w fu (nn i) I J = some (nn 0) := by
  obtain ⟨s1, s2, s3⟩ := hS
  have hs := hT.2.1
  intro n
  induction n with
  | zero =>
    intro i fu hi hf hx
    obtain ⟨x, a, b, _⟩ := hx
    omega
  | succ n ih =>
    intro i fu hi hf hx
    obtain ⟨f, rfl⟩ : ∃ f, fu = f + 1 := ⟨fu - 1, by omega⟩
    obtain ⟨t1, t2, t3⟩ := hT.2.2 (st + i) (by omega)
    have hw := hL i (by omega)
    by_cases e1 : T (st + i) = ws.getD i 0
    · have q := ih (i + 1) f (by omega) (by omega) (by
        obtain ⟨x, a, b, c⟩ := hx
        refine ⟨x, ?_, b, c⟩
        by_cases h : x = i
        · subst h; exact absurd e1 c
        · omega)
      simp (disch := omega) only [b_56_20, s1, nn_nI, h1, m48_eq hT (show st + i < 1000 by omega), ch_in (show st + i < s by omega), s3 i (by omega), e1, q, ↓reduceIte, nn_l, nn_o, nn_lt, nn_le, nn_eq, nn_cl, nn_add, nn_sub, if_pos, if_neg, lt_, Option.bind_some, ↓reduceIte, not_true_eq_false, not_false_eq_true, Nat.add_sub_cancel, Nat.add_zero, Nat.reduceSub, Nat.reduceAdd, Nat.reduceMul, Nat.reduceEqDiff, Nat.reduceLT, Nat.reduceLeDiff, or_false, false_or, Nat.not_lt_zero]
    · have e2 : ¬ nn (ws.getD i 0) = nn (T (st + i)) := by
        rw [nn_eq (by omega) (by omega)]
        exact fun x => e1 x.symm
      simp (disch := omega) only [b_56_20, s1, nn_nI, h1, m48_eq hT (show st + i < 1000 by omega), ch_in (show st + i < s by omega), s3 i (by omega), e2, ↓reduceIte, nn_l, nn_o, nn_lt, nn_le, nn_eq, nn_cl, nn_add, nn_sub, if_pos, if_neg, lt_, Option.bind_some, ↓reduceIte, not_true_eq_false, not_false_eq_true, Nat.add_sub_cancel, Nat.add_zero, Nat.reduceSub, Nat.reduceAdd, Nat.reduceMul, Nat.reduceEqDiff, Nat.reduceLT, Nat.reduceLeDiff, or_false, false_or, Nat.not_lt_zero]
theorem m56_y {s st e w : Nat} {ws : List Nat} {T : Nat → Nat} {I : dI} {J : dJ} (hS : Sb w ws) (hT : Txc s T I) (h1 : I 18 1 = nn st) (h2 : I 18 2 = nn e) (he : e ≤ s) (h : Wd T st e ws) : m_56 w I J = some (nn 1) := by
  have hs := hT.2.1
  have h3' := h.1
  have q := m56_t (e := e) (J := J) hS hT h1 (by omega) ws.length 0 FU (by omega) (by rw [show FU = 5000 from rfl]; have := hS.2.1; omega) (fun x _ b => h.2 x b)
  have h3 := h.1
  have h4 := hS.1
  simp (disch := omega) only [m_56, b_56_0, h1, h2, h4, nn_nI, nn_l, nn_o, nn_lt, nn_le, nn_eq, nn_cl, nn_add, nn_sub, if_pos, if_neg, lt_, Option.bind_some, ↓reduceIte, not_true_eq_false, not_false_eq_true, Nat.add_sub_cancel, Nat.add_zero, Nat.reduceSub, Nat.reduceAdd, Nat.reduceMul, Nat.reduceEqDiff, Nat.reduceLT, Nat.reduceLeDiff, or_false, false_or, Nat.not_lt_zero]
  exact q
theorem m56_n {s st e w : Nat} {ws : List Nat} {T : Nat → Nat} {I : dI} {J : dJ} (hS : Sb w ws) (hL : Wl ws) (hT : Txc s T I) (h1 : I 18 1 = nn st) (h2 : I 18 2 = nn e) (hst : st ≤ e) (he : e ≤ s) (h : ¬ Wd T st e ws) : m_56 w I J = some (nn 0) := by
  have hs := hT.2.1
  have h4 := hS.1
  have h5 := hS.2.1
  by_cases c : e = st + ws.length
  · have hx : ∃ x, 0 ≤ x ∧ x < ws.length ∧ T (st + x) ≠ ws.getD x 0 := by
      refine Classical.byContradiction fun hc => h ⟨c, fun x hx => ?_⟩
      exact Classical.byContradiction fun hc2 => hc ⟨x, Nat.zero_le x, hx, hc2⟩
    have q := m56_f (e := e) (J := J) hS hL hT h1 (by omega) ws.length 0 FU (by omega) (by rw [show FU = 5000 from rfl]; omega) hx
    simp (disch := omega) only [m_56, b_56_0, h1, h2, h4, nn_nI, nn_l, nn_o, nn_lt, nn_le, nn_eq, nn_cl, nn_add, nn_sub, if_pos, if_neg, lt_, Option.bind_some, ↓reduceIte, not_true_eq_false, not_false_eq_true, Nat.add_sub_cancel, Nat.add_zero, Nat.reduceSub, Nat.reduceAdd, Nat.reduceMul, Nat.reduceEqDiff, Nat.reduceLT, Nat.reduceLeDiff, or_false, false_or, Nat.not_lt_zero]
    exact q
  · simp (disch := omega) only [m_56, b_56_0, h1, h2, h4, nn_nI, nn_l, nn_o, nn_lt, nn_le, nn_eq, nn_cl, nn_add, nn_sub, if_pos, if_neg, lt_, Option.bind_some, ↓reduceIte, not_true_eq_false, not_false_eq_true, Nat.add_sub_cancel, Nat.add_zero, Nat.reduceSub, Nat.reduceAdd, Nat.reduceMul, Nat.reduceEqDiff, Nat.reduceLT, Nat.reduceLeDiff, or_false, false_or, Nat.not_lt_zero]
/-! The same words as numbers. -/
def pkk (f : Nat → Nat) : Nat → Nat → Nat
  | 0, _ => 0
  | n + 1, i => f i + 256 * pkk f n (i + 1)
theorem pkk_inj : ∀ n m i j (f g : Nat → Nat), (∀ x, x < n → 1 ≤ f (i + x) ∧ f (i + x) < 256) → (∀ x, x < m → 1 ≤ g (j + x) ∧ g (j + x) < 256) → pkk f n i = pkk g m j → n = m ∧ ∀ x, x < n → f (i + x) = g (j + x) := by
  intro n
  induction n with
  | zero =>
    intro m i j f g hf hg e
    cases m with
    | zero => exact ⟨rfl, fun x hx => by omega⟩
    | succ m =>
      have h := hg 0 (by omega)
      simp only [pkk, Nat.add_zero] at e h
      omega
  | succ n ih =>
    intro m i j f g hf hg e
    have h := hf 0 (by omega)
    cases m with
    | zero =>
      simp only [pkk, Nat.add_zero] at e h
      omega
    | succ m =>
      have h' := hg 0 (by omega)
      simp only [pkk, Nat.add_zero] at e h h'
      obtain ⟨e1, e2⟩ := ih m (i + 1) (j + 1) f g (fun x hx => by
        have := hf (x + 1) (by omega)
        rw [show i + (x + 1) = i + 1 + x by omega] at this
        exact this) (fun x hx => by
        have := hg (x + 1) (by omega)
        rw [show j + (x + 1) = j + 1 + x by omega] at this
        exact this) (by omega)
      refine ⟨by omega, fun x hx => ?_⟩
      cases x with
      | zero => rw [Nat.add_zero, Nat.add_zero]; omega
      | succ x =>
        have := e2 x (by omega)
        rw [show i + (x + 1) = i + 1 + x by omega, show j + (x + 1) = j + 1 + x by omega]
        exact this
theorem pkk_lt : ∀ n i (f : Nat → Nat), (∀ x, x < n → f (i + x) < 256) → pkk f n i < 256 ^ n := by
  intro n
  induction n with
  | zero => intro i f _; exact Nat.one_pos
  | succ n ih =>
    intro i f hf
    have h := hf 0 (by omega)
    rw [Nat.add_zero] at h
    have q := ih (i + 1) f (fun x hx => by
      have := hf (x + 1) (by omega)
      rw [show i + (x + 1) = i + 1 + x by omega] at this
      exact this)
    show f i + 256 * pkk f n (i + 1) < 256 ^ (n + 1)
    rw [Nat.pow_succ]
    omega
theorem sh8 {x c : Nat} (hx : x < 281474976710656) (hc : c < 256) : (Int64.ofNat x <<< ((Int32.toInt64 (nn 8)) &&& 63)) ||| Int32.toInt64 (nn c) = Int64.ofNat (c + 256 * x) := by
  rw [show ((Int32.toInt64 (nn 8)) &&& 63) = (8 : Int64) by decide, nn_long (by omega)]
  apply Int64.toBitVec_inj.mp
  rw [Int64.toBitVec_or, Int64.toBitVec_shiftLeft, show ((8 : Int64).toBitVec.smod 64) = 8#64 by decide]
  apply BitVec.eq_of_toNat_eq
  have e1 : (Int64.ofNat x).toBitVec.toNat = x := by
    show (BitVec.ofNat 64 x).toNat = x
    rw [BitVec.toNat_ofNat]; omega
  have e2 : (Int64.ofNat c).toBitVec.toNat = c := by
    show (BitVec.ofNat 64 c).toNat = c
    rw [BitVec.toNat_ofNat]; omega
  have e3 : (Int64.ofNat (c + 256 * x)).toBitVec.toNat = c + 256 * x := by
    show (BitVec.ofNat 64 (c + 256 * x)).toNat = c + 256 * x
    rw [BitVec.toNat_ofNat]; omega
  rw [BitVec.toNat_or, BitVec.shiftLeft_eq', BitVec.toNat_shiftLeft, e1, e2, e3, show (8#64).toNat = 8 from rfl]
  have e4 : x <<< 8 % 2 ^ 64 = x <<< 8 := by
    rw [Nat.shiftLeft_eq]; omega
  rw [e4, ← Nat.shiftLeft_add_eq_or_of_lt hc x, Nat.shiftLeft_eq]
  omega
def prv (i : Nat) : Int32 := if i = 0 then -(nn 1) else nn (i - 1)
theorem prv_lt {i st : Nat} (hi : i = st) (h : st < 1000) : (prv i < nn st) = True := by
  subst hi
  unfold prv
  by_cases c : i = 0
  · subst c
    exact eq_true (by decide)
  · rw [if_neg c, nn_lt (by omega) (by omega)]
    exact eq_true (by omega)
theorem prv_s {i : Nat} (h : 0 < i) : prv i = nn (i - 1) := if_neg (by omega)
theorem prv_d {i : Nat} (h : i < 1000) : nn i + -(nn 1) = prv i := by
  unfold prv
  by_cases c : i = 0
  · subst c
    rw [if_pos rfl]
    decide
  · rw [if_neg c, ← Int32.sub_eq_add_neg, nn_sub (by omega)]
theorem m107_lo {s st e : Nat} {T : Nat → Nat} {I : dI} {J : dJ} {N : Int64} (hT : Txm s T I) (he : e ≤ s) (h8 : 8 ≤ e - st) : ∀ n i fu x5, st + n = i → i ≤ e → n < fu → b_107_8 fu (nn st) (nn e) N x5 (prv i) I J = some (nn 0) := by
  have hs := hT.2.1
  intro n
  induction n with
  | zero =>
    intro i fu x5 hi hie hf
    obtain ⟨f, rfl⟩ : ∃ f, fu = f + 1 := ⟨fu - 1, by omega⟩
    simp (disch := omega) only [b_107_8, prv_lt (show i = st by omega) (show st < 1000 by omega), ↓reduceIte, nn_l, nn_o, nn_lt, nn_le, nn_eq, nn_cl, nn_add, nn_sub, if_pos, if_neg, lt_, Option.bind_some, ↓reduceIte, not_true_eq_false, not_false_eq_true, Nat.add_sub_cancel, Nat.add_zero, Nat.reduceSub, Nat.reduceAdd, Nat.reduceMul, Nat.reduceEqDiff, Nat.reduceLT, Nat.reduceLeDiff, or_false, false_or, Nat.not_lt_zero]
  | succ n ih =>
    intro i fu x5 hi hie hf
    obtain ⟨f, rfl⟩ : ∃ f, fu = f + 1 := ⟨fu - 1, by omega⟩
    have q := fun x => ih (i - 1) f x (by omega) (by omega) (by omega)
    have e1 := (hT.2.2 (i - 1) (by omega)).1
    rw [prv_s (by omega)]
    simp (disch := omega) only [b_107_8, e1, prv_d, q, nn_l, nn_o, nn_lt, nn_le, nn_eq, nn_cl, nn_add, nn_sub, if_pos, if_neg, lt_, Option.bind_some, ↓reduceIte, not_true_eq_false, not_false_eq_true, Nat.add_sub_cancel, Nat.add_zero, Nat.reduceSub, Nat.reduceAdd, Nat.reduceMul, Nat.reduceEqDiff, Nat.reduceLT, Nat.reduceLeDiff, or_false, false_or, Nat.not_lt_zero]
theorem m107_sh {s st e N : Nat} {T : Nat → Nat} {I : dI} {J : dJ} (hT : Txm s T I) (he : e ≤ s) (hst : st ≤ e) (h8 : e - st < 8) (hN : N < 9223372036854775808) : ∀ n i fu, st + n = i → i ≤ e → n < fu → b_107_8 fu (nn st) (nn e) (Int64.ofNat N) (Int64.ofNat (pkk T (e - i) i)) (prv i) I J = some (if pkk T (e - st) st = N then nn 1 else nn 0) := by
  have hs := hT.2.1
  intro n
  induction n with
  | zero =>
    intro i fu hi hie hf
    obtain ⟨f, rfl⟩ : ∃ f, fu = f + 1 := ⟨fu - 1, by omega⟩
    have ei : i = st := by omega
    subst ei
    have hp := pkk_lt (e - i) i T (fun x hx => by have := hT.2.2 (i + x) (by omega); omega)
    have hp2 : 256 ^ (e - i) ≤ 256 ^ 7 := Nat.pow_le_pow_right (by omega) (by omega)
    have hle : (Int64.ofNat (pkk T (e - i) i) = Int64.ofNat N) = (pkk T (e - i) i = N) := by
      rw [← Int64.toInt_inj, Int64.toInt_ofNat_of_lt (by omega), Int64.toInt_ofNat_of_lt (by omega)]
      exact propext Int.ofNat_inj
    by_cases c : pkk T (e - i) i = N
    · simp (disch := omega) only [b_107_8, prv_lt (show i = i from rfl) (show i < 1000 by omega), lg_eq0, hle, c, not_true_eq_false, ↓reduceIte, nn_l, nn_o, nn_lt, nn_le, nn_eq, nn_cl, nn_add, nn_sub, if_pos, if_neg, lt_, Option.bind_some, ↓reduceIte, not_true_eq_false, not_false_eq_true, Nat.add_sub_cancel, Nat.add_zero, Nat.reduceSub, Nat.reduceAdd, Nat.reduceMul, Nat.reduceEqDiff, Nat.reduceLT, Nat.reduceLeDiff, or_false, false_or, Nat.not_lt_zero]
    · simp (disch := omega) only [b_107_8, prv_lt (show i = i from rfl) (show i < 1000 by omega), lg_eq0, hle, c, not_false_eq_true, ↓reduceIte, nn_l, nn_o, nn_lt, nn_le, nn_eq, nn_cl, nn_add, nn_sub, if_pos, if_neg, lt_, Option.bind_some, ↓reduceIte, not_true_eq_false, not_false_eq_true, Nat.add_sub_cancel, Nat.add_zero, Nat.reduceSub, Nat.reduceAdd, Nat.reduceMul, Nat.reduceEqDiff, Nat.reduceLT, Nat.reduceLeDiff, or_false, false_or, Nat.not_lt_zero]
  | succ n ih =>
    intro i fu hi hie hf
    obtain ⟨f, rfl⟩ : ∃ f, fu = f + 1 := ⟨fu - 1, by omega⟩
    have q := ih (i - 1) f (by omega) (by omega) (by omega)
    obtain ⟨e1, e2, e3⟩ := hT.2.2 (i - 1) (by omega)
    have hp := pkk_lt (e - i) i T (fun x hx => by have := hT.2.2 (i + x) (by omega); omega)
    have hp2 : 256 ^ (e - i) ≤ 256 ^ 6 := Nat.pow_le_pow_right (by omega) (by omega)
    have hpk : pkk T (e - (i - 1)) (i - 1) = T (i - 1) + 256 * pkk T (e - i) i := by
      rw [show e - (i - 1) = e - i + 1 by omega]
      show T (i - 1) + 256 * pkk T (e - i) (i - 1 + 1) = _
      rw [show i - 1 + 1 = i by omega]
    rw [hpk] at q
    have hsh := sh8 (x := pkk T (e - i) i) (c := T (i - 1)) (by omega) (by omega)
    rw [prv_s (by omega)]
    simp (disch := omega) only [b_107_8, e1, prv_d, hsh, q, nn_l, nn_o, nn_lt, nn_le, nn_eq, nn_cl, nn_add, nn_sub, if_pos, if_neg, lt_, Option.bind_some, ↓reduceIte, not_true_eq_false, not_false_eq_true, Nat.add_sub_cancel, Nat.add_zero, Nat.reduceSub, Nat.reduceAdd, Nat.reduceMul, Nat.reduceEqDiff, Nat.reduceLT, Nat.reduceLeDiff, or_false, false_or, Nat.not_lt_zero]
theorem m107_eq {s st e N : Nat} {ws : List Nat} {T : Nat → Nat} {I : dI} {J : dJ} (hT : Txm s T I) (he : e ≤ s) (hst : st < e) (hN : N < 9223372036854775808) (hw : pkk (fun x => ws.getD x 0) ws.length 0 = N) (hL : Wl ws) (hl : ws.length < 8) : (Wd T st e ws → m_107 (nn st) (nn e) (Int64.ofNat N) I J = some (nn 1)) ∧ (¬ Wd T st e ws → m_107 (nn st) (nn e) (Int64.ofNat N) I J = some (nn 0)) := by
  have hs := hT.2.1
  have e0 : nn e - 1 = prv e := by
    rw [prv_s (by omega), nn_l, nn_sub (by omega)]
  by_cases h8 : 8 ≤ e - st
  · have q := m107_lo (J := J) (N := Int64.ofNat N) hT he h8 (e - st) e FU 0 (by omega) (Nat.le_refl e) (by rw [show FU = 5000 from rfl]; omega)
    refine ⟨fun h => ?_, fun _ => ?_⟩
    · have := h.1; omega
    · show b_107_8 FU (nn st) (nn e) (Int64.ofNat N) 0 (nn e - 1) I J = _
      rw [e0]; exact q
  · have q := m107_sh (st := st) (N := N) (J := J) hT he (by omega) (by omega) hN (e - st) e FU (by omega) (Nat.le_refl e) (by rw [show FU = 5000 from rfl]; omega)
    have q2 : m_107 (nn st) (nn e) (Int64.ofNat N) I J = some (if pkk T (e - st) st = N then nn 1 else nn 0) := by
      show b_107_8 FU (nn st) (nn e) (Int64.ofNat N) 0 (nn e - 1) I J = _
      rw [e0]
      rw [Nat.sub_self] at q
      exact q
    refine ⟨fun h => ?_, fun h => ?_⟩
    · rw [q2, if_pos]
      rw [← hw]
      have hlen : e - st = ws.length := by have := h.1; omega
      rw [hlen]
      have key : ∀ n i, i + n = ws.length → pkk T n (st + i) = pkk (fun x => ws.getD x 0) n i := by
        intro n
        induction n with
        | zero => intro i _; rfl
        | succ n ih =>
          intro i hi
          show T (st + i) + 256 * pkk T n (st + i + 1) = ws.getD i 0 + 256 * pkk (fun x => ws.getD x 0) n (i + 1)
          rw [h.2 i (by omega), show st + i + 1 = st + (i + 1) by omega, ih (i + 1) (by omega)]
      exact key ws.length 0 (by omega)
    · rw [q2, if_neg]
      intro hc
      rw [← hw] at hc
      obtain ⟨a1, a2⟩ := pkk_inj (e - st) ws.length st 0 T (fun x => ws.getD x 0) (fun x hx => by have := hT.2.2 (st + x) (by omega); omega) (fun x hx => by have := hL x hx; rw [Nat.zero_add]; omega) hc
      refine h ⟨by omega, fun x hx => ?_⟩
      have := a2 x (by omega)
      rw [Nat.zero_add] at this
      exact this
