/-! Small whole numbers as ints; reading what was written. -/
def nn (n : Nat) : Int32 := Int32.ofNat n
theorem nn_l (n : Nat) : (@OfNat.ofNat Int32 n Int32.instOfNat) = nn (@OfNat.ofNat Nat n (instOfNatNat n)) := rfl
theorem nn_o (n : Nat) : Int32.ofNat n = nn n := rfl
theorem nn_i {a : Nat} (h : a < 2147483648) : (nn a).toInt = (a : Int) := Int32.toInt_ofNat_of_lt h
theorem nn_lt {a b : Nat} (ha : a < 2147483648) (hb : b < 2147483648) : (nn a < nn b) = (a < b) := by
  rw [Int32.lt_iff_toInt_lt, nn_i ha, nn_i hb]
  exact propext Int.ofNat_lt
theorem nn_le {a b : Nat} (ha : a < 2147483648) (hb : b < 2147483648) : (nn a ≤ nn b) = (a ≤ b) := by
  rw [Int32.le_iff_toInt_le, nn_i ha, nn_i hb]
  exact propext Int.ofNat_le
theorem nn_eq {a b : Nat} (ha : a < 2147483648) (hb : b < 2147483648) : (nn a = nn b) = (a = b) := by
  rw [← Int32.toInt_inj, nn_i ha, nn_i hb]
  exact propext Int.ofNat_inj
theorem nn_cl {a : Nat} (h : a < 2147483648) : Int32.toNatClampNeg (nn a) = a := by
  unfold Int32.toNatClampNeg
  rw [nn_i h]
  rfl
theorem nn_add (a b : Nat) : nn a + nn b = nn (a + b) := (Int32.ofNat_add a b).symm
theorem nn_sub {a b : Nat} (h : b ≤ a) : nn a - nn b = nn (a - b) := (Int32.ofNat_sub a b h).symm
theorem nn_mul (a b : Nat) : nn a * nn b = nn (a * b) := (Int32.ofNat_mul a b).symm
theorem nn_nI (a : Nat) : nI a = nn a := rfl
theorem nn_m1 : (-(nn 1) < nn 0) = True := eq_true (by decide)
theorem nn_m1e {a : Nat} (h : a < 2147483648) : (-(nn 1) = nn a) = False := by
  refine eq_false fun e => ?_
  have h2 := congrArg Int32.toInt e
  rw [nn_i h] at h2
  have h3 : (-(nn 1)).toInt = -1 := by decide
  rw [h3] at h2
  omega
theorem nn_long {a : Nat} (h : a < 2147483648) : Int32.toInt64 (nn a) = Int64.ofNat a := by
  apply Int64.toInt_inj.mp
  rw [Int32.toInt_toInt64, nn_i h, Int64.toInt_ofNat_of_lt (by omega)]
theorem nn_int {a : Nat} (h : a < 2147483648) : Int64.toInt32 (Int64.ofNat a) = nn a := Int64.toInt32_ofNat'
theorem lg_eq0 (x y : Int64) : (lg_cmp x y = nn 0) = (x = y) := propext (lg_cmp_eq x y)
theorem lg_lt0 (x y : Int64) : (lg_cmp x y < nn 0) = (x < y) := propext (lg_cmp_lt x y)
theorem lg_le0 (x y : Int64) : (lg_cmp x y ≤ nn 0) = (x ≤ y) := propext (lg_cmp_le x y)
theorem lg_gt0 (x y : Int64) : (nn 0 < lg_cmp x y) = (y < x) := propext (lg_cmp_gt x y)
theorem lg_ge0 (x y : Int64) : (nn 0 ≤ lg_cmp x y) = (y ≤ x) := propext (lg_cmp_ge x y)
theorem sI_ne {I : dI} {p k q : Nat} {v : Int32} (h : q ≠ p) : sI I p k v q = I q := if_neg h
theorem sI_eq {I : dI} {p k : Nat} {v : Int32} : sI I p k v p k = v := by simp [sI, rI, upd]
theorem sI_nk {I : dI} {p k j : Nat} {v : Int32} (h : j ≠ k) : sI I p k v p j = I p j := by simp [sI, rI, upd, h]
theorem sI_get (I : dI) (p k q j : Nat) (v : Int32) : sI I p k v q j = if q = p ∧ j = k then v else I q j := by
  by_cases h : q = p
  · subst h
    by_cases h2 : j = k
    · subst h2
      rw [sI_eq, if_pos ⟨rfl, rfl⟩]
    · rw [sI_nk h2, if_neg (fun x => h2 x.2)]
  · rw [sI_ne h, if_neg (fun x => h x.1)]
theorem sJ_ne {J : dJ} {p k q : Nat} {v : Int64} (h : q ≠ p) : sJ J p k v q = J q := if_neg h
theorem sJ_eq {J : dJ} {p k : Nat} {v : Int64} : sJ J p k v p k = v := by simp [sJ, rJ, vp_updL]
theorem sJ_nk {J : dJ} {p k j : Nat} {v : Int64} (h : j ≠ k) : sJ J p k v p j = J p j := by simp [sJ, rJ, vp_updL, h]
theorem sJ_get (J : dJ) (p k q j : Nat) (v : Int64) : sJ J p k v q j = if q = p ∧ j = k then v else J q j := by
  by_cases h : q = p
  · subst h
    by_cases h2 : j = k
    · subst h2
      rw [sJ_eq, if_pos ⟨rfl, rfl⟩]
    · rw [sJ_nk h2, if_neg (fun x => h2 x.2)]
  · rw [sJ_ne h, if_neg (fun x => h x.1)]
theorem rI_ne {I : dI} {p q : Nat} {f : Nat → Int32} (h : q ≠ p) : rI I p f q = I q := if_neg h
theorem rI_eq {I : dI} {p : Nat} {f : Nat → Int32} : rI I p f p = f := if_pos rfl
theorem rJ_ne {J : dJ} {p q : Nat} {f : Nat → Int64} (h : q ≠ p) : rJ J p f q = J q := if_neg h
theorem rJ_eq {J : dJ} {p : Nat} {f : Nat → Int64} : rJ J p f p = f := if_pos rfl
