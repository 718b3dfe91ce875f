/-! What a helper answers, told beforehand; each call of the class beside the reference's. -/
def oq (n : Nat) (x : Int32) : Bool := decide (x < 0 ∨ nn n < x)
def oc_t (A : xm_H) (x : Int32) : Bool := match A[20 + 9 * x.toNatClampNeg]? with
  | some (.inr (_, fs)) => (match (fs : List Value)[1]? with
    | some (Value.int y) => decide (y = 0)
    | _ => false)
  | _ => false
def orc_ (j : Nat) (A : xm_H) (As : List Value) : Option Int32 := match As with
  | .ref _ :: .int x :: r => (match j with
    | 0 => if oq 7 x then some 1 else none
    | 1 => if oq 7 x then some 1 else none
    | 2 => if oq 33 x then some 1 else none
    | 3 => if oq 255 x then some 1 else none
    | 4 => (match r with
      | .int y :: _ => if oq 7 x || oq 1000 y then some 1 else if oc_t A x then some 2 else none
      | _ => none)
    | 5 => if oq 7 x then some 1 else if oc_t A x then some 2 else none
    | 6 => (match r with
      | .int y :: _ => if oq 7 x || oq 5 y then some 1 else if oc_t A x then some 2 else none
      | _ => none)
    | _ => none)
  | _ => none
section ORA
variable {A : xm_H} {p : Nat} {x y : Int32} {r : List Value}
theorem orc_0 : orc_ 0 A (.ref p :: .int x :: r) = if oq 7 x then some 1 else none := rfl
theorem orc_1 : orc_ 1 A (.ref p :: .int x :: r) = if oq 7 x then some 1 else none := rfl
theorem orc_2 : orc_ 2 A (.ref p :: .int x :: r) = if oq 33 x then some 1 else none := rfl
theorem orc_3 : orc_ 3 A (.ref p :: .int x :: r) = if oq 255 x then some 1 else none := rfl
theorem orc_4 : orc_ 4 A (.ref p :: .int x :: .int y :: r) = if oq 7 x || oq 1000 y then some 1 else if oc_t A x then some 2 else none := rfl
theorem orc_5 : orc_ 5 A (.ref p :: .int x :: r) = if oq 7 x then some 1 else if oc_t A x then some 2 else none := rfl
theorem orc_6 : orc_ 6 A (.ref p :: .int x :: .int y :: r) = if oq 7 x || oq 5 y then some 1 else if oc_t A x then some 2 else none := rfl
end ORA
theorem nq (n : Nat) (hn : n < 2000000) (x : Int32) : (oq n x = true ∧ (x < 0 ∨ nn n < x)) ∨ ∃ k, k ≤ n ∧ x = nn k ∧ oq n x = false := by
  by_cases c : x < 0 ∨ nn n < x
  · exact Or.inl ⟨decide_eq_true c, c⟩
  · refine Or.inr ⟨x.toNatClampNeg, ?_, ?_, decide_eq_false c⟩
    · have c1 : ¬ x < 0 := fun h => c (Or.inl h)
      have c2 : ¬ nn n < x := fun h => c (Or.inr h)
      rw [Int32.lt_iff_toInt_lt] at c1 c2
      rw [nn_i (by omega)] at c2
      unfold Int32.toNatClampNeg
      omega
    · have c1 : ¬ x < 0 := fun h => c (Or.inl h)
      have c2 : ¬ nn n < x := fun h => c (Or.inr h)
      rw [Int32.lt_iff_toInt_lt] at c1 c2
      rw [nn_i (by omega)] at c2
      have c3 : ¬ x.toInt < 0 := c1
      apply Int32.toInt_inj.mp
      unfold Int32.toNatClampNeg
      rw [nn_i (by omega)]
      omega
theorem nq_lt {n : Nat} (hn : n < 2000000) {x : Int32} (h : x < 0 ∨ nn n < x) : x < 0 ∨ ¬ x < nn (n + 1) := by
  refine h.imp id fun h2 h3 => ?_
  rw [Int32.lt_iff_toInt_lt] at h2 h3
  rw [nn_i (by omega)] at h2 h3
  omega
theorem nq_le {n : Nat} {x : Int32} (h : x < 0 ∨ nn n < x) : x < 0 ∨ ¬ x ≤ nn n := by
  refine h.imp id fun h2 h3 => ?_
  rw [Int32.lt_iff_toInt_lt] at h2
  rw [Int32.le_iff_toInt_le] at h3
  omega
theorem m40_out {x : Int32} {I : dI} {J : dJ} (h : x < 0 ∨ nn 7 < x) : m_40 x I J = some none := by
  unfold m_40 b_40_0
  by_cases c : x < 0
  · rw [if_pos c]
  · rw [if_neg c, if_pos]
    have h2 := h.resolve_left c
    rw [Int32.lt_iff_toInt_lt, nn_i (by omega)] at h2
    rw [Int32.le_iff_toInt_le, show Int32.ofNat 8 = nn 8 from rfl, nn_i (by omega)]
    omega
theorem oc_k {Q : Nat → Option Nat} {k : Nat} (hk : k < 8) (I : dI) (J : dJ) : oc_t (bld Q I J) (nn k) = decide (I (20 + 9 * k) 1 = 0) := by
  have okc := ok_ca (m40_eq hk I J)
  unfold oc_t
  rw [nn_cl (by omega), bld_get okc.1]
  rfl
def HX (d : Nat) (Q : Nat → Option Nat) (j : Nat) (I : dI) (J : dJ) (As : List Value) (rv : Int32) (c s : Nat) (I1 : dI) (J1 : dJ) : Prop := ∃ F1, ∀ F, F1 ≤ F → hl_f F d orc_ j (bld Q I J) As = some (bld Q I1 J1, .int rv, c, s)
section HXA
variable {d : Nat} {Q : Nat → Option Nat} {j : Nat} {I I1 : dI} {J J1 : dJ} {As : List Value} {rv : Int32}
theorem HX.no (ho : orc_ j (bld Q I J) As = none) (h : ∃ F1, ∀ F, F1 ≤ F → hl_rn F (d + 1) j (bld Q I J) As = some (bld Q I1 J1, .inl (some (.int rv)), 0, 0)) : HX d Q j I J As rv 0 0 I1 J1 := by
  obtain ⟨F1, h⟩ := h
  refine ⟨F1, fun F hF => ?_⟩
  unfold hl_f
  rw [ho]
  dsimp only
  rw [h F hF]
  dsimp only
  rw [if_pos (by rw [bld_len, bld_len])]
theorem HX.th (ho : orc_ j (bld Q I J) As = some rv) (h : ∃ F1, ∀ F, F1 ≤ F → hl_TH F d j (bld Q I J) As rv) : HX d Q j I J As rv 1 6 I J := by
  obtain ⟨F1, h⟩ := h
  refine ⟨F1, fun F hF => ?_⟩
  unfold hl_f
  rw [ho]
  dsimp only
  rw [if_pos (h F hF)]
end HXA
section POA
variable {N N' d : Nat} {Q : Nat → Option Nat} {I I1 I2 : dI} {J J1 J1' J2 : dJ}
theorem dbl2 (h : Inv2 N I J I J) (hc : CF I J I1 J1') (hj : ∀ q, q ≠ 119 → J1 q = J1' q) : Inv2 N I J I1 J1 := inv2_fr (Nat.le_refl _) (fun _ _ => ⟨rfl, rfl⟩) (fun q a b => ⟨(hc q a).1, by rw [hj q (by omega), (hc q a).2]⟩) h
theorem fin2 (hN : N ≤ N') (hm : MF I1 J1 I2 J2) (hj : ∀ q, q ≠ 119 → J1 q = J1' q) (h : Inv2 N I1 J1' I2 J2) : Inv2 N' I2 J2 I2 J2 := inv2_fr hN (fun q a => ⟨(hm q (Or.inl a)).1, by rw [(hm q (Or.inl a)).2, hj q (by omega)]⟩) (fun _ _ _ => ⟨rfl, rfl⟩) h
theorem out2 {x : Int32} (h : Inv2 N I J I J) : Inv2 (N + 9) (sI I 92 0 x) J (sI I 92 0 x) J := fin2 (by omega) (mf_code (Im := I) (Jm := J)) (fun _ _ => rfl) (inv_code (x := x) h)
end POA
section POW
variable {d : Nat} {Q : Nat → Option Nat} {I I1 : dI} {J J1 : dJ}
theorem hm_0 {x : Int32} {r : Int32} (hD : 8 ≤ d + 1) (hQ : ∀ j, j < 8 → Q j = some (20 + 9 * j)) (h : m_39 x I J = some (r, I1, J1)) : ∃ F1, ∀ F, F1 ≤ F → hl_rn F (d + 1) 0 (bld Q I J) [.ref 0, .int x, .ref 119] = some (bld Q I1 (sJ J1 119 0 (Int32.toInt64 r)), .inl (some (.int 0)), 0, 0) := hn_0 (R := (r, I1, J1)) hD hQ h
theorem hm_1a {x : Int32} {r : Int32} (hD : 3 ≤ d + 1) (hQ : ∀ j, j < 8 → Q j = some (20 + 9 * j)) (h : m_85 x I J = some (r, I1, J1)) (hr : r = nn 0) : ∃ F1, ∀ F, F1 ≤ F → hl_rn F (d + 1) 1 (bld Q I J) [.ref 0, .int x, .ref 119] = some (bld Q I1 (sJ J1 119 0 0), .inl (some (.int 0)), 0, 0) := hn_1a (R := (r, I1, J1)) hD hQ h hr
theorem hm_1b {x : Int32} {r : Int32} (hD : 3 ≤ d + 1) (hQ : ∀ j, j < 8 → Q j = some (20 + 9 * j)) (h : m_85 x I J = some (r, I1, J1)) (hr : r = nn 1) : ∃ F1, ∀ F, F1 ≤ F → hl_rn F (d + 1) 1 (bld Q I J) [.ref 0, .int x, .ref 119] = some (bld Q I1 (sJ J1 119 0 1), .inl (some (.int 0)), 0, 0) := hn_1b (R := (r, I1, J1)) hD hQ h hr
theorem hm_2 {x y : Int32} (hD : 3 ≤ d + 1) (h : m_86 x y I J = some (I1, J1)) : ∃ F1, ∀ F, F1 ≤ F → hl_rn F (d + 1) 2 (bld Q I J) [.ref 0, .int x, .int y] = some (bld Q I1 J1, .inl (some (.int 0)), 0, 0) := hn_2 (R := (I1, J1)) hD h
theorem hm_3 {x y : Int32} (hD : 3 ≤ d + 1) (h : m_88 x y I J = some (I1, J1)) : ∃ F1, ∀ F, F1 ≤ F → hl_rn F (d + 1) 3 (bld Q I J) [.ref 0, .int x, .int y] = some (bld Q I1 J1, .inl (some (.int 0)), 0, 0) := hn_3 (R := (I1, J1)) hD h
theorem hm_4 {x y : Int32} {r : Int32} (hD : 3 ≤ d + 1) (hQ : ∀ j, j < 8 → Q j = some (20 + 9 * j)) (h : m_90 x y I J = some (r, I1, J1)) : ∃ F1, ∀ F, F1 ≤ F → hl_rn F (d + 1) 4 (bld Q I J) [.ref 0, .int x, .int y, .ref 119] = some (bld Q I1 (sJ J1 119 0 (Int32.toInt64 r)), .inl (some (.int 0)), 0, 0) := hn_4 (R := (r, I1, J1)) hD hQ h
theorem hm_5 {x : Int32} {r : Int32} (hD : 129 ≤ d + 1) (hQ : ∀ j, j < 8 → Q j = some (20 + 9 * j)) (h : m_91 x I J = some (r, I1, J1)) : ∃ F1, ∀ F, F1 ≤ F → hl_rn F (d + 1) 5 (bld Q I J) [.ref 0, .int x, .ref 119] = some (bld Q I1 (sJ J1 119 0 (Int32.toInt64 r)), .inl (some (.int 0)), 0, 0) := hn_5 (R := (r, I1, J1)) hD hQ h
theorem hm_6 {x y : Int32} {r : Int64} (hD : 3 ≤ d + 1) (hQ : ∀ j, j < 8 → Q j = some (20 + 9 * j)) (h : m_92 x y I J = some (r, I1, J1)) : ∃ F1, ∀ F, F1 ≤ F → hl_rn F (d + 1) 6 (bld Q I J) [.ref 0, .int x, .int y, .ref 119] = some (bld Q I1 (sJ J1 119 0 r), .inl (some (.int 0)), 0, 0) := hn_6 (R := (r, I1, J1)) hD hQ h
end POW
