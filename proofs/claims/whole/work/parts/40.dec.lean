/-! Printed by wip/whole/gen_dec.py: methods read back. -/
-- ConditionDesk$Text.append(C)Z
theorem L_10 : tb_mL 10 = 2 := by decide +kernel
theorem R_10 : tb_mr 10 = some .boolean := by decide +kernel
theorem dk_10_0 : decode (tb_mb 10) 0 = .ok (.iload_n 1, 1) := by decide +kernel
theorem dk_10_1 : decode (tb_mb 10) 1 = .ok (.bipush (32), 2) := by decide +kernel
theorem dk_10_3 : decode (tb_mb 10) 3 = .ok (.if_icmp .lt (28), 3) := by decide +kernel
theorem dk_10_31 : decode (tb_mb 10) 31 = .ok (.iconst (0), 1) := by decide +kernel
theorem dk_10_32 : decode (tb_mb 10) 32 = .ok (.ireturn, 1) := by decide +kernel
theorem dk_10_6 : decode (tb_mb 10) 6 = .ok (.iload_n 1, 1) := by decide +kernel
theorem dk_10_7 : decode (tb_mb 10) 7 = .ok (.bipush (126), 2) := by decide +kernel
theorem dk_10_9 : decode (tb_mb 10) 9 = .ok (.if_icmp .gt (22), 3) := by decide +kernel
theorem dk_10_12 : decode (tb_mb 10) 12 = .ok (.aload_n 0, 1) := by decide +kernel
theorem dk_10_13 : decode (tb_mb 10) 13 = .ok (.getfield 15, 3) := by decide +kernel
theorem f_10_13 : ∃ b, tb_fr (tb_oc 10) 15 = some (5, 1, b) := ⟨_, rfl⟩
theorem dk_10_16 : decode (tb_mb 10) 16 = .ok (.ifCond .lt (15), 3) := by decide +kernel
theorem dk_10_19 : decode (tb_mb 10) 19 = .ok (.aload_n 0, 1) := by decide +kernel
theorem dk_10_20 : decode (tb_mb 10) 20 = .ok (.getfield 15, 3) := by decide +kernel
theorem f_10_20 : ∃ b, tb_fr (tb_oc 10) 15 = some (5, 1, b) := ⟨_, rfl⟩
theorem dk_10_23 : decode (tb_mb 10) 23 = .ok (.aload_n 0, 1) := by decide +kernel
theorem dk_10_24 : decode (tb_mb 10) 24 = .ok (.getfield 9, 3) := by decide +kernel
theorem f_10_24 : ∃ b, tb_fr (tb_oc 10) 9 = some (5, 0, b) := ⟨_, rfl⟩
theorem dk_10_27 : decode (tb_mb 10) 27 = .ok (.arraylength, 1) := by decide +kernel
theorem dk_10_28 : decode (tb_mb 10) 28 = .ok (.if_icmp .lt (5), 3) := by decide +kernel
theorem dk_10_33 : decode (tb_mb 10) 33 = .ok (.aload_n 0, 1) := by decide +kernel
theorem dk_10_34 : decode (tb_mb 10) 34 = .ok (.getfield 9, 3) := by decide +kernel
theorem f_10_34 : ∃ b, tb_fr (tb_oc 10) 9 = some (5, 0, b) := ⟨_, rfl⟩
theorem dk_10_37 : decode (tb_mb 10) 37 = .ok (.aload_n 0, 1) := by decide +kernel
theorem dk_10_38 : decode (tb_mb 10) 38 = .ok (.getfield 15, 3) := by decide +kernel
theorem f_10_38 : ∃ b, tb_fr (tb_oc 10) 15 = some (5, 1, b) := ⟨_, rfl⟩
theorem dk_10_41 : decode (tb_mb 10) 41 = .ok (.iload_n 1, 1) := by decide +kernel
theorem dk_10_42 : decode (tb_mb 10) 42 = .ok (.castore, 1) := by decide +kernel
theorem dk_10_43 : decode (tb_mb 10) 43 = .ok (.aload_n 0, 1) := by decide +kernel
theorem dk_10_44 : decode (tb_mb 10) 44 = .ok (.dup, 1) := by decide +kernel
theorem dk_10_45 : decode (tb_mb 10) 45 = .ok (.getfield 15, 3) := by decide +kernel
theorem f_10_45 : ∃ b, tb_fr (tb_oc 10) 15 = some (5, 1, b) := ⟨_, rfl⟩
theorem dk_10_48 : decode (tb_mb 10) 48 = .ok (.iconst (1), 1) := by decide +kernel
theorem dk_10_49 : decode (tb_mb 10) 49 = .ok (.iadd, 1) := by decide +kernel
theorem dk_10_50 : decode (tb_mb 10) 50 = .ok (.putfield 15, 3) := by decide +kernel
theorem f_10_50 : ∃ b, tb_fr (tb_oc 10) 15 = some (5, 1, b) ∧ xm_fin tb_cl (tb_ini 10) b 5 1 = true := ⟨_, rfl, rfl⟩
theorem dk_10_53 : decode (tb_mb 10) 53 = .ok (.iconst (1), 1) := by decide +kernel
theorem dk_10_54 : decode (tb_mb 10) 54 = .ok (.ireturn, 1) := by decide +kernel
def b_10_0 (x1 : Int32) (I : dI) (J : dJ) : Option (Int32 × dI × dJ) := if x1 < 32 then (some (0, I, J)) else (if 126 < x1 then (some (0, I, J)) else (if (I 1 1) < 0 then (some (0, I, J)) else (if (I 1 1) < (Int32.ofNat 120) then (if ¬ ((I 1 1) < 0 ∨ 120 ≤ Int32.toNatClampNeg (I 1 1)) then lt_ (sI I 2 (Int32.toNatClampNeg (I 1 1)) (vp_nar .char x1)) (fun I6 => lt_ (sI I6 1 1 ((I6 1 1) + 1)) (fun I7 => some (1, I7, J))) else none) else (some (0, I, J)))))
theorem p_10_0 {Q : Nat → Option Nat} {D : Nat} (hD : 1 ≤ D) (x1 : Int32) (I : dI) (J : dJ) (R : (Int32 × dI × dJ)) (h : b_10_0 x1 I J = some R) : Rn Q D 10 0 [(0, .ref 1), (1, .int x1)] [] I J (some (.int R.1)) R.2.1 R.2.2 := by
  replace h : (if x1 < 32 then (some (0, I, J)) else (if 126 < x1 then (some (0, I, J)) else (if (I 1 1) < 0 then (some (0, I, J)) else (if (I 1 1) < (Int32.ofNat 120) then (if ¬ ((I 1 1) < 0 ∨ 120 ≤ Int32.toNatClampNeg (I 1 1)) then lt_ (sI I 2 (Int32.toNatClampNeg (I 1 1)) (vp_nar .char x1)) (fun I6 => lt_ (sI I6 1 1 ((I6 1 1) + 1)) (fun I7 => some (1, I7, J))) else none) else (some (0, I, J)))))) = some R := h
  refine Rn.pu (st' := [.int x1]) dk_10_0 L_10 rfl ?_
  refine Rn.bp dk_10_1 cbp_32 ?_
  by_cases c1 : x1 < 32
  · rw [if_pos c1] at h
    refine Rn.i2t (t := 31) dk_10_3 rfl (decide_eq_true c1) ?_
    refine Rn.ic dk_10_31 cic_0 ?_
    cases h
    exact Rn.ri dk_10_32 R_10 rfl
  · rw [if_neg c1] at h
    refine Rn.i2f (t := 31) dk_10_3 rfl (decide_eq_false c1) ?_
    refine Rn.pu (st' := [.int x1]) dk_10_6 L_10 rfl ?_
    refine Rn.bp dk_10_7 cbp_126 ?_
    by_cases c2 : 126 < x1
    · rw [if_pos c2] at h
      refine Rn.i2t (t := 31) dk_10_9 rfl (decide_eq_true c2) ?_
      refine Rn.ic dk_10_31 cic_0 ?_
      cases h
      exact Rn.ri dk_10_32 R_10 rfl
    · rw [if_neg c2] at h
      refine Rn.i2f (t := 31) dk_10_9 rfl (decide_eq_false c2) ?_
      refine Rn.pu (st' := [.ref 1]) dk_10_12 L_10 rfl ?_
      refine Rn.gI dk_10_13 f_10_13.choose_spec sk_1 rfl ?_
      by_cases c3 : (I 1 1) < 0
      · rw [if_pos c3] at h
        refine Rn.i1t (t := 31) dk_10_16 rfl (decide_eq_true c3) ?_
        refine Rn.ic dk_10_31 cic_0 ?_
        cases h
        exact Rn.ri dk_10_32 R_10 rfl
      · rw [if_neg c3] at h
        refine Rn.i1f (t := 31) dk_10_16 rfl (decide_eq_false c3) ?_
        refine Rn.pu (st' := [.ref 1]) dk_10_19 L_10 rfl ?_
        refine Rn.gI dk_10_20 f_10_20.choose_spec sk_1 rfl ?_
        refine Rn.pu (st' := [.ref 1, .int (I 1 1)]) dk_10_23 L_10 rfl ?_
        refine Rn.gR (r := 2) dk_10_24 f_10_24.choose_spec sk_1 rfl ?_
        refine Rn.alen dk_10_27 sk_2 (by decide) ?_
        by_cases c4 : (I 1 1) < (Int32.ofNat 120)
        · rw [if_pos c4] at h
          refine Rn.i2t (t := 33) dk_10_28 rfl (decide_eq_true c4) ?_
          refine Rn.pu (st' := [.ref 1]) dk_10_33 L_10 rfl ?_
          refine Rn.gR (r := 2) dk_10_34 f_10_34.choose_spec sk_1 rfl ?_
          refine Rn.pu (st' := [.ref 1, .ref 2]) dk_10_37 L_10 rfl ?_
          refine Rn.gI dk_10_38 f_10_38.choose_spec sk_1 rfl ?_
          refine Rn.pu (st' := [.int x1, .int (I 1 1), .ref 2]) dk_10_41 L_10 rfl ?_
          obtain ⟨c5, h⟩ := xm_if h
          obtain ⟨I6, eI6, h⟩ := letS h
          refine Rn.cast dk_10_42 sk_2 c5 ?_
          rw [← eI6]
          refine Rn.pu (st' := [.ref 1]) dk_10_43 L_10 rfl ?_
          refine Rn.pu (st' := [.ref 1, .ref 1]) dk_10_44 L_10 rfl ?_
          refine Rn.gI dk_10_45 f_10_45.choose_spec sk_1 rfl ?_
          refine Rn.ic dk_10_48 cic_1 ?_
          refine Rn.pu (st' := [.int ((I6 1 1) + 1), .ref 1]) dk_10_49 L_10 rfl ?_
          obtain ⟨I7, eI7, h⟩ := letS h
          refine Rn.pI dk_10_50 f_10_50.choose_spec.1 sk_1 rfl f_10_50.choose_spec.2 rfl rfl ?_
          rw [← eI7]
          refine Rn.ic dk_10_53 cic_1 ?_
          cases h
          exact Rn.ri dk_10_54 R_10 rfl
        · rw [if_neg c4] at h
          refine Rn.i2f (t := 33) dk_10_28 rfl (decide_eq_false c4) ?_
          refine Rn.ic dk_10_31 cic_0 ?_
          cases h
          exact Rn.ri dk_10_32 R_10 rfl
def m_10 (x1 : Int32) (I : dI) (J : dJ) : Option (Int32 × dI × dJ) := b_10_0 x1 I J
theorem x_10 {Q : Nat → Option Nat} {D : Nat} (hD : 2 ≤ D) {x1 : Int32} {I : dI} {J : dJ} {R : (Int32 × dI × dJ)} (h : m_10 x1 I J = some R) : Ex Q D 10 I J [.ref 1, .int x1] (some (.int R.1)) R.2.1 R.2.2 := by
  obtain ⟨D, rfl⟩ : ∃ D', D = D' + 1 := ⟨D - 1, by omega⟩
  exact Ex.of (by decide) (by rw [L_10]; exact Nat.le_of_ble_eq_true rfl) (show xm_sub [(0, .ref 1), (1, .int x1)] [(0, .ref 1), (1, .int x1)] from xm_sub_of [0, 1] [0, 1] rfl rfl (by decide)) (p_10_0 (Nat.le_of_succ_le_succ hD) _ _ _ _ h)
-- ConditionDesk.type(C)Z
theorem L_9 : tb_mL 9 = 2 := by decide +kernel
theorem R_9 : tb_mr 9 = some .boolean := by decide +kernel
theorem dk_9_0 : decode (tb_mb 9) 0 = .ok (.aload_n 0, 1) := by decide +kernel
theorem dk_9_1 : decode (tb_mb 9) 1 = .ok (.getfield 10, 3) := by decide +kernel
theorem f_9_1 : ∃ b, tb_fr (tb_oc 9) 10 = some (8, 0, b) := ⟨_, rfl⟩
theorem dk_9_4 : decode (tb_mb 9) 4 = .ok (.iload_n 1, 1) := by decide +kernel
theorem dk_9_5 : decode (tb_mb 9) 5 = .ok (.invokevirtual 45, 3) := by decide +kernel
theorem ck_9_5 : ∃ b, tb_cr (tb_oc 9) 45 = some (0, 10, b, 1) := ⟨_, rfl⟩
theorem dk_9_8 : decode (tb_mb 9) 8 = .ok (.ireturn, 1) := by decide +kernel
def b_9_0 (x1 : Int32) (I : dI) (J : dJ) : Option (Int32 × dI × dJ) := (m_10 x1 I J).bind (fun r1 => if r1.1 = 0 ∨ r1.1 = 1 then (some (r1.1, r1.2.1, r1.2.2)) else none)
theorem p_9_0 {Q : Nat → Option Nat} {D : Nat} (hD : 2 ≤ D) (x1 : Int32) (I : dI) (J : dJ) (R : (Int32 × dI × dJ)) (h : b_9_0 x1 I J = some R) : Rn Q D 9 0 [(0, .ref 0), (1, .int x1)] [] I J (some (.int R.1)) R.2.1 R.2.2 := by
  replace h : ((m_10 x1 I J).bind (fun r1 => if r1.1 = 0 ∨ r1.1 = 1 then (some (r1.1, r1.2.1, r1.2.2)) else none)) = some R := h
  refine Rn.pu (st' := [.ref 0]) dk_9_0 L_9 rfl ?_
  refine Rn.gR (r := 1) dk_9_1 f_9_1.choose_spec sk_0 rfl ?_
  refine Rn.pu (st' := [.int x1, .ref 1]) dk_9_4 L_9 rfl ?_
  obtain ⟨r1, e2, h⟩ := bindS h
  refine Rn.cvI (p := 1) (As := [.int x1]) (rest := []) dk_9_5 ck_9_5.choose_spec rfl sk_1 rfl (x_10 (Nat.le_trans (Nat.le_of_ble_eq_true rfl) hD) e2) ?_
  obtain ⟨c3, h⟩ := xm_if h
  cases h
  exact Rn.ri dk_9_8 R_9 (nar_b c3)
def m_9 (x1 : Int32) (I : dI) (J : dJ) : Option (Int32 × dI × dJ) := b_9_0 x1 I J
theorem x_9 {Q : Nat → Option Nat} {D : Nat} (hD : 3 ≤ D) {x1 : Int32} {I : dI} {J : dJ} {R : (Int32 × dI × dJ)} (h : m_9 x1 I J = some R) : Ex Q D 9 I J [.ref 0, .int x1] (some (.int R.1)) R.2.1 R.2.2 := by
  obtain ⟨D, rfl⟩ : ∃ D', D = D' + 1 := ⟨D - 1, by omega⟩
  exact Ex.of (by decide) (by rw [L_9]; exact Nat.le_of_ble_eq_true rfl) (show xm_sub [(0, .ref 0), (1, .int x1)] [(0, .ref 0), (1, .int x1)] from xm_sub_of [0, 1] [0, 1] rfl rfl (by decide)) (p_9_0 (Nat.le_of_succ_le_succ hD) _ _ _ _ h)
-- ConditionDesk.go(J)V
theorem L_11 : tb_mL 11 = 3 := by decide +kernel
theorem R_11 : tb_mr 11 = none := by decide +kernel
theorem dk_11_0 : decode (tb_mb 11) 0 = .ok (.aload_n 0, 1) := by decide +kernel
theorem dk_11_1 : decode (tb_mb 11) 1 = .ok (.getfield 19, 3) := by decide +kernel
theorem f_11_1 : ∃ b, tb_fr (tb_oc 11) 19 = some (8, 1, b) := ⟨_, rfl⟩
theorem dk_11_4 : decode (tb_mb 11) 4 = .ok (.lload_n 1, 1) := by decide +kernel
theorem dk_11_5 : decode (tb_mb 11) 5 = .ok (.putfield 85, 3) := by decide +kernel
theorem f_11_5 : ∃ b, tb_fr (tb_oc 11) 85 = some (2, 2, b) ∧ xm_fin tb_cl (tb_ini 11) b 2 2 = true := ⟨_, rfl, rfl⟩
theorem dk_11_8 : decode (tb_mb 11) 8 = .ok (.return_, 1) := by decide +kernel
def b_11_0 (x1 : Int64) (I : dI) (J : dJ) : Option (dI × dJ) := lt_ (sJ J 3 2 x1) (fun J1 => some (I, J1))
theorem p_11_0 {Q : Nat → Option Nat} {D : Nat} (hD : 1 ≤ D) (x1 : Int64) (I : dI) (J : dJ) (R : (dI × dJ)) (h : b_11_0 x1 I J = some R) : Rn Q D 11 0 [(0, .ref 0), (1, .long x1)] [] I J (none) R.1 R.2 := by
  replace h : (lt_ (sJ J 3 2 x1) (fun J1 => some (I, J1))) = some R := h
  refine Rn.pu (st' := [.ref 0]) dk_11_0 L_11 rfl ?_
  refine Rn.gR (r := 3) dk_11_1 f_11_1.choose_spec sk_0 rfl ?_
  refine Rn.pu (st' := [.long x1, .ref 3]) dk_11_4 L_11 rfl ?_
  obtain ⟨J1, eJ1, h⟩ := letS h
  refine Rn.pJ dk_11_5 f_11_5.choose_spec.1 sk_3 rfl f_11_5.choose_spec.2 rfl rfl ?_
  rw [← eJ1]
  cases h
  exact Rn.rv dk_11_8 R_11
def m_11 (x1 : Int64) (I : dI) (J : dJ) : Option (dI × dJ) := b_11_0 x1 I J
theorem x_11 {Q : Nat → Option Nat} {D : Nat} (hD : 2 ≤ D) {x1 : Int64} {I : dI} {J : dJ} {R : (dI × dJ)} (h : m_11 x1 I J = some R) : Ex Q D 11 I J [.ref 0, .long x1] (none) R.1 R.2 := by
  obtain ⟨D, rfl⟩ : ∃ D', D = D' + 1 := ⟨D - 1, by omega⟩
  exact Ex.of (by decide) (by rw [L_11]; exact Nat.le_of_ble_eq_true rfl) (show xm_sub [(0, .ref 0), (1, .long x1)] [(0, .ref 0), (1, .long x1)] from xm_sub_of [0, 1] [0, 1] rfl rfl (by decide)) (p_11_0 (Nat.le_of_succ_le_succ hD) _ _ _ _ h)
-- ConditionDesk$Program.has(I)Z
theorem L_16 : tb_mL 16 = 2 := by decide +kernel
theorem R_16 : tb_mr 16 = some .boolean := by decide +kernel
theorem dk_16_0 : decode (tb_mb 16) 0 = .ok (.iload_n 1, 1) := by decide +kernel
theorem dk_16_1 : decode (tb_mb 16) 1 = .ok (.ifCond .lt (15), 3) := by decide +kernel
theorem dk_16_16 : decode (tb_mb 16) 16 = .ok (.iconst (0), 1) := by decide +kernel
theorem dk_16_17 : decode (tb_mb 16) 17 = .ok (.ireturn, 1) := by decide +kernel
theorem dk_16_4 : decode (tb_mb 16) 4 = .ok (.iload_n 1, 1) := by decide +kernel
theorem dk_16_5 : decode (tb_mb 16) 5 = .ok (.aload_n 0, 1) := by decide +kernel
theorem dk_16_6 : decode (tb_mb 16) 6 = .ok (.getfield 25, 3) := by decide +kernel
theorem f_16_6 : ∃ b, tb_fr (tb_oc 16) 25 = some (4, 4, b) := ⟨_, rfl⟩
theorem dk_16_9 : decode (tb_mb 16) 9 = .ok (.if_icmp .ge (7), 3) := by decide +kernel
theorem dk_16_12 : decode (tb_mb 16) 12 = .ok (.iconst (1), 1) := by decide +kernel
theorem dk_16_13 : decode (tb_mb 16) 13 = .ok (.goto (4), 3) := by decide +kernel
def b_16_0 (p : Nat) (x1 : Int32) (I : dI) (J : dJ) : Option Int32 := if x1 < 0 then (some 0) else (if (I p 4) ≤ x1 then (some 0) else (some 1))
theorem p_16_0 {Q : Nat → Option Nat} {D : Nat} {p : Nat} (hD : 1 ≤ D) (okp : okPr p) (x1 : Int32) (I : dI) (J : dJ) (R : Int32) (h : b_16_0 p x1 I J = some R) : Rn Q D 16 0 [(0, .ref p), (1, .int x1)] [] I J (some (.int R)) I J := by
  replace h : (if x1 < 0 then (some 0) else (if (I p 4) ≤ x1 then (some 0) else (some 1))) = some R := h
  refine Rn.pu (st' := [.int x1]) dk_16_0 L_16 rfl ?_
  by_cases c1 : x1 < 0
  · rw [if_pos c1] at h
    refine Rn.i1t (t := 16) dk_16_1 rfl (decide_eq_true c1) ?_
    refine Rn.ic dk_16_16 cic_0 ?_
    cases h
    exact Rn.ri dk_16_17 R_16 rfl
  · rw [if_neg c1] at h
    refine Rn.i1f (t := 16) dk_16_1 rfl (decide_eq_false c1) ?_
    refine Rn.pu (st' := [.int x1]) dk_16_4 L_16 rfl ?_
    refine Rn.pu (st' := [.ref p, .int x1]) dk_16_5 L_16 rfl ?_
    refine Rn.gI dk_16_6 f_16_6.choose_spec okp.1 rfl ?_
    by_cases c2 : (I p 4) ≤ x1
    · rw [if_pos c2] at h
      refine Rn.i2t (t := 16) dk_16_9 rfl (decide_eq_true c2) ?_
      refine Rn.ic dk_16_16 cic_0 ?_
      cases h
      exact Rn.ri dk_16_17 R_16 rfl
    · rw [if_neg c2] at h
      refine Rn.i2f (t := 16) dk_16_9 rfl (decide_eq_false c2) ?_
      refine Rn.ic dk_16_12 cic_1 ?_
      refine Rn.gt (t := 17) dk_16_13 rfl ?_
      cases h
      exact Rn.ri dk_16_17 R_16 rfl
def m_16 (p : Nat) (x1 : Int32) (I : dI) (J : dJ) : Option Int32 := b_16_0 p x1 I J
theorem x_16 {Q : Nat → Option Nat} {D : Nat} {p : Nat} (hD : 2 ≤ D) (okp : okPr p) {x1 : Int32} {I : dI} {J : dJ} {R : Int32} (h : m_16 p x1 I J = some R) : Ex Q D 16 I J [.ref p, .int x1] (some (.int R)) I J := by
  obtain ⟨D, rfl⟩ : ∃ D', D = D' + 1 := ⟨D - 1, by omega⟩
  exact Ex.of (by decide) (by rw [L_16]; exact Nat.le_of_ble_eq_true rfl) (show xm_sub [(0, .ref p), (1, .int x1)] [(0, .ref p), (1, .int x1)] from xm_sub_of [0, 1] [0, 1] rfl rfl (by decide)) (p_16_0 (Nat.le_of_succ_le_succ hD) okp _ _ _ _ h)
-- ConditionDesk$Program.kindAt(I)I
theorem L_17 : tb_mL 17 = 2 := by decide +kernel
theorem R_17 : tb_mr 17 = some .int := by decide +kernel
theorem dk_17_0 : decode (tb_mb 17) 0 = .ok (.iload_n 1, 1) := by decide +kernel
theorem dk_17_1 : decode (tb_mb 17) 1 = .ok (.ifCond .lt (21), 3) := by decide +kernel
theorem dk_17_22 : decode (tb_mb 17) 22 = .ok (.iconst (1), 1) := by decide +kernel
theorem dk_17_23 : decode (tb_mb 17) 23 = .ok (.ireturn, 1) := by decide +kernel
theorem dk_17_4 : decode (tb_mb 17) 4 = .ok (.iload_n 1, 1) := by decide +kernel
theorem dk_17_5 : decode (tb_mb 17) 5 = .ok (.aload_n 0, 1) := by decide +kernel
theorem dk_17_6 : decode (tb_mb 17) 6 = .ok (.getfield 9, 3) := by decide +kernel
theorem f_17_6 : ∃ b, tb_fr (tb_oc 17) 9 = some (4, 0, b) := ⟨_, rfl⟩
theorem dk_17_9 : decode (tb_mb 17) 9 = .ok (.arraylength, 1) := by decide +kernel
theorem dk_17_10 : decode (tb_mb 17) 10 = .ok (.if_icmp .ge (12), 3) := by decide +kernel
theorem dk_17_13 : decode (tb_mb 17) 13 = .ok (.aload_n 0, 1) := by decide +kernel
theorem dk_17_14 : decode (tb_mb 17) 14 = .ok (.getfield 9, 3) := by decide +kernel
theorem f_17_14 : ∃ b, tb_fr (tb_oc 17) 9 = some (4, 0, b) := ⟨_, rfl⟩
theorem dk_17_17 : decode (tb_mb 17) 17 = .ok (.iload_n 1, 1) := by decide +kernel
theorem dk_17_18 : decode (tb_mb 17) 18 = .ok (.iaload, 1) := by decide +kernel
theorem dk_17_19 : decode (tb_mb 17) 19 = .ok (.goto (4), 3) := by decide +kernel
def b_17_0 (p : Nat) (x1 : Int32) (I : dI) (J : dJ) : Option Int32 := if x1 < 0 then (some 1) else (if (Int32.ofNat 40) ≤ x1 then (some 1) else (if ¬ (x1 < 0 ∨ 40 ≤ Int32.toNatClampNeg x1) then (some (I (p + 1) (Int32.toNatClampNeg x1))) else none))
theorem p_17_0 {Q : Nat → Option Nat} {D : Nat} {p : Nat} (hD : 1 ≤ D) (okp : okPr p) (x1 : Int32) (I : dI) (J : dJ) (R : Int32) (h : b_17_0 p x1 I J = some R) : Rn Q D 17 0 [(0, .ref p), (1, .int x1)] [] I J (some (.int R)) I J := by
  replace h : (if x1 < 0 then (some 1) else (if (Int32.ofNat 40) ≤ x1 then (some 1) else (if ¬ (x1 < 0 ∨ 40 ≤ Int32.toNatClampNeg x1) then (some (I (p + 1) (Int32.toNatClampNeg x1))) else none))) = some R := h
  refine Rn.pu (st' := [.int x1]) dk_17_0 L_17 rfl ?_
  by_cases c1 : x1 < 0
  · rw [if_pos c1] at h
    refine Rn.i1t (t := 22) dk_17_1 rfl (decide_eq_true c1) ?_
    refine Rn.ic dk_17_22 cic_1 ?_
    cases h
    exact Rn.ri dk_17_23 R_17 rfl
  · rw [if_neg c1] at h
    refine Rn.i1f (t := 22) dk_17_1 rfl (decide_eq_false c1) ?_
    refine Rn.pu (st' := [.int x1]) dk_17_4 L_17 rfl ?_
    refine Rn.pu (st' := [.ref p, .int x1]) dk_17_5 L_17 rfl ?_
    refine Rn.gR (r := (p + 1)) dk_17_6 f_17_6.choose_spec okp.1 rfl ?_
    refine Rn.alen dk_17_9 okp.2.1 (by decide) ?_
    by_cases c2 : (Int32.ofNat 40) ≤ x1
    · rw [if_pos c2] at h
      refine Rn.i2t (t := 22) dk_17_10 rfl (decide_eq_true c2) ?_
      refine Rn.ic dk_17_22 cic_1 ?_
      cases h
      exact Rn.ri dk_17_23 R_17 rfl
    · rw [if_neg c2] at h
      refine Rn.i2f (t := 22) dk_17_10 rfl (decide_eq_false c2) ?_
      refine Rn.pu (st' := [.ref p]) dk_17_13 L_17 rfl ?_
      refine Rn.gR (r := (p + 1)) dk_17_14 f_17_14.choose_spec okp.1 rfl ?_
      refine Rn.pu (st' := [.int x1, .ref (p + 1)]) dk_17_17 L_17 rfl ?_
      obtain ⟨c3, h⟩ := xm_if h
      refine Rn.iald dk_17_18 okp.2.1 c3 ?_
      refine Rn.gt (t := 23) dk_17_19 rfl ?_
      cases h
      exact Rn.ri dk_17_23 R_17 rfl
def m_17 (p : Nat) (x1 : Int32) (I : dI) (J : dJ) : Option Int32 := b_17_0 p x1 I J
theorem x_17 {Q : Nat → Option Nat} {D : Nat} {p : Nat} (hD : 2 ≤ D) (okp : okPr p) {x1 : Int32} {I : dI} {J : dJ} {R : Int32} (h : m_17 p x1 I J = some R) : Ex Q D 17 I J [.ref p, .int x1] (some (.int R)) I J := by
  obtain ⟨D, rfl⟩ : ∃ D', D = D' + 1 := ⟨D - 1, by omega⟩
  exact Ex.of (by decide) (by rw [L_17]; exact Nat.le_of_ble_eq_true rfl) (show xm_sub [(0, .ref p), (1, .int x1)] [(0, .ref p), (1, .int x1)] from xm_sub_of [0, 1] [0, 1] rfl rfl (by decide)) (p_17_0 (Nat.le_of_succ_le_succ hD) okp _ _ _ _ h)
-- ConditionDesk$Program.valueAt(I)J
theorem L_18 : tb_mL 18 = 2 := by decide +kernel
theorem R_18 : tb_mr 18 = some .long := by decide +kernel
theorem dk_18_0 : decode (tb_mb 18) 0 = .ok (.iload_n 1, 1) := by decide +kernel
theorem dk_18_1 : decode (tb_mb 18) 1 = .ok (.ifCond .lt (21), 3) := by decide +kernel
theorem dk_18_22 : decode (tb_mb 18) 22 = .ok (.lconst 0, 1) := by decide +kernel
theorem dk_18_23 : decode (tb_mb 18) 23 = .ok (.lreturn, 1) := by decide +kernel
theorem dk_18_4 : decode (tb_mb 18) 4 = .ok (.iload_n 1, 1) := by decide +kernel
theorem dk_18_5 : decode (tb_mb 18) 5 = .ok (.aload_n 0, 1) := by decide +kernel
theorem dk_18_6 : decode (tb_mb 18) 6 = .ok (.getfield 21, 3) := by decide +kernel
theorem f_18_6 : ∃ b, tb_fr (tb_oc 18) 21 = some (4, 3, b) := ⟨_, rfl⟩
theorem dk_18_9 : decode (tb_mb 18) 9 = .ok (.arraylength, 1) := by decide +kernel
theorem dk_18_10 : decode (tb_mb 18) 10 = .ok (.if_icmp .ge (12), 3) := by decide +kernel
theorem dk_18_13 : decode (tb_mb 18) 13 = .ok (.aload_n 0, 1) := by decide +kernel
theorem dk_18_14 : decode (tb_mb 18) 14 = .ok (.getfield 21, 3) := by decide +kernel
theorem f_18_14 : ∃ b, tb_fr (tb_oc 18) 21 = some (4, 3, b) := ⟨_, rfl⟩
theorem dk_18_17 : decode (tb_mb 18) 17 = .ok (.iload_n 1, 1) := by decide +kernel
theorem dk_18_18 : decode (tb_mb 18) 18 = .ok (.laload, 1) := by decide +kernel
theorem dk_18_19 : decode (tb_mb 18) 19 = .ok (.goto (4), 3) := by decide +kernel
def b_18_0 (p : Nat) (x1 : Int32) (I : dI) (J : dJ) : Option Int64 := if x1 < 0 then (some 0) else (if (Int32.ofNat 40) ≤ x1 then (some 0) else (if ¬ (x1 < 0 ∨ 40 ≤ Int32.toNatClampNeg x1) then (some (J (p + 4) (Int32.toNatClampNeg x1))) else none))
theorem p_18_0 {Q : Nat → Option Nat} {D : Nat} {p : Nat} (hD : 1 ≤ D) (okp : okPr p) (x1 : Int32) (I : dI) (J : dJ) (R : Int64) (h : b_18_0 p x1 I J = some R) : Rn Q D 18 0 [(0, .ref p), (1, .int x1)] [] I J (some (.long R)) I J := by
  replace h : (if x1 < 0 then (some 0) else (if (Int32.ofNat 40) ≤ x1 then (some 0) else (if ¬ (x1 < 0 ∨ 40 ≤ Int32.toNatClampNeg x1) then (some (J (p + 4) (Int32.toNatClampNeg x1))) else none))) = some R := h
  refine Rn.pu (st' := [.int x1]) dk_18_0 L_18 rfl ?_
  by_cases c1 : x1 < 0
  · rw [if_pos c1] at h
    refine Rn.i1t (t := 22) dk_18_1 rfl (decide_eq_true c1) ?_
    refine Rn.lc dk_18_22 clc_0 ?_
    cases h
    exact Rn.rl dk_18_23 R_18
  · rw [if_neg c1] at h
    refine Rn.i1f (t := 22) dk_18_1 rfl (decide_eq_false c1) ?_
    refine Rn.pu (st' := [.int x1]) dk_18_4 L_18 rfl ?_
    refine Rn.pu (st' := [.ref p, .int x1]) dk_18_5 L_18 rfl ?_
    refine Rn.gR (r := (p + 4)) dk_18_6 f_18_6.choose_spec okp.1 rfl ?_
    refine Rn.alen dk_18_9 okp.2.2.2.2 (by decide) ?_
    by_cases c2 : (Int32.ofNat 40) ≤ x1
    · rw [if_pos c2] at h
      refine Rn.i2t (t := 22) dk_18_10 rfl (decide_eq_true c2) ?_
      refine Rn.lc dk_18_22 clc_0 ?_
      cases h
      exact Rn.rl dk_18_23 R_18
    · rw [if_neg c2] at h
      refine Rn.i2f (t := 22) dk_18_10 rfl (decide_eq_false c2) ?_
      refine Rn.pu (st' := [.ref p]) dk_18_13 L_18 rfl ?_
      refine Rn.gR (r := (p + 4)) dk_18_14 f_18_14.choose_spec okp.1 rfl ?_
      refine Rn.pu (st' := [.int x1, .ref (p + 4)]) dk_18_17 L_18 rfl ?_
      obtain ⟨c3, h⟩ := xm_if h
      refine Rn.lald dk_18_18 okp.2.2.2.2 c3 ?_
      refine Rn.gt (t := 23) dk_18_19 rfl ?_
      cases h
      exact Rn.rl dk_18_23 R_18
def m_18 (p : Nat) (x1 : Int32) (I : dI) (J : dJ) : Option Int64 := b_18_0 p x1 I J
theorem x_18 {Q : Nat → Option Nat} {D : Nat} {p : Nat} (hD : 2 ≤ D) (okp : okPr p) {x1 : Int32} {I : dI} {J : dJ} {R : Int64} (h : m_18 p x1 I J = some R) : Ex Q D 18 I J [.ref p, .int x1] (some (.long R)) I J := by
  obtain ⟨D, rfl⟩ : ∃ D', D = D' + 1 := ⟨D - 1, by omega⟩
  exact Ex.of (by decide) (by rw [L_18]; exact Nat.le_of_ble_eq_true rfl) (show xm_sub [(0, .ref p), (1, .int x1)] [(0, .ref p), (1, .int x1)] from xm_sub_of [0, 1] [0, 1] rfl rfl (by decide)) (p_18_0 (Nat.le_of_succ_le_succ hD) okp _ _ _ _ h)
-- ConditionDesk$Machine.registerAt(J)I
theorem L_19 : tb_mL 19 = 3 := by decide +kernel
theorem R_19 : tb_mr 19 = some .int := by decide +kernel
theorem dk_19_0 : decode (tb_mb 19) 0 = .ok (.lload_n 1, 1) := by decide +kernel
theorem dk_19_1 : decode (tb_mb 19) 1 = .ok (.lconst 0, 1) := by decide +kernel
theorem dk_19_2 : decode (tb_mb 19) 2 = .ok (.lcmp, 1) := by decide +kernel
theorem dk_19_3 : decode (tb_mb 19) 3 = .ok (.ifCond .lt (24), 3) := by decide +kernel
theorem dk_19_27 : decode (tb_mb 19) 27 = .ok (.iconst (0), 1) := by decide +kernel
theorem dk_19_28 : decode (tb_mb 19) 28 = .ok (.ireturn, 1) := by decide +kernel
theorem dk_19_6 : decode (tb_mb 19) 6 = .ok (.lload_n 1, 1) := by decide +kernel
theorem dk_19_7 : decode (tb_mb 19) 7 = .ok (.aload_n 0, 1) := by decide +kernel
theorem dk_19_8 : decode (tb_mb 19) 8 = .ok (.getfield 9, 3) := by decide +kernel
theorem f_19_8 : ∃ b, tb_fr (tb_oc 19) 9 = some (2, 0, b) := ⟨_, rfl⟩
theorem dk_19_11 : decode (tb_mb 19) 11 = .ok (.arraylength, 1) := by decide +kernel
theorem dk_19_12 : decode (tb_mb 19) 12 = .ok (.i2l, 1) := by decide +kernel
theorem dk_19_13 : decode (tb_mb 19) 13 = .ok (.lcmp, 1) := by decide +kernel
theorem dk_19_14 : decode (tb_mb 19) 14 = .ok (.ifCond .ge (13), 3) := by decide +kernel
theorem dk_19_17 : decode (tb_mb 19) 17 = .ok (.aload_n 0, 1) := by decide +kernel
theorem dk_19_18 : decode (tb_mb 19) 18 = .ok (.getfield 9, 3) := by decide +kernel
theorem f_19_18 : ∃ b, tb_fr (tb_oc 19) 9 = some (2, 0, b) := ⟨_, rfl⟩
theorem dk_19_21 : decode (tb_mb 19) 21 = .ok (.lload_n 1, 1) := by decide +kernel
theorem dk_19_22 : decode (tb_mb 19) 22 = .ok (.l2i, 1) := by decide +kernel
theorem dk_19_23 : decode (tb_mb 19) 23 = .ok (.iaload, 1) := by decide +kernel
theorem dk_19_24 : decode (tb_mb 19) 24 = .ok (.goto (4), 3) := by decide +kernel
def b_19_0 (x1 : Int64) (I : dI) (J : dJ) : Option Int32 := if (lg_cmp x1 0) < 0 then (some 0) else (if 0 ≤ (lg_cmp x1 (Int32.toInt64 (Int32.ofNat 34))) then (some 0) else (if ¬ ((Int64.toInt32 x1) < 0 ∨ 34 ≤ Int32.toNatClampNeg (Int64.toInt32 x1)) then (some (I 4 (Int32.toNatClampNeg (Int64.toInt32 x1)))) else none))
theorem p_19_0 {Q : Nat → Option Nat} {D : Nat} (hD : 1 ≤ D) (x1 : Int64) (I : dI) (J : dJ) (R : Int32) (h : b_19_0 x1 I J = some R) : Rn Q D 19 0 [(0, .ref 3), (1, .long x1)] [] I J (some (.int R)) I J := by
  replace h : (if (lg_cmp x1 0) < 0 then (some 0) else (if 0 ≤ (lg_cmp x1 (Int32.toInt64 (Int32.ofNat 34))) then (some 0) else (if ¬ ((Int64.toInt32 x1) < 0 ∨ 34 ≤ Int32.toNatClampNeg (Int64.toInt32 x1)) then (some (I 4 (Int32.toNatClampNeg (Int64.toInt32 x1)))) else none))) = some R := h
  refine Rn.pu (st' := [.long x1]) dk_19_0 L_19 rfl ?_
  refine Rn.lc dk_19_1 clc_0 ?_
  refine Rn.pu (st' := [.int (lg_cmp x1 0)]) dk_19_2 L_19 rfl ?_
  by_cases c1 : (lg_cmp x1 0) < 0
  · rw [if_pos c1] at h
    refine Rn.i1t (t := 27) dk_19_3 rfl (decide_eq_true c1) ?_
    refine Rn.ic dk_19_27 cic_0 ?_
    cases h
    exact Rn.ri dk_19_28 R_19 rfl
  · rw [if_neg c1] at h
    refine Rn.i1f (t := 27) dk_19_3 rfl (decide_eq_false c1) ?_
    refine Rn.pu (st' := [.long x1]) dk_19_6 L_19 rfl ?_
    refine Rn.pu (st' := [.ref 3, .long x1]) dk_19_7 L_19 rfl ?_
    refine Rn.gR (r := 4) dk_19_8 f_19_8.choose_spec sk_3 rfl ?_
    refine Rn.alen dk_19_11 sk_4 (by decide) ?_
    refine Rn.pu (st' := [.long (Int32.toInt64 (Int32.ofNat 34)), .long x1]) dk_19_12 L_19 rfl ?_
    refine Rn.pu (st' := [.int (lg_cmp x1 (Int32.toInt64 (Int32.ofNat 34)))]) dk_19_13 L_19 rfl ?_
    by_cases c2 : 0 ≤ (lg_cmp x1 (Int32.toInt64 (Int32.ofNat 34)))
    · rw [if_pos c2] at h
      refine Rn.i1t (t := 27) dk_19_14 rfl (decide_eq_true c2) ?_
      refine Rn.ic dk_19_27 cic_0 ?_
      cases h
      exact Rn.ri dk_19_28 R_19 rfl
    · rw [if_neg c2] at h
      refine Rn.i1f (t := 27) dk_19_14 rfl (decide_eq_false c2) ?_
      refine Rn.pu (st' := [.ref 3]) dk_19_17 L_19 rfl ?_
      refine Rn.gR (r := 4) dk_19_18 f_19_18.choose_spec sk_3 rfl ?_
      refine Rn.pu (st' := [.long x1, .ref 4]) dk_19_21 L_19 rfl ?_
      refine Rn.pu (st' := [.int (Int64.toInt32 x1), .ref 4]) dk_19_22 L_19 rfl ?_
      obtain ⟨c3, h⟩ := xm_if h
      refine Rn.iald dk_19_23 sk_4 c3 ?_
      refine Rn.gt (t := 28) dk_19_24 rfl ?_
      cases h
      exact Rn.ri dk_19_28 R_19 rfl
def m_19 (x1 : Int64) (I : dI) (J : dJ) : Option Int32 := b_19_0 x1 I J
theorem x_19 {Q : Nat → Option Nat} {D : Nat} (hD : 2 ≤ D) {x1 : Int64} {I : dI} {J : dJ} {R : Int32} (h : m_19 x1 I J = some R) : Ex Q D 19 I J [.ref 3, .long x1] (some (.int R)) I J := by
  obtain ⟨D, rfl⟩ : ∃ D', D = D' + 1 := ⟨D - 1, by omega⟩
  exact Ex.of (by decide) (by rw [L_19]; exact Nat.le_of_ble_eq_true rfl) (show xm_sub [(0, .ref 3), (1, .long x1)] [(0, .ref 3), (1, .long x1)] from xm_sub_of [0, 1] [0, 1] rfl rfl (by decide)) (p_19_0 (Nat.le_of_succ_le_succ hD) _ _ _ _ h)
-- ConditionDesk$Worker.rememberedAt(I)J
theorem L_20 : tb_mL 20 = 2 := by decide +kernel
theorem R_20 : tb_mr 20 = some .long := by decide +kernel
theorem dk_20_0 : decode (tb_mb 20) 0 = .ok (.iload_n 1, 1) := by decide +kernel
theorem dk_20_1 : decode (tb_mb 20) 1 = .ok (.ifCond .lt (21), 3) := by decide +kernel
theorem dk_20_22 : decode (tb_mb 20) 22 = .ok (.lconst 0, 1) := by decide +kernel
theorem dk_20_23 : decode (tb_mb 20) 23 = .ok (.lreturn, 1) := by decide +kernel
theorem dk_20_4 : decode (tb_mb 20) 4 = .ok (.iload_n 1, 1) := by decide +kernel
theorem dk_20_5 : decode (tb_mb 20) 5 = .ok (.aload_n 0, 1) := by decide +kernel
theorem dk_20_6 : decode (tb_mb 20) 6 = .ok (.getfield 18, 3) := by decide +kernel
theorem f_20_6 : ∃ b, tb_fr (tb_oc 20) 18 = some (7, 2, b) := ⟨_, rfl⟩
theorem dk_20_9 : decode (tb_mb 20) 9 = .ok (.arraylength, 1) := by decide +kernel
theorem dk_20_10 : decode (tb_mb 20) 10 = .ok (.if_icmp .ge (12), 3) := by decide +kernel
theorem dk_20_13 : decode (tb_mb 20) 13 = .ok (.aload_n 0, 1) := by decide +kernel
theorem dk_20_14 : decode (tb_mb 20) 14 = .ok (.getfield 18, 3) := by decide +kernel
theorem f_20_14 : ∃ b, tb_fr (tb_oc 20) 18 = some (7, 2, b) := ⟨_, rfl⟩
theorem dk_20_17 : decode (tb_mb 20) 17 = .ok (.iload_n 1, 1) := by decide +kernel
theorem dk_20_18 : decode (tb_mb 20) 18 = .ok (.laload, 1) := by decide +kernel
theorem dk_20_19 : decode (tb_mb 20) 19 = .ok (.goto (4), 3) := by decide +kernel
def b_20_0 (p : Nat) (x1 : Int32) (I : dI) (J : dJ) : Option Int64 := if x1 < 0 then (some 0) else (if (Int32.ofNat 40) ≤ x1 then (some 0) else (if ¬ (x1 < 0 ∨ 40 ≤ Int32.toNatClampNeg x1) then (some (J (p + 6) (Int32.toNatClampNeg x1))) else none))
theorem p_20_0 {Q : Nat → Option Nat} {D : Nat} {p : Nat} (hD : 1 ≤ D) (okp : okW p) (x1 : Int32) (I : dI) (J : dJ) (R : Int64) (h : b_20_0 p x1 I J = some R) : Rn Q D 20 0 [(0, .ref p), (1, .int x1)] [] I J (some (.long R)) I J := by
  replace h : (if x1 < 0 then (some 0) else (if (Int32.ofNat 40) ≤ x1 then (some 0) else (if ¬ (x1 < 0 ∨ 40 ≤ Int32.toNatClampNeg x1) then (some (J (p + 6) (Int32.toNatClampNeg x1))) else none))) = some R := h
  refine Rn.pu (st' := [.int x1]) dk_20_0 L_20 rfl ?_
  by_cases c1 : x1 < 0
  · rw [if_pos c1] at h
    refine Rn.i1t (t := 22) dk_20_1 rfl (decide_eq_true c1) ?_
    refine Rn.lc dk_20_22 clc_0 ?_
    cases h
    exact Rn.rl dk_20_23 R_20
  · rw [if_neg c1] at h
    refine Rn.i1f (t := 22) dk_20_1 rfl (decide_eq_false c1) ?_
    refine Rn.pu (st' := [.int x1]) dk_20_4 L_20 rfl ?_
    refine Rn.pu (st' := [.ref p, .int x1]) dk_20_5 L_20 rfl ?_
    refine Rn.gR (r := (p + 6)) dk_20_6 f_20_6.choose_spec okp.1 rfl ?_
    refine Rn.alen dk_20_9 okp.2.2.1 (by decide) ?_
    by_cases c2 : (Int32.ofNat 40) ≤ x1
    · rw [if_pos c2] at h
      refine Rn.i2t (t := 22) dk_20_10 rfl (decide_eq_true c2) ?_
      refine Rn.lc dk_20_22 clc_0 ?_
      cases h
      exact Rn.rl dk_20_23 R_20
    · rw [if_neg c2] at h
      refine Rn.i2f (t := 22) dk_20_10 rfl (decide_eq_false c2) ?_
      refine Rn.pu (st' := [.ref p]) dk_20_13 L_20 rfl ?_
      refine Rn.gR (r := (p + 6)) dk_20_14 f_20_14.choose_spec okp.1 rfl ?_
      refine Rn.pu (st' := [.int x1, .ref (p + 6)]) dk_20_17 L_20 rfl ?_
      obtain ⟨c3, h⟩ := xm_if h
      refine Rn.lald dk_20_18 okp.2.2.1 c3 ?_
      refine Rn.gt (t := 23) dk_20_19 rfl ?_
      cases h
      exact Rn.rl dk_20_23 R_20
def m_20 (p : Nat) (x1 : Int32) (I : dI) (J : dJ) : Option Int64 := b_20_0 p x1 I J
theorem x_20 {Q : Nat → Option Nat} {D : Nat} {p : Nat} (hD : 2 ≤ D) (okp : okW p) {x1 : Int32} {I : dI} {J : dJ} {R : Int64} (h : m_20 p x1 I J = some R) : Ex Q D 20 I J [.ref p, .int x1] (some (.long R)) I J := by
  obtain ⟨D, rfl⟩ : ∃ D', D = D' + 1 := ⟨D - 1, by omega⟩
  exact Ex.of (by decide) (by rw [L_20]; exact Nat.le_of_ble_eq_true rfl) (show xm_sub [(0, .ref p), (1, .int x1)] [(0, .ref p), (1, .int x1)] from xm_sub_of [0, 1] [0, 1] rfl rfl (by decide)) (p_20_0 (Nat.le_of_succ_le_succ hD) okp _ _ _ _ h)
-- ConditionDesk$Program.leftOf(I)I
theorem L_21 : tb_mL 21 = 2 := by decide +kernel
theorem R_21 : tb_mr 21 = some .int := by decide +kernel
theorem dk_21_0 : decode (tb_mb 21) 0 = .ok (.iload_n 1, 1) := by decide +kernel
theorem dk_21_1 : decode (tb_mb 21) 1 = .ok (.ifCond .lt (21), 3) := by decide +kernel
theorem dk_21_22 : decode (tb_mb 21) 22 = .ok (.iconst (-1), 1) := by decide +kernel
theorem dk_21_23 : decode (tb_mb 21) 23 = .ok (.ireturn, 1) := by decide +kernel
theorem dk_21_4 : decode (tb_mb 21) 4 = .ok (.iload_n 1, 1) := by decide +kernel
theorem dk_21_5 : decode (tb_mb 21) 5 = .ok (.aload_n 0, 1) := by decide +kernel
theorem dk_21_6 : decode (tb_mb 21) 6 = .ok (.getfield 15, 3) := by decide +kernel
theorem f_21_6 : ∃ b, tb_fr (tb_oc 21) 15 = some (4, 1, b) := ⟨_, rfl⟩
theorem dk_21_9 : decode (tb_mb 21) 9 = .ok (.arraylength, 1) := by decide +kernel
theorem dk_21_10 : decode (tb_mb 21) 10 = .ok (.if_icmp .ge (12), 3) := by decide +kernel
theorem dk_21_13 : decode (tb_mb 21) 13 = .ok (.aload_n 0, 1) := by decide +kernel
theorem dk_21_14 : decode (tb_mb 21) 14 = .ok (.getfield 15, 3) := by decide +kernel
theorem f_21_14 : ∃ b, tb_fr (tb_oc 21) 15 = some (4, 1, b) := ⟨_, rfl⟩
theorem dk_21_17 : decode (tb_mb 21) 17 = .ok (.iload_n 1, 1) := by decide +kernel
theorem dk_21_18 : decode (tb_mb 21) 18 = .ok (.iaload, 1) := by decide +kernel
theorem dk_21_19 : decode (tb_mb 21) 19 = .ok (.goto (4), 3) := by decide +kernel
def b_21_0 (p : Nat) (x1 : Int32) (I : dI) (J : dJ) : Option Int32 := if x1 < 0 then (some (-1)) else (if (Int32.ofNat 40) ≤ x1 then (some (-1)) else (if ¬ (x1 < 0 ∨ 40 ≤ Int32.toNatClampNeg x1) then (some (I (p + 2) (Int32.toNatClampNeg x1))) else none))
theorem p_21_0 {Q : Nat → Option Nat} {D : Nat} {p : Nat} (hD : 1 ≤ D) (okp : okPr p) (x1 : Int32) (I : dI) (J : dJ) (R : Int32) (h : b_21_0 p x1 I J = some R) : Rn Q D 21 0 [(0, .ref p), (1, .int x1)] [] I J (some (.int R)) I J := by
  replace h : (if x1 < 0 then (some (-1)) else (if (Int32.ofNat 40) ≤ x1 then (some (-1)) else (if ¬ (x1 < 0 ∨ 40 ≤ Int32.toNatClampNeg x1) then (some (I (p + 2) (Int32.toNatClampNeg x1))) else none))) = some R := h
  refine Rn.pu (st' := [.int x1]) dk_21_0 L_21 rfl ?_
  by_cases c1 : x1 < 0
  · rw [if_pos c1] at h
    refine Rn.i1t (t := 22) dk_21_1 rfl (decide_eq_true c1) ?_
    refine Rn.ic dk_21_22 cic_m1 ?_
    cases h
    exact Rn.ri dk_21_23 R_21 rfl
  · rw [if_neg c1] at h
    refine Rn.i1f (t := 22) dk_21_1 rfl (decide_eq_false c1) ?_
    refine Rn.pu (st' := [.int x1]) dk_21_4 L_21 rfl ?_
    refine Rn.pu (st' := [.ref p, .int x1]) dk_21_5 L_21 rfl ?_
    refine Rn.gR (r := (p + 2)) dk_21_6 f_21_6.choose_spec okp.1 rfl ?_
    refine Rn.alen dk_21_9 okp.2.2.1 (by decide) ?_
    by_cases c2 : (Int32.ofNat 40) ≤ x1
    · rw [if_pos c2] at h
      refine Rn.i2t (t := 22) dk_21_10 rfl (decide_eq_true c2) ?_
      refine Rn.ic dk_21_22 cic_m1 ?_
      cases h
      exact Rn.ri dk_21_23 R_21 rfl
    · rw [if_neg c2] at h
      refine Rn.i2f (t := 22) dk_21_10 rfl (decide_eq_false c2) ?_
      refine Rn.pu (st' := [.ref p]) dk_21_13 L_21 rfl ?_
      refine Rn.gR (r := (p + 2)) dk_21_14 f_21_14.choose_spec okp.1 rfl ?_
      refine Rn.pu (st' := [.int x1, .ref (p + 2)]) dk_21_17 L_21 rfl ?_
      obtain ⟨c3, h⟩ := xm_if h
      refine Rn.iald dk_21_18 okp.2.2.1 c3 ?_
      refine Rn.gt (t := 23) dk_21_19 rfl ?_
      cases h
      exact Rn.ri dk_21_23 R_21 rfl
def m_21 (p : Nat) (x1 : Int32) (I : dI) (J : dJ) : Option Int32 := b_21_0 p x1 I J
theorem x_21 {Q : Nat → Option Nat} {D : Nat} {p : Nat} (hD : 2 ≤ D) (okp : okPr p) {x1 : Int32} {I : dI} {J : dJ} {R : Int32} (h : m_21 p x1 I J = some R) : Ex Q D 21 I J [.ref p, .int x1] (some (.int R)) I J := by
  obtain ⟨D, rfl⟩ : ∃ D', D = D' + 1 := ⟨D - 1, by omega⟩
  exact Ex.of (by decide) (by rw [L_21]; exact Nat.le_of_ble_eq_true rfl) (show xm_sub [(0, .ref p), (1, .int x1)] [(0, .ref p), (1, .int x1)] from xm_sub_of [0, 1] [0, 1] rfl rfl (by decide)) (p_21_0 (Nat.le_of_succ_le_succ hD) okp _ _ _ _ h)
-- ConditionDesk$Worker.truth(Z)J
theorem L_23 : tb_mL 23 = 1 := by decide +kernel
theorem R_23 : tb_mr 23 = some .long := by decide +kernel
theorem dk_23_0 : decode (tb_mb 23) 0 = .ok (.iload_n 0, 1) := by decide +kernel
theorem dk_23_1 : decode (tb_mb 23) 1 = .ok (.ifCond .eq (7), 3) := by decide +kernel
theorem dk_23_8 : decode (tb_mb 23) 8 = .ok (.lconst 0, 1) := by decide +kernel
theorem dk_23_9 : decode (tb_mb 23) 9 = .ok (.lreturn, 1) := by decide +kernel
theorem dk_23_4 : decode (tb_mb 23) 4 = .ok (.lconst 1, 1) := by decide +kernel
theorem dk_23_5 : decode (tb_mb 23) 5 = .ok (.goto (4), 3) := by decide +kernel
def b_23_0 (x0 : Int32) (I : dI) (J : dJ) : Option Int64 := if x0 = 0 then (some 0) else (some 1)
theorem p_23_0 {Q : Nat → Option Nat} {D : Nat} (hD : 1 ≤ D) (x0 : Int32) (I : dI) (J : dJ) (R : Int64) (h : b_23_0 x0 I J = some R) : Rn Q D 23 0 [(0, .int x0)] [] I J (some (.long R)) I J := by
  replace h : (if x0 = 0 then (some 0) else (some 1)) = some R := h
  refine Rn.pu (st' := [.int x0]) dk_23_0 L_23 rfl ?_
  by_cases c1 : x0 = 0
  · rw [if_pos c1] at h
    refine Rn.i1t (t := 8) dk_23_1 rfl (decide_eq_true c1) ?_
    refine Rn.lc dk_23_8 clc_0 ?_
    cases h
    exact Rn.rl dk_23_9 R_23
  · rw [if_neg c1] at h
    refine Rn.i1f (t := 8) dk_23_1 rfl (decide_eq_false c1) ?_
    refine Rn.lc dk_23_4 clc_1 ?_
    refine Rn.gt (t := 9) dk_23_5 rfl ?_
    cases h
    exact Rn.rl dk_23_9 R_23
def m_23 (x0 : Int32) (I : dI) (J : dJ) : Option Int64 := b_23_0 x0 I J
theorem x_23 {Q : Nat → Option Nat} {D : Nat} (hD : 2 ≤ D) {x0 : Int32} {I : dI} {J : dJ} {R : Int64} (h : m_23 x0 I J = some R) : Ex Q D 23 I J [.int x0] (some (.long R)) I J := by
  obtain ⟨D, rfl⟩ : ∃ D', D = D' + 1 := ⟨D - 1, by omega⟩
  exact Ex.of (by decide) (by rw [L_23]; exact Nat.le_of_ble_eq_true rfl) (show xm_sub [(0, .int x0)] [(0, .int x0)] from xm_sub_of [0] [0] rfl rfl (by decide)) (p_23_0 (Nat.le_of_succ_le_succ hD) _ _ _ _ h)
-- ConditionDesk$Machine.byteAt(I)J
theorem L_25 : tb_mL 25 = 2 := by decide +kernel
theorem R_25 : tb_mr 25 = some .long := by decide +kernel
theorem dk_25_0 : decode (tb_mb 25) 0 = .ok (.iload_n 1, 1) := by decide +kernel
theorem dk_25_1 : decode (tb_mb 25) 1 = .ok (.ifCond .lt (22), 3) := by decide +kernel
theorem dk_25_23 : decode (tb_mb 25) 23 = .ok (.lconst 0, 1) := by decide +kernel
theorem dk_25_24 : decode (tb_mb 25) 24 = .ok (.lreturn, 1) := by decide +kernel
theorem dk_25_4 : decode (tb_mb 25) 4 = .ok (.iload_n 1, 1) := by decide +kernel
theorem dk_25_5 : decode (tb_mb 25) 5 = .ok (.aload_n 0, 1) := by decide +kernel
theorem dk_25_6 : decode (tb_mb 25) 6 = .ok (.getfield 15, 3) := by decide +kernel
theorem f_25_6 : ∃ b, tb_fr (tb_oc 25) 15 = some (2, 1, b) := ⟨_, rfl⟩
theorem dk_25_9 : decode (tb_mb 25) 9 = .ok (.arraylength, 1) := by decide +kernel
theorem dk_25_10 : decode (tb_mb 25) 10 = .ok (.if_icmp .ge (13), 3) := by decide +kernel
theorem dk_25_13 : decode (tb_mb 25) 13 = .ok (.aload_n 0, 1) := by decide +kernel
theorem dk_25_14 : decode (tb_mb 25) 14 = .ok (.getfield 15, 3) := by decide +kernel
theorem f_25_14 : ∃ b, tb_fr (tb_oc 25) 15 = some (2, 1, b) := ⟨_, rfl⟩
theorem dk_25_17 : decode (tb_mb 25) 17 = .ok (.iload_n 1, 1) := by decide +kernel
theorem dk_25_18 : decode (tb_mb 25) 18 = .ok (.iaload, 1) := by decide +kernel
theorem dk_25_19 : decode (tb_mb 25) 19 = .ok (.i2l, 1) := by decide +kernel
theorem dk_25_20 : decode (tb_mb 25) 20 = .ok (.goto (4), 3) := by decide +kernel
def b_25_0 (x1 : Int32) (I : dI) (J : dJ) : Option Int64 := if x1 < 0 then (some 0) else (if (Int32.ofNat 256) ≤ x1 then (some 0) else (if ¬ (x1 < 0 ∨ 256 ≤ Int32.toNatClampNeg x1) then (some (Int32.toInt64 (I 5 (Int32.toNatClampNeg x1)))) else none))
theorem p_25_0 {Q : Nat → Option Nat} {D : Nat} (hD : 1 ≤ D) (x1 : Int32) (I : dI) (J : dJ) (R : Int64) (h : b_25_0 x1 I J = some R) : Rn Q D 25 0 [(0, .ref 3), (1, .int x1)] [] I J (some (.long R)) I J := by
  replace h : (if x1 < 0 then (some 0) else (if (Int32.ofNat 256) ≤ x1 then (some 0) else (if ¬ (x1 < 0 ∨ 256 ≤ Int32.toNatClampNeg x1) then (some (Int32.toInt64 (I 5 (Int32.toNatClampNeg x1)))) else none))) = some R := h
  refine Rn.pu (st' := [.int x1]) dk_25_0 L_25 rfl ?_
  by_cases c1 : x1 < 0
  · rw [if_pos c1] at h
    refine Rn.i1t (t := 23) dk_25_1 rfl (decide_eq_true c1) ?_
    refine Rn.lc dk_25_23 clc_0 ?_
    cases h
    exact Rn.rl dk_25_24 R_25
  · rw [if_neg c1] at h
    refine Rn.i1f (t := 23) dk_25_1 rfl (decide_eq_false c1) ?_
    refine Rn.pu (st' := [.int x1]) dk_25_4 L_25 rfl ?_
    refine Rn.pu (st' := [.ref 3, .int x1]) dk_25_5 L_25 rfl ?_
    refine Rn.gR (r := 5) dk_25_6 f_25_6.choose_spec sk_3 rfl ?_
    refine Rn.alen dk_25_9 sk_5 (by decide) ?_
    by_cases c2 : (Int32.ofNat 256) ≤ x1
    · rw [if_pos c2] at h
      refine Rn.i2t (t := 23) dk_25_10 rfl (decide_eq_true c2) ?_
      refine Rn.lc dk_25_23 clc_0 ?_
      cases h
      exact Rn.rl dk_25_24 R_25
    · rw [if_neg c2] at h
      refine Rn.i2f (t := 23) dk_25_10 rfl (decide_eq_false c2) ?_
      refine Rn.pu (st' := [.ref 3]) dk_25_13 L_25 rfl ?_
      refine Rn.gR (r := 5) dk_25_14 f_25_14.choose_spec sk_3 rfl ?_
      refine Rn.pu (st' := [.int x1, .ref 5]) dk_25_17 L_25 rfl ?_
      obtain ⟨c3, h⟩ := xm_if h
      refine Rn.iald dk_25_18 sk_5 c3 ?_
      refine Rn.pu (st' := [.long (Int32.toInt64 (I 5 (Int32.toNatClampNeg x1)))]) dk_25_19 L_25 rfl ?_
      refine Rn.gt (t := 24) dk_25_20 rfl ?_
      cases h
      exact Rn.rl dk_25_24 R_25
def m_25 (x1 : Int32) (I : dI) (J : dJ) : Option Int64 := b_25_0 x1 I J
theorem x_25 {Q : Nat → Option Nat} {D : Nat} (hD : 2 ≤ D) {x1 : Int32} {I : dI} {J : dJ} {R : Int64} (h : m_25 x1 I J = some R) : Ex Q D 25 I J [.ref 3, .int x1] (some (.long R)) I J := by
  obtain ⟨D, rfl⟩ : ∃ D', D = D' + 1 := ⟨D - 1, by omega⟩
  exact Ex.of (by decide) (by rw [L_25]; exact Nat.le_of_ble_eq_true rfl) (show xm_sub [(0, .ref 3), (1, .int x1)] [(0, .ref 3), (1, .int x1)] from xm_sub_of [0, 1] [0, 1] rfl rfl (by decide)) (p_25_0 (Nat.le_of_succ_le_succ hD) _ _ _ _ h)
-- ConditionDesk$Machine.halfAt(I)J
theorem L_26 : tb_mL 26 = 2 := by decide +kernel
theorem R_26 : tb_mr 26 = some .long := by decide +kernel
theorem dk_26_0 : decode (tb_mb 26) 0 = .ok (.aload_n 0, 1) := by decide +kernel
theorem dk_26_1 : decode (tb_mb 26) 1 = .ok (.iload_n 1, 1) := by decide +kernel
theorem dk_26_2 : decode (tb_mb 26) 2 = .ok (.invokevirtual 22, 3) := by decide +kernel
theorem ck_26_2 : ∃ b, tb_cr (tb_oc 26) 22 = some (0, 25, b, 1) := ⟨_, rfl⟩
theorem dk_26_5 : decode (tb_mb 26) 5 = .ok (.aload_n 0, 1) := by decide +kernel
theorem dk_26_6 : decode (tb_mb 26) 6 = .ok (.iload_n 1, 1) := by decide +kernel
theorem dk_26_7 : decode (tb_mb 26) 7 = .ok (.iconst (1), 1) := by decide +kernel
theorem dk_26_8 : decode (tb_mb 26) 8 = .ok (.iadd, 1) := by decide +kernel
theorem dk_26_9 : decode (tb_mb 26) 9 = .ok (.invokevirtual 22, 3) := by decide +kernel
theorem ck_26_9 : ∃ b, tb_cr (tb_oc 26) 22 = some (0, 25, b, 1) := ⟨_, rfl⟩
theorem dk_26_12 : decode (tb_mb 26) 12 = .ok (.bipush (8), 2) := by decide +kernel
theorem dk_26_14 : decode (tb_mb 26) 14 = .ok (.lshl, 1) := by decide +kernel
theorem dk_26_15 : decode (tb_mb 26) 15 = .ok (.lor, 1) := by decide +kernel
theorem dk_26_16 : decode (tb_mb 26) 16 = .ok (.l2i, 1) := by decide +kernel
theorem dk_26_17 : decode (tb_mb 26) 17 = .ok (.i2s, 1) := by decide +kernel
theorem dk_26_18 : decode (tb_mb 26) 18 = .ok (.i2l, 1) := by decide +kernel
theorem dk_26_19 : decode (tb_mb 26) 19 = .ok (.lreturn, 1) := by decide +kernel
def b_26_0 (x1 : Int32) (I : dI) (J : dJ) : Option Int64 := (m_25 x1 I J).bind (fun r1 => (m_25 (x1 + 1) I J).bind (fun r3 => some (Int32.toInt64 ((Int32.toInt16 (Int64.toInt32 (r1 ||| (r3 <<< ((Int32.toInt64 8) &&& 63))))).toInt32))))
theorem p_26_0 {Q : Nat → Option Nat} {D : Nat} (hD : 2 ≤ D) (x1 : Int32) (I : dI) (J : dJ) (R : Int64) (h : b_26_0 x1 I J = some R) : Rn Q D 26 0 [(0, .ref 3), (1, .int x1)] [] I J (some (.long R)) I J := by
  replace h : ((m_25 x1 I J).bind (fun r1 => (m_25 (x1 + 1) I J).bind (fun r3 => some (Int32.toInt64 ((Int32.toInt16 (Int64.toInt32 (r1 ||| (r3 <<< ((Int32.toInt64 8) &&& 63))))).toInt32))))) = some R := h
  refine Rn.pu (st' := [.ref 3]) dk_26_0 L_26 rfl ?_
  refine Rn.pu (st' := [.int x1, .ref 3]) dk_26_1 L_26 rfl ?_
  obtain ⟨r1, e2, h⟩ := bindS h
  refine Rn.cvJ (p := 3) (As := [.int x1]) (rest := []) dk_26_2 ck_26_2.choose_spec rfl sk_3 rfl (x_25 (Nat.le_trans (Nat.le_of_ble_eq_true rfl) hD) e2) ?_
  refine Rn.pu (st' := [.ref 3, .long r1]) dk_26_5 L_26 rfl ?_
  refine Rn.pu (st' := [.int x1, .ref 3, .long r1]) dk_26_6 L_26 rfl ?_
  refine Rn.ic dk_26_7 cic_1 ?_
  refine Rn.pu (st' := [.int (x1 + 1), .ref 3, .long r1]) dk_26_8 L_26 rfl ?_
  obtain ⟨r3, e4, h⟩ := bindS h
  refine Rn.cvJ (p := 3) (As := [.int (x1 + 1)]) (rest := [.long r1]) dk_26_9 ck_26_9.choose_spec rfl sk_3 rfl (x_25 (Nat.le_trans (Nat.le_of_ble_eq_true rfl) hD) e4) ?_
  refine Rn.bp dk_26_12 cbp_8 ?_
  refine Rn.pu (st' := [.long (r3 <<< ((Int32.toInt64 8) &&& 63)), .long r1]) dk_26_14 L_26 rfl ?_
  refine Rn.pu (st' := [.long (r1 ||| (r3 <<< ((Int32.toInt64 8) &&& 63)))]) dk_26_15 L_26 rfl ?_
  refine Rn.pu (st' := [.int (Int64.toInt32 (r1 ||| (r3 <<< ((Int32.toInt64 8) &&& 63))))]) dk_26_16 L_26 rfl ?_
  refine Rn.pu (st' := [.int ((Int32.toInt16 (Int64.toInt32 (r1 ||| (r3 <<< ((Int32.toInt64 8) &&& 63))))).toInt32)]) dk_26_17 L_26 rfl ?_
  refine Rn.pu (st' := [.long (Int32.toInt64 ((Int32.toInt16 (Int64.toInt32 (r1 ||| (r3 <<< ((Int32.toInt64 8) &&& 63))))).toInt32))]) dk_26_18 L_26 rfl ?_
  cases h
  exact Rn.rl dk_26_19 R_26
def m_26 (x1 : Int32) (I : dI) (J : dJ) : Option Int64 := b_26_0 x1 I J
theorem x_26 {Q : Nat → Option Nat} {D : Nat} (hD : 3 ≤ D) {x1 : Int32} {I : dI} {J : dJ} {R : Int64} (h : m_26 x1 I J = some R) : Ex Q D 26 I J [.ref 3, .int x1] (some (.long R)) I J := by
  obtain ⟨D, rfl⟩ : ∃ D', D = D' + 1 := ⟨D - 1, by omega⟩
  exact Ex.of (by decide) (by rw [L_26]; exact Nat.le_of_ble_eq_true rfl) (show xm_sub [(0, .ref 3), (1, .int x1)] [(0, .ref 3), (1, .int x1)] from xm_sub_of [0, 1] [0, 1] rfl rfl (by decide)) (p_26_0 (Nat.le_of_succ_le_succ hD) _ _ _ _ h)
-- ConditionDesk$Machine.wordAt(I)J
theorem L_27 : tb_mL 27 = 2 := by decide +kernel
theorem R_27 : tb_mr 27 = some .long := by decide +kernel
theorem dk_27_0 : decode (tb_mb 27) 0 = .ok (.aload_n 0, 1) := by decide +kernel
theorem dk_27_1 : decode (tb_mb 27) 1 = .ok (.iload_n 1, 1) := by decide +kernel
theorem dk_27_2 : decode (tb_mb 27) 2 = .ok (.invokevirtual 22, 3) := by decide +kernel
theorem ck_27_2 : ∃ b, tb_cr (tb_oc 27) 22 = some (0, 25, b, 1) := ⟨_, rfl⟩
theorem dk_27_5 : decode (tb_mb 27) 5 = .ok (.aload_n 0, 1) := by decide +kernel
theorem dk_27_6 : decode (tb_mb 27) 6 = .ok (.iload_n 1, 1) := by decide +kernel
theorem dk_27_7 : decode (tb_mb 27) 7 = .ok (.iconst (1), 1) := by decide +kernel
theorem dk_27_8 : decode (tb_mb 27) 8 = .ok (.iadd, 1) := by decide +kernel
theorem dk_27_9 : decode (tb_mb 27) 9 = .ok (.invokevirtual 22, 3) := by decide +kernel
theorem ck_27_9 : ∃ b, tb_cr (tb_oc 27) 22 = some (0, 25, b, 1) := ⟨_, rfl⟩
theorem dk_27_12 : decode (tb_mb 27) 12 = .ok (.bipush (8), 2) := by decide +kernel
theorem dk_27_14 : decode (tb_mb 27) 14 = .ok (.lshl, 1) := by decide +kernel
theorem dk_27_15 : decode (tb_mb 27) 15 = .ok (.lor, 1) := by decide +kernel
theorem dk_27_16 : decode (tb_mb 27) 16 = .ok (.aload_n 0, 1) := by decide +kernel
theorem dk_27_17 : decode (tb_mb 27) 17 = .ok (.iload_n 1, 1) := by decide +kernel
theorem dk_27_18 : decode (tb_mb 27) 18 = .ok (.iconst (2), 1) := by decide +kernel
theorem dk_27_19 : decode (tb_mb 27) 19 = .ok (.iadd, 1) := by decide +kernel
theorem dk_27_20 : decode (tb_mb 27) 20 = .ok (.invokevirtual 22, 3) := by decide +kernel
theorem ck_27_20 : ∃ b, tb_cr (tb_oc 27) 22 = some (0, 25, b, 1) := ⟨_, rfl⟩
theorem dk_27_23 : decode (tb_mb 27) 23 = .ok (.bipush (16), 2) := by decide +kernel
theorem dk_27_25 : decode (tb_mb 27) 25 = .ok (.lshl, 1) := by decide +kernel
theorem dk_27_26 : decode (tb_mb 27) 26 = .ok (.lor, 1) := by decide +kernel
theorem dk_27_27 : decode (tb_mb 27) 27 = .ok (.aload_n 0, 1) := by decide +kernel
theorem dk_27_28 : decode (tb_mb 27) 28 = .ok (.iload_n 1, 1) := by decide +kernel
theorem dk_27_29 : decode (tb_mb 27) 29 = .ok (.iconst (3), 1) := by decide +kernel
theorem dk_27_30 : decode (tb_mb 27) 30 = .ok (.iadd, 1) := by decide +kernel
theorem dk_27_31 : decode (tb_mb 27) 31 = .ok (.invokevirtual 22, 3) := by decide +kernel
theorem ck_27_31 : ∃ b, tb_cr (tb_oc 27) 22 = some (0, 25, b, 1) := ⟨_, rfl⟩
theorem dk_27_34 : decode (tb_mb 27) 34 = .ok (.bipush (24), 2) := by decide +kernel
theorem dk_27_36 : decode (tb_mb 27) 36 = .ok (.lshl, 1) := by decide +kernel
theorem dk_27_37 : decode (tb_mb 27) 37 = .ok (.lor, 1) := by decide +kernel
theorem dk_27_38 : decode (tb_mb 27) 38 = .ok (.l2i, 1) := by decide +kernel
theorem dk_27_39 : decode (tb_mb 27) 39 = .ok (.i2l, 1) := by decide +kernel
theorem dk_27_40 : decode (tb_mb 27) 40 = .ok (.lreturn, 1) := by decide +kernel
def b_27_0 (x1 : Int32) (I : dI) (J : dJ) : Option Int64 := (m_25 x1 I J).bind (fun r1 => (m_25 (x1 + 1) I J).bind (fun r3 => (m_25 (x1 + 2) I J).bind (fun r5 => (m_25 (x1 + 3) I J).bind (fun r7 => some (Int32.toInt64 (Int64.toInt32 (((r1 ||| (r3 <<< ((Int32.toInt64 8) &&& 63))) ||| (r5 <<< ((Int32.toInt64 16) &&& 63))) ||| (r7 <<< ((Int32.toInt64 24) &&& 63)))))))))
theorem p_27_0 {Q : Nat → Option Nat} {D : Nat} (hD : 2 ≤ D) (x1 : Int32) (I : dI) (J : dJ) (R : Int64) (h : b_27_0 x1 I J = some R) : Rn Q D 27 0 [(0, .ref 3), (1, .int x1)] [] I J (some (.long R)) I J := by
  replace h : ((m_25 x1 I J).bind (fun r1 => (m_25 (x1 + 1) I J).bind (fun r3 => (m_25 (x1 + 2) I J).bind (fun r5 => (m_25 (x1 + 3) I J).bind (fun r7 => some (Int32.toInt64 (Int64.toInt32 (((r1 ||| (r3 <<< ((Int32.toInt64 8) &&& 63))) ||| (r5 <<< ((Int32.toInt64 16) &&& 63))) ||| (r7 <<< ((Int32.toInt64 24) &&& 63)))))))))) = some R := h
  refine Rn.pu (st' := [.ref 3]) dk_27_0 L_27 rfl ?_
  refine Rn.pu (st' := [.int x1, .ref 3]) dk_27_1 L_27 rfl ?_
  obtain ⟨r1, e2, h⟩ := bindS h
  refine Rn.cvJ (p := 3) (As := [.int x1]) (rest := []) dk_27_2 ck_27_2.choose_spec rfl sk_3 rfl (x_25 (Nat.le_trans (Nat.le_of_ble_eq_true rfl) hD) e2) ?_
  refine Rn.pu (st' := [.ref 3, .long r1]) dk_27_5 L_27 rfl ?_
  refine Rn.pu (st' := [.int x1, .ref 3, .long r1]) dk_27_6 L_27 rfl ?_
  refine Rn.ic dk_27_7 cic_1 ?_
  refine Rn.pu (st' := [.int (x1 + 1), .ref 3, .long r1]) dk_27_8 L_27 rfl ?_
  obtain ⟨r3, e4, h⟩ := bindS h
  refine Rn.cvJ (p := 3) (As := [.int (x1 + 1)]) (rest := [.long r1]) dk_27_9 ck_27_9.choose_spec rfl sk_3 rfl (x_25 (Nat.le_trans (Nat.le_of_ble_eq_true rfl) hD) e4) ?_
  refine Rn.bp dk_27_12 cbp_8 ?_
  refine Rn.pu (st' := [.long (r3 <<< ((Int32.toInt64 8) &&& 63)), .long r1]) dk_27_14 L_27 rfl ?_
  refine Rn.pu (st' := [.long (r1 ||| (r3 <<< ((Int32.toInt64 8) &&& 63)))]) dk_27_15 L_27 rfl ?_
  refine Rn.pu (st' := [.ref 3, .long (r1 ||| (r3 <<< ((Int32.toInt64 8) &&& 63)))]) dk_27_16 L_27 rfl ?_
  refine Rn.pu (st' := [.int x1, .ref 3, .long (r1 ||| (r3 <<< ((Int32.toInt64 8) &&& 63)))]) dk_27_17 L_27 rfl ?_
  refine Rn.ic dk_27_18 cic_2 ?_
  refine Rn.pu (st' := [.int (x1 + 2), .ref 3, .long (r1 ||| (r3 <<< ((Int32.toInt64 8) &&& 63)))]) dk_27_19 L_27 rfl ?_
  obtain ⟨r5, e6, h⟩ := bindS h
  refine Rn.cvJ (p := 3) (As := [.int (x1 + 2)]) (rest := [.long (r1 ||| (r3 <<< ((Int32.toInt64 8) &&& 63)))]) dk_27_20 ck_27_20.choose_spec rfl sk_3 rfl (x_25 (Nat.le_trans (Nat.le_of_ble_eq_true rfl) hD) e6) ?_
  refine Rn.bp dk_27_23 cbp_16 ?_
  refine Rn.pu (st' := [.long (r5 <<< ((Int32.toInt64 16) &&& 63)), .long (r1 ||| (r3 <<< ((Int32.toInt64 8) &&& 63)))]) dk_27_25 L_27 rfl ?_
  refine Rn.pu (st' := [.long ((r1 ||| (r3 <<< ((Int32.toInt64 8) &&& 63))) ||| (r5 <<< ((Int32.toInt64 16) &&& 63)))]) dk_27_26 L_27 rfl ?_
  refine Rn.pu (st' := [.ref 3, .long ((r1 ||| (r3 <<< ((Int32.toInt64 8) &&& 63))) ||| (r5 <<< ((Int32.toInt64 16) &&& 63)))]) dk_27_27 L_27 rfl ?_
  refine Rn.pu (st' := [.int x1, .ref 3, .long ((r1 ||| (r3 <<< ((Int32.toInt64 8) &&& 63))) ||| (r5 <<< ((Int32.toInt64 16) &&& 63)))]) dk_27_28 L_27 rfl ?_
  refine Rn.ic dk_27_29 cic_3 ?_
  refine Rn.pu (st' := [.int (x1 + 3), .ref 3, .long ((r1 ||| (r3 <<< ((Int32.toInt64 8) &&& 63))) ||| (r5 <<< ((Int32.toInt64 16) &&& 63)))]) dk_27_30 L_27 rfl ?_
  obtain ⟨r7, e8, h⟩ := bindS h
  refine Rn.cvJ (p := 3) (As := [.int (x1 + 3)]) (rest := [.long ((r1 ||| (r3 <<< ((Int32.toInt64 8) &&& 63))) ||| (r5 <<< ((Int32.toInt64 16) &&& 63)))]) dk_27_31 ck_27_31.choose_spec rfl sk_3 rfl (x_25 (Nat.le_trans (Nat.le_of_ble_eq_true rfl) hD) e8) ?_
  refine Rn.bp dk_27_34 cbp_24 ?_
  refine Rn.pu (st' := [.long (r7 <<< ((Int32.toInt64 24) &&& 63)), .long ((r1 ||| (r3 <<< ((Int32.toInt64 8) &&& 63))) ||| (r5 <<< ((Int32.toInt64 16) &&& 63)))]) dk_27_36 L_27 rfl ?_
  refine Rn.pu (st' := [.long (((r1 ||| (r3 <<< ((Int32.toInt64 8) &&& 63))) ||| (r5 <<< ((Int32.toInt64 16) &&& 63))) ||| (r7 <<< ((Int32.toInt64 24) &&& 63)))]) dk_27_37 L_27 rfl ?_
  refine Rn.pu (st' := [.int (Int64.toInt32 (((r1 ||| (r3 <<< ((Int32.toInt64 8) &&& 63))) ||| (r5 <<< ((Int32.toInt64 16) &&& 63))) ||| (r7 <<< ((Int32.toInt64 24) &&& 63))))]) dk_27_38 L_27 rfl ?_
  refine Rn.pu (st' := [.long (Int32.toInt64 (Int64.toInt32 (((r1 ||| (r3 <<< ((Int32.toInt64 8) &&& 63))) ||| (r5 <<< ((Int32.toInt64 16) &&& 63))) ||| (r7 <<< ((Int32.toInt64 24) &&& 63)))))]) dk_27_39 L_27 rfl ?_
  cases h
  exact Rn.rl dk_27_40 R_27
def m_27 (x1 : Int32) (I : dI) (J : dJ) : Option Int64 := b_27_0 x1 I J
theorem x_27 {Q : Nat → Option Nat} {D : Nat} (hD : 3 ≤ D) {x1 : Int32} {I : dI} {J : dJ} {R : Int64} (h : m_27 x1 I J = some R) : Ex Q D 27 I J [.ref 3, .int x1] (some (.long R)) I J := by
  obtain ⟨D, rfl⟩ : ∃ D', D = D' + 1 := ⟨D - 1, by omega⟩
  exact Ex.of (by decide) (by rw [L_27]; exact Nat.le_of_ble_eq_true rfl) (show xm_sub [(0, .ref 3), (1, .int x1)] [(0, .ref 3), (1, .int x1)] from xm_sub_of [0, 1] [0, 1] rfl rfl (by decide)) (p_27_0 (Nat.le_of_succ_le_succ hD) _ _ _ _ h)
-- ConditionDesk$Worker.access(IJ)J
theorem L_24 : tb_mL 24 = 6 := by decide +kernel
theorem R_24 : tb_mr 24 = some .long := by decide +kernel
theorem dk_24_0 : decode (tb_mb 24) 0 = .ok (.aload_n 0, 1) := by decide +kernel
theorem dk_24_1 : decode (tb_mb 24) 1 = .ok (.getfield 33, 3) := by decide +kernel
theorem f_24_1 : ∃ b, tb_fr (tb_oc 24) 33 = some (7, 6, b) := ⟨_, rfl⟩
theorem dk_24_4 : decode (tb_mb 24) 4 = .ok (.ifCond .eq (5), 3) := by decide +kernel
theorem dk_24_9 : decode (tb_mb 24) 9 = .ok (.iload_n 1, 1) := by decide +kernel
theorem dk_24_10 : decode (tb_mb 24) 10 = .ok (.bipush (34), 2) := by decide +kernel
theorem dk_24_12 : decode (tb_mb 24) 12 = .ok (.if_icmp .ne (7), 3) := by decide +kernel
theorem dk_24_19 : decode (tb_mb 24) 19 = .ok (.iload_n 1, 1) := by decide +kernel
theorem dk_24_20 : decode (tb_mb 24) 20 = .ok (.bipush (7), 2) := by decide +kernel
theorem dk_24_22 : decode (tb_mb 24) 22 = .ok (.if_icmp .ne (7), 3) := by decide +kernel
theorem dk_24_29 : decode (tb_mb 24) 29 = .ok (.iconst (1), 1) := by decide +kernel
theorem dk_24_30 : decode (tb_mb 24) 30 = .ok (.istore 4, 2) := by decide +kernel
theorem dk_24_32 : decode (tb_mb 24) 32 = .ok (.lload_n 2, 1) := by decide +kernel
theorem dk_24_33 : decode (tb_mb 24) 33 = .ok (.lconst 0, 1) := by decide +kernel
theorem dk_24_34 : decode (tb_mb 24) 34 = .ok (.lcmp, 1) := by decide +kernel
theorem dk_24_35 : decode (tb_mb 24) 35 = .ok (.ifCond .lt (23), 3) := by decide +kernel
theorem dk_24_58 : decode (tb_mb 24) 58 = .ok (.aload_n 0, 1) := by decide +kernel
theorem dk_24_59 : decode (tb_mb 24) 59 = .ok (.iconst (2), 1) := by decide +kernel
theorem dk_24_60 : decode (tb_mb 24) 60 = .ok (.putfield 33, 3) := by decide +kernel
theorem f_24_60 : ∃ b, tb_fr (tb_oc 24) 33 = some (7, 6, b) ∧ xm_fin tb_cl (tb_ini 24) b 7 6 = true := ⟨_, rfl, rfl⟩
theorem dk_24_63 : decode (tb_mb 24) 63 = .ok (.lconst 0, 1) := by decide +kernel
theorem dk_24_64 : decode (tb_mb 24) 64 = .ok (.lreturn, 1) := by decide +kernel
theorem dk_24_38 : decode (tb_mb 24) 38 = .ok (.lload_n 2, 1) := by decide +kernel
theorem dk_24_39 : decode (tb_mb 24) 39 = .ok (.ldc2_w 125, 3) := by decide +kernel
theorem kl_24_39 : tb_kl (tb_oc 24) 125 = some (256) := by decide +kernel
theorem dk_24_42 : decode (tb_mb 24) 42 = .ok (.lcmp, 1) := by decide +kernel
theorem dk_24_43 : decode (tb_mb 24) 43 = .ok (.ifCond .ge (15), 3) := by decide +kernel
theorem dk_24_46 : decode (tb_mb 24) 46 = .ok (.lload_n 2, 1) := by decide +kernel
theorem dk_24_47 : decode (tb_mb 24) 47 = .ok (.iload 4, 2) := by decide +kernel
theorem dk_24_49 : decode (tb_mb 24) 49 = .ok (.iconst (1), 1) := by decide +kernel
theorem dk_24_50 : decode (tb_mb 24) 50 = .ok (.isub, 1) := by decide +kernel
theorem dk_24_51 : decode (tb_mb 24) 51 = .ok (.i2l, 1) := by decide +kernel
theorem dk_24_52 : decode (tb_mb 24) 52 = .ok (.land, 1) := by decide +kernel
theorem dk_24_53 : decode (tb_mb 24) 53 = .ok (.lconst 0, 1) := by decide +kernel
theorem dk_24_54 : decode (tb_mb 24) 54 = .ok (.lcmp, 1) := by decide +kernel
theorem dk_24_55 : decode (tb_mb 24) 55 = .ok (.ifCond .eq (10), 3) := by decide +kernel
theorem dk_24_65 : decode (tb_mb 24) 65 = .ok (.lload_n 2, 1) := by decide +kernel
theorem dk_24_66 : decode (tb_mb 24) 66 = .ok (.l2i, 1) := by decide +kernel
theorem dk_24_67 : decode (tb_mb 24) 67 = .ok (.istore 5, 2) := by decide +kernel
theorem dk_24_69 : decode (tb_mb 24) 69 = .ok (.iload_n 1, 1) := by decide +kernel
theorem dk_24_70 : decode (tb_mb 24) 70 = .ok (.bipush (6), 2) := by decide +kernel
theorem dk_24_72 : decode (tb_mb 24) 72 = .ok (.if_icmp .ne (13), 3) := by decide +kernel
theorem dk_24_85 : decode (tb_mb 24) 85 = .ok (.iload_n 1, 1) := by decide +kernel
theorem dk_24_86 : decode (tb_mb 24) 86 = .ok (.bipush (7), 2) := by decide +kernel
theorem dk_24_88 : decode (tb_mb 24) 88 = .ok (.if_icmp .ne (15), 3) := by decide +kernel
theorem dk_24_103 : decode (tb_mb 24) 103 = .ok (.aload_n 0, 1) := by decide +kernel
theorem dk_24_104 : decode (tb_mb 24) 104 = .ok (.getfield 36, 3) := by decide +kernel
theorem f_24_104 : ∃ b, tb_fr (tb_oc 24) 36 = some (7, 0, b) := ⟨_, rfl⟩
theorem dk_24_107 : decode (tb_mb 24) 107 = .ok (.iload 5, 2) := by decide +kernel
theorem dk_24_109 : decode (tb_mb 24) 109 = .ok (.invokevirtual 133, 3) := by decide +kernel
theorem ck_24_109 : ∃ b, tb_cr (tb_oc 24) 133 = some (0, 27, b, 1) := ⟨_, rfl⟩
theorem dk_24_112 : decode (tb_mb 24) 112 = .ok (.lreturn, 1) := by decide +kernel
theorem dk_24_91 : decode (tb_mb 24) 91 = .ok (.aload_n 0, 1) := by decide +kernel
theorem dk_24_92 : decode (tb_mb 24) 92 = .ok (.getfield 36, 3) := by decide +kernel
theorem f_24_92 : ∃ b, tb_fr (tb_oc 24) 36 = some (7, 0, b) := ⟨_, rfl⟩
theorem dk_24_95 : decode (tb_mb 24) 95 = .ok (.iload 5, 2) := by decide +kernel
theorem dk_24_97 : decode (tb_mb 24) 97 = .ok (.invokevirtual 130, 3) := by decide +kernel
theorem ck_24_97 : ∃ b, tb_cr (tb_oc 24) 130 = some (0, 26, b, 1) := ⟨_, rfl⟩
theorem dk_24_100 : decode (tb_mb 24) 100 = .ok (.goto (12), 3) := by decide +kernel
theorem dk_24_75 : decode (tb_mb 24) 75 = .ok (.aload_n 0, 1) := by decide +kernel
theorem dk_24_76 : decode (tb_mb 24) 76 = .ok (.getfield 36, 3) := by decide +kernel
theorem f_24_76 : ∃ b, tb_fr (tb_oc 24) 36 = some (7, 0, b) := ⟨_, rfl⟩
theorem dk_24_79 : decode (tb_mb 24) 79 = .ok (.iload 5, 2) := by decide +kernel
theorem dk_24_81 : decode (tb_mb 24) 81 = .ok (.invokevirtual 127, 3) := by decide +kernel
theorem ck_24_81 : ∃ b, tb_cr (tb_oc 24) 127 = some (0, 25, b, 1) := ⟨_, rfl⟩
theorem dk_24_84 : decode (tb_mb 24) 84 = .ok (.lreturn, 1) := by decide +kernel
theorem dk_24_25 : decode (tb_mb 24) 25 = .ok (.iconst (2), 1) := by decide +kernel
theorem dk_24_26 : decode (tb_mb 24) 26 = .ok (.goto (4), 3) := by decide +kernel
theorem dk_24_15 : decode (tb_mb 24) 15 = .ok (.iconst (4), 1) := by decide +kernel
theorem dk_24_16 : decode (tb_mb 24) 16 = .ok (.goto (14), 3) := by decide +kernel
theorem dk_24_7 : decode (tb_mb 24) 7 = .ok (.lconst 0, 1) := by decide +kernel
theorem dk_24_8 : decode (tb_mb 24) 8 = .ok (.lreturn, 1) := by decide +kernel
def b_24_58 (p : Nat) (I : dI) (J : dJ) : Option (Int64 × dI × dJ) := lt_ (sI I p 6 2) (fun I5 => some (0, I5, J))
theorem p_24_58 {Q : Nat → Option Nat} {D : Nat} {p : Nat} (hD : 3 ≤ D) (okp : okW p) (I : dI) (J : dJ) (R : (Int64 × dI × dJ)) (h : b_24_58 p I J = some R) : Rn Q D 24 58 [(0, .ref p)] [] I J (some (.long R.1)) R.2.1 R.2.2 := by
  replace h : (lt_ (sI I p 6 2) (fun I5 => some (0, I5, J))) = some R := h
  refine Rn.pu (st' := [.ref p]) dk_24_58 L_24 rfl ?_
  refine Rn.ic dk_24_59 cic_2 ?_
  obtain ⟨I5, eI5, h⟩ := letS h
  refine Rn.pI dk_24_60 f_24_60.choose_spec.1 okp.1 rfl f_24_60.choose_spec.2 rfl rfl ?_
  rw [← eI5]
  refine Rn.lc dk_24_63 clc_0 ?_
  cases h
  exact Rn.rl dk_24_64 R_24
def b_24_30 (p : Nat) (x1 : Int32) (x2 : Int64) (s0 : Int32) (I : dI) (J : dJ) : Option (Int64 × dI × dJ) := if (lg_cmp x2 0) < 0 then (b_24_58 p I J) else (if 0 ≤ (lg_cmp x2 256) then (b_24_58 p I J) else (if (lg_cmp (x2 &&& (Int32.toInt64 (s0 - 1))) 0) = 0 then (if ¬ x1 = 6 then (if ¬ x1 = 7 then ((m_27 (Int64.toInt32 x2) I J).bind (fun r9 => some (r9, I, J))) else ((m_26 (Int64.toInt32 x2) I J).bind (fun r11 => some (r11, I, J)))) else ((m_25 (Int64.toInt32 x2) I J).bind (fun r13 => some (r13, I, J)))) else (b_24_58 p I J)))
theorem p_24_30 {Q : Nat → Option Nat} {D : Nat} {p : Nat} (hD : 3 ≤ D) (okp : okW p) (x1 : Int32) (x2 : Int64) (s0 : Int32) (I : dI) (J : dJ) (R : (Int64 × dI × dJ)) (h : b_24_30 p x1 x2 s0 I J = some R) : Rn Q D 24 30 [(0, .ref p), (1, .int x1), (2, .long x2)] [.int s0] I J (some (.long R.1)) R.2.1 R.2.2 := by
  replace h : (if (lg_cmp x2 0) < 0 then (b_24_58 p I J) else (if 0 ≤ (lg_cmp x2 256) then (b_24_58 p I J) else (if (lg_cmp (x2 &&& (Int32.toInt64 (s0 - 1))) 0) = 0 then (if ¬ x1 = 6 then (if ¬ x1 = 7 then ((m_27 (Int64.toInt32 x2) I J).bind (fun r9 => some (r9, I, J))) else ((m_26 (Int64.toInt32 x2) I J).bind (fun r11 => some (r11, I, J)))) else ((m_25 (Int64.toInt32 x2) I J).bind (fun r13 => some (r13, I, J)))) else (b_24_58 p I J)))) = some R := h
  refine Rn.pu (ls' := [(4, .int s0), (0, .ref p), (1, .int x1), (2, .long x2)]) (st' := []) dk_24_30 L_24 rfl ?_
  refine Rn.pu (st' := [.long x2]) dk_24_32 L_24 rfl ?_
  refine Rn.lc dk_24_33 clc_0 ?_
  refine Rn.pu (st' := [.int (lg_cmp x2 0)]) dk_24_34 L_24 rfl ?_
  by_cases c4 : (lg_cmp x2 0) < 0
  · rw [if_pos c4] at h
    refine Rn.i1t (t := 58) dk_24_35 rfl (decide_eq_true c4) ?_
    exact Rn.wk [1] rfl (p_24_58 hD okp _ _ _ h)
  · rw [if_neg c4] at h
    refine Rn.i1f (t := 58) dk_24_35 rfl (decide_eq_false c4) ?_
    refine Rn.pu (st' := [.long x2]) dk_24_38 L_24 rfl ?_
    refine Rn.ldl dk_24_39 kl_24_39 ?_
    refine Rn.pu (st' := [.int (lg_cmp x2 256)]) dk_24_42 L_24 rfl ?_
    by_cases c5 : 0 ≤ (lg_cmp x2 256)
    · rw [if_pos c5] at h
      refine Rn.i1t (t := 58) dk_24_43 rfl (decide_eq_true c5) ?_
      exact Rn.wk [1] rfl (p_24_58 hD okp _ _ _ h)
    · rw [if_neg c5] at h
      refine Rn.i1f (t := 58) dk_24_43 rfl (decide_eq_false c5) ?_
      refine Rn.pu (st' := [.long x2]) dk_24_46 L_24 rfl ?_
      refine Rn.pu (st' := [.int s0, .long x2]) dk_24_47 L_24 rfl ?_
      refine Rn.ic dk_24_49 cic_1 ?_
      refine Rn.pu (st' := [.int (s0 - 1), .long x2]) dk_24_50 L_24 rfl ?_
      refine Rn.pu (st' := [.long (Int32.toInt64 (s0 - 1)), .long x2]) dk_24_51 L_24 rfl ?_
      refine Rn.pu (st' := [.long (x2 &&& (Int32.toInt64 (s0 - 1)))]) dk_24_52 L_24 rfl ?_
      refine Rn.lc dk_24_53 clc_0 ?_
      refine Rn.pu (st' := [.int (lg_cmp (x2 &&& (Int32.toInt64 (s0 - 1))) 0)]) dk_24_54 L_24 rfl ?_
      by_cases c6 : (lg_cmp (x2 &&& (Int32.toInt64 (s0 - 1))) 0) = 0
      · rw [if_pos c6] at h
        refine Rn.i1t (t := 65) dk_24_55 rfl (decide_eq_true c6) ?_
        refine Rn.pu (st' := [.long x2]) dk_24_65 L_24 rfl ?_
        refine Rn.pu (st' := [.int (Int64.toInt32 x2)]) dk_24_66 L_24 rfl ?_
        refine Rn.pu (ls' := [(5, .int (Int64.toInt32 x2)), (4, .int s0), (0, .ref p), (1, .int x1), (2, .long x2)]) (st' := []) dk_24_67 L_24 rfl ?_
        refine Rn.pu (st' := [.int x1]) dk_24_69 L_24 rfl ?_
        refine Rn.bp dk_24_70 cbp_6 ?_
        by_cases c7 : ¬ x1 = 6
        · rw [if_pos c7] at h
          refine Rn.i2t (t := 85) dk_24_72 rfl (decide_eq_true c7) ?_
          refine Rn.pu (st' := [.int x1]) dk_24_85 L_24 rfl ?_
          refine Rn.bp dk_24_86 cbp_7 ?_
          by_cases c8 : ¬ x1 = 7
          · rw [if_pos c8] at h
            refine Rn.i2t (t := 103) dk_24_88 rfl (decide_eq_true c8) ?_
            refine Rn.pu (st' := [.ref p]) dk_24_103 L_24 rfl ?_
            refine Rn.gR (r := 3) dk_24_104 f_24_104.choose_spec okp.1 rfl ?_
            refine Rn.pu (st' := [.int (Int64.toInt32 x2), .ref 3]) dk_24_107 L_24 rfl ?_
            obtain ⟨r9, e10, h⟩ := bindS h
            refine Rn.cvJ (p := 3) (As := [.int (Int64.toInt32 x2)]) (rest := []) dk_24_109 ck_24_109.choose_spec rfl sk_3 rfl (x_27 (Nat.le_trans (Nat.le_of_ble_eq_true rfl) hD) e10) ?_
            cases h
            exact Rn.rl dk_24_112 R_24
          · rw [if_neg c8] at h
            refine Rn.i2f (t := 103) dk_24_88 rfl (decide_eq_false c8) ?_
            refine Rn.pu (st' := [.ref p]) dk_24_91 L_24 rfl ?_
            refine Rn.gR (r := 3) dk_24_92 f_24_92.choose_spec okp.1 rfl ?_
            refine Rn.pu (st' := [.int (Int64.toInt32 x2), .ref 3]) dk_24_95 L_24 rfl ?_
            obtain ⟨r11, e12, h⟩ := bindS h
            refine Rn.cvJ (p := 3) (As := [.int (Int64.toInt32 x2)]) (rest := []) dk_24_97 ck_24_97.choose_spec rfl sk_3 rfl (x_26 (Nat.le_trans (Nat.le_of_ble_eq_true rfl) hD) e12) ?_
            refine Rn.gt (t := 112) dk_24_100 rfl ?_
            cases h
            exact Rn.rl dk_24_112 R_24
        · rw [if_neg c7] at h
          refine Rn.i2f (t := 85) dk_24_72 rfl (decide_eq_false c7) ?_
          refine Rn.pu (st' := [.ref p]) dk_24_75 L_24 rfl ?_
          refine Rn.gR (r := 3) dk_24_76 f_24_76.choose_spec okp.1 rfl ?_
          refine Rn.pu (st' := [.int (Int64.toInt32 x2), .ref 3]) dk_24_79 L_24 rfl ?_
          obtain ⟨r13, e14, h⟩ := bindS h
          refine Rn.cvJ (p := 3) (As := [.int (Int64.toInt32 x2)]) (rest := []) dk_24_81 ck_24_81.choose_spec rfl sk_3 rfl (x_25 (Nat.le_trans (Nat.le_of_ble_eq_true rfl) hD) e14) ?_
          cases h
          exact Rn.rl dk_24_84 R_24
      · rw [if_neg c6] at h
        refine Rn.i1f (t := 65) dk_24_55 rfl (decide_eq_false c6) ?_
        exact Rn.wk [1] rfl (p_24_58 hD okp _ _ _ h)
def b_24_0 (p : Nat) (x1 : Int32) (x2 : Int64) (I : dI) (J : dJ) : Option (Int64 × dI × dJ) := if (I p 6) = 0 then (if ¬ x1 = 34 then (if ¬ x1 = 7 then (b_24_30 p x1 x2 1 I J) else (b_24_30 p x1 x2 2 I J)) else (b_24_30 p x1 x2 4 I J)) else (some (0, I, J))
theorem p_24_0 {Q : Nat → Option Nat} {D : Nat} {p : Nat} (hD : 3 ≤ D) (okp : okW p) (x1 : Int32) (x2 : Int64) (I : dI) (J : dJ) (R : (Int64 × dI × dJ)) (h : b_24_0 p x1 x2 I J = some R) : Rn Q D 24 0 [(0, .ref p), (1, .int x1), (2, .long x2)] [] I J (some (.long R.1)) R.2.1 R.2.2 := by
  replace h : (if (I p 6) = 0 then (if ¬ x1 = 34 then (if ¬ x1 = 7 then (b_24_30 p x1 x2 1 I J) else (b_24_30 p x1 x2 2 I J)) else (b_24_30 p x1 x2 4 I J)) else (some (0, I, J))) = some R := h
  refine Rn.pu (st' := [.ref p]) dk_24_0 L_24 rfl ?_
  refine Rn.gI dk_24_1 f_24_1.choose_spec okp.1 rfl ?_
  by_cases c1 : (I p 6) = 0
  · rw [if_pos c1] at h
    refine Rn.i1t (t := 9) dk_24_4 rfl (decide_eq_true c1) ?_
    refine Rn.pu (st' := [.int x1]) dk_24_9 L_24 rfl ?_
    refine Rn.bp dk_24_10 cbp_34 ?_
    by_cases c2 : ¬ x1 = 34
    · rw [if_pos c2] at h
      refine Rn.i2t (t := 19) dk_24_12 rfl (decide_eq_true c2) ?_
      refine Rn.pu (st' := [.int x1]) dk_24_19 L_24 rfl ?_
      refine Rn.bp dk_24_20 cbp_7 ?_
      by_cases c3 : ¬ x1 = 7
      · rw [if_pos c3] at h
        refine Rn.i2t (t := 29) dk_24_22 rfl (decide_eq_true c3) ?_
        refine Rn.ic dk_24_29 cic_1 ?_
        exact Rn.wk [0, 1, 2] rfl (p_24_30 hD okp _ _ _ _ _ _ h)
      · rw [if_neg c3] at h
        refine Rn.i2f (t := 29) dk_24_22 rfl (decide_eq_false c3) ?_
        refine Rn.ic dk_24_25 cic_2 ?_
        refine Rn.gt (t := 30) dk_24_26 rfl ?_
        exact Rn.wk [0, 1, 2] rfl (p_24_30 hD okp _ _ _ _ _ _ h)
    · rw [if_neg c2] at h
      refine Rn.i2f (t := 19) dk_24_12 rfl (decide_eq_false c2) ?_
      refine Rn.ic dk_24_15 cic_4 ?_
      refine Rn.gt (t := 30) dk_24_16 rfl ?_
      exact Rn.wk [0, 1, 2] rfl (p_24_30 hD okp _ _ _ _ _ _ h)
  · rw [if_neg c1] at h
    refine Rn.i1f (t := 9) dk_24_4 rfl (decide_eq_false c1) ?_
    refine Rn.lc dk_24_7 clc_0 ?_
    cases h
    exact Rn.rl dk_24_8 R_24
def m_24 (p : Nat) (x1 : Int32) (x2 : Int64) (I : dI) (J : dJ) : Option (Int64 × dI × dJ) := b_24_0 p x1 x2 I J
theorem x_24 {Q : Nat → Option Nat} {D : Nat} {p : Nat} (hD : 4 ≤ D) (okp : okW p) {x1 : Int32} {x2 : Int64} {I : dI} {J : dJ} {R : (Int64 × dI × dJ)} (h : m_24 p x1 x2 I J = some R) : Ex Q D 24 I J [.ref p, .int x1, .long x2] (some (.long R.1)) R.2.1 R.2.2 := by
  obtain ⟨D, rfl⟩ : ∃ D', D = D' + 1 := ⟨D - 1, by omega⟩
  exact Ex.of (by decide) (by rw [L_24]; exact Nat.le_of_ble_eq_true rfl) (show xm_sub [(0, .ref p), (1, .int x1), (2, .long x2)] [(0, .ref p), (1, .int x1), (2, .long x2)] from xm_sub_of [0, 1, 2] [0, 1, 2] rfl rfl (by decide)) (p_24_0 (Nat.le_of_succ_le_succ hD) okp _ _ _ _ _ h)
