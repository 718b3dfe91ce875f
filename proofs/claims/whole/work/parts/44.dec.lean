/-! Printed by wip/whole/gen_dec.py: methods read back. -/
-- ConditionDesk$Program.clear()V
theorem L_44 : tb_mL 44 = 1 := by decide +kernel
theorem R_44 : tb_mr 44 = none := by decide +kernel
theorem dk_44_0 : decode (tb_mb 44) 0 = .ok (.aload_n 0, 1) := by decide +kernel
theorem dk_44_1 : decode (tb_mb 44) 1 = .ok (.iconst (0), 1) := by decide +kernel
theorem dk_44_2 : decode (tb_mb 44) 2 = .ok (.putfield 25, 3) := by decide +kernel
theorem f_44_2 : ∃ b, tb_fr (tb_oc 44) 25 = some (4, 4, b) ∧ xm_fin tb_cl (tb_ini 44) b 4 4 = true := ⟨_, rfl, rfl⟩
theorem dk_44_5 : decode (tb_mb 44) 5 = .ok (.aload_n 0, 1) := by decide +kernel
theorem dk_44_6 : decode (tb_mb 44) 6 = .ok (.iconst (0), 1) := by decide +kernel
theorem dk_44_7 : decode (tb_mb 44) 7 = .ok (.putfield 29, 3) := by decide +kernel
theorem f_44_7 : ∃ b, tb_fr (tb_oc 44) 29 = some (4, 5, b) ∧ xm_fin tb_cl (tb_ini 44) b 4 5 = true := ⟨_, rfl, rfl⟩
theorem dk_44_10 : decode (tb_mb 44) 10 = .ok (.return_, 1) := by decide +kernel
def b_44_0 (p : Nat) (I : dI) (J : dJ) : Option (dI × dJ) := lt_ (sI I p 4 0) (fun I1 => lt_ (sI I1 p 5 0) (fun I2 => some (I2, J)))
theorem p_44_0 {Q : Nat → Option Nat} {D : Nat} {p : Nat} (hD : 1 ≤ D) (okp : okPr p) (I : dI) (J : dJ) (R : (dI × dJ)) (h : b_44_0 p I J = some R) : Rn Q D 44 0 [(0, .ref p)] [] I J (none) R.1 R.2 := by
  replace h : (lt_ (sI I p 4 0) (fun I1 => lt_ (sI I1 p 5 0) (fun I2 => some (I2, J)))) = some R := h
  refine Rn.pu (st' := [.ref p]) dk_44_0 L_44 rfl ?_
  refine Rn.ic dk_44_1 cic_0 ?_
  obtain ⟨I1, eI1, h⟩ := letS h
  refine Rn.pI dk_44_2 f_44_2.choose_spec.1 okp.1 rfl f_44_2.choose_spec.2 rfl rfl ?_
  rw [← eI1]
  refine Rn.pu (st' := [.ref p]) dk_44_5 L_44 rfl ?_
  refine Rn.ic dk_44_6 cic_0 ?_
  obtain ⟨I2, eI2, h⟩ := letS h
  refine Rn.pI dk_44_7 f_44_7.choose_spec.1 okp.1 rfl f_44_7.choose_spec.2 rfl rfl ?_
  rw [← eI2]
  cases h
  exact Rn.rv dk_44_10 R_44
def m_44 (p : Nat) (I : dI) (J : dJ) : Option (dI × dJ) := b_44_0 p I J
theorem x_44 {Q : Nat → Option Nat} {D : Nat} {p : Nat} (hD : 2 ≤ D) (okp : okPr p) {I : dI} {J : dJ} {R : (dI × dJ)} (h : m_44 p I J = some R) : Ex Q D 44 I J [.ref p] (none) R.1 R.2 := by
  obtain ⟨D, rfl⟩ : ∃ D', D = D' + 1 := ⟨D - 1, by omega⟩
  exact Ex.of (by decide) (by rw [L_44]; exact Nat.le_of_ble_eq_true rfl) (show xm_sub [(0, .ref p)] [(0, .ref p)] from xm_sub_of [0] [0] rfl rfl (by decide)) (p_44_0 (Nat.le_of_succ_le_succ hD) okp _ _ _ h)
-- ConditionDesk$Pile.clear()V
theorem L_45 : tb_mL 45 = 1 := by decide +kernel
theorem R_45 : tb_mr 45 = none := by decide +kernel
theorem dk_45_0 : decode (tb_mb 45) 0 = .ok (.aload_n 0, 1) := by decide +kernel
theorem dk_45_1 : decode (tb_mb 45) 1 = .ok (.iconst (0), 1) := by decide +kernel
theorem dk_45_2 : decode (tb_mb 45) 2 = .ok (.putfield 7, 3) := by decide +kernel
theorem f_45_2 : ∃ b, tb_fr (tb_oc 45) 7 = some (3, 1, b) ∧ xm_fin tb_cl (tb_ini 45) b 3 1 = true := ⟨_, rfl, rfl⟩
theorem dk_45_5 : decode (tb_mb 45) 5 = .ok (.return_, 1) := by decide +kernel
def b_45_0 (p : Nat) (np : Nat) (I : dI) (J : dJ) : Option (dI × dJ) := lt_ (sI I p 1 0) (fun I1 => some (I1, J))
theorem p_45_0 {Q : Nat → Option Nat} {D : Nat} {p : Nat} {np : Nat} (hD : 1 ≤ D) (okp : okPi p np) (I : dI) (J : dJ) (R : (dI × dJ)) (h : b_45_0 p np I J = some R) : Rn Q D 45 0 [(0, .ref p)] [] I J (none) R.1 R.2 := by
  replace h : (lt_ (sI I p 1 0) (fun I1 => some (I1, J))) = some R := h
  refine Rn.pu (st' := [.ref p]) dk_45_0 L_45 rfl ?_
  refine Rn.ic dk_45_1 cic_0 ?_
  obtain ⟨I1, eI1, h⟩ := letS h
  refine Rn.pI dk_45_2 f_45_2.choose_spec.1 okp.1 rfl f_45_2.choose_spec.2 rfl rfl ?_
  rw [← eI1]
  cases h
  exact Rn.rv dk_45_5 R_45
def m_45 (p : Nat) (np : Nat) (I : dI) (J : dJ) : Option (dI × dJ) := b_45_0 p np I J
theorem x_45 {Q : Nat → Option Nat} {D : Nat} {p : Nat} {np : Nat} (hD : 2 ≤ D) (okp : okPi p np) {I : dI} {J : dJ} {R : (dI × dJ)} (h : m_45 p np I J = some R) : Ex Q D 45 I J [.ref p] (none) R.1 R.2 := by
  obtain ⟨D, rfl⟩ : ∃ D', D = D' + 1 := ⟨D - 1, by omega⟩
  exact Ex.of (by decide) (by rw [L_45]; exact Nat.le_of_ble_eq_true rfl) (show xm_sub [(0, .ref p)] [(0, .ref p)] from xm_sub_of [0] [0] rfl rfl (by decide)) (p_45_0 (Nat.le_of_succ_le_succ hD) okp _ _ _ h)
-- ConditionDesk$Builder.restart()V
theorem L_42 : tb_mL 42 = 1 := by decide +kernel
theorem R_42 : tb_mr 42 = none := by decide +kernel
theorem dk_42_0 : decode (tb_mb 42) 0 = .ok (.aload_n 0, 1) := by decide +kernel
theorem dk_42_1 : decode (tb_mb 42) 1 = .ok (.getfield 46, 3) := by decide +kernel
theorem f_42_1 : ∃ b, tb_fr (tb_oc 42) 46 = some (0, 1, b) := ⟨_, rfl⟩
theorem dk_42_4 : decode (tb_mb 42) 4 = .ok (.invokevirtual 77, 3) := by decide +kernel
theorem ck_42_4 : ∃ b, tb_cr (tb_oc 42) 77 = some (0, 43, b, 0) := ⟨_, rfl⟩
theorem dk_42_7 : decode (tb_mb 42) 7 = .ok (.aload_n 0, 1) := by decide +kernel
theorem dk_42_8 : decode (tb_mb 42) 8 = .ok (.getfield 12, 3) := by decide +kernel
theorem f_42_8 : ∃ b, tb_fr (tb_oc 42) 12 = some (0, 2, b) := ⟨_, rfl⟩
theorem dk_42_11 : decode (tb_mb 42) 11 = .ok (.invokevirtual 78, 3) := by decide +kernel
theorem ck_42_11 : ∃ b, tb_cr (tb_oc 42) 78 = some (0, 44, b, 0) := ⟨_, rfl⟩
theorem dk_42_14 : decode (tb_mb 42) 14 = .ok (.aload_n 0, 1) := by decide +kernel
theorem dk_42_15 : decode (tb_mb 42) 15 = .ok (.getfield 23, 3) := by decide +kernel
theorem f_42_15 : ∃ b, tb_fr (tb_oc 42) 23 = some (0, 3, b) := ⟨_, rfl⟩
theorem dk_42_18 : decode (tb_mb 42) 18 = .ok (.invokevirtual 81, 3) := by decide +kernel
theorem ck_42_18 : ∃ b, tb_cr (tb_oc 42) 81 = some (0, 45, b, 0) := ⟨_, rfl⟩
theorem dk_42_21 : decode (tb_mb 42) 21 = .ok (.aload_n 0, 1) := by decide +kernel
theorem dk_42_22 : decode (tb_mb 42) 22 = .ok (.getfield 27, 3) := by decide +kernel
theorem f_42_22 : ∃ b, tb_fr (tb_oc 42) 27 = some (0, 4, b) := ⟨_, rfl⟩
theorem dk_42_25 : decode (tb_mb 42) 25 = .ok (.invokevirtual 81, 3) := by decide +kernel
theorem ck_42_25 : ∃ b, tb_cr (tb_oc 42) 81 = some (0, 45, b, 0) := ⟨_, rfl⟩
theorem dk_42_28 : decode (tb_mb 42) 28 = .ok (.aload_n 0, 1) := by decide +kernel
theorem dk_42_29 : decode (tb_mb 42) 29 = .ok (.getfield 30, 3) := by decide +kernel
theorem f_42_29 : ∃ b, tb_fr (tb_oc 42) 30 = some (0, 5, b) := ⟨_, rfl⟩
theorem dk_42_32 : decode (tb_mb 42) 32 = .ok (.invokevirtual 81, 3) := by decide +kernel
theorem ck_42_32 : ∃ b, tb_cr (tb_oc 42) 81 = some (0, 45, b, 0) := ⟨_, rfl⟩
theorem dk_42_35 : decode (tb_mb 42) 35 = .ok (.aload_n 0, 1) := by decide +kernel
theorem dk_42_36 : decode (tb_mb 42) 36 = .ok (.iconst (0), 1) := by decide +kernel
theorem dk_42_37 : decode (tb_mb 42) 37 = .ok (.putfield 33, 3) := by decide +kernel
theorem f_42_37 : ∃ b, tb_fr (tb_oc 42) 33 = some (0, 6, b) ∧ xm_fin tb_cl (tb_ini 42) b 0 6 = true := ⟨_, rfl, rfl⟩
theorem dk_42_40 : decode (tb_mb 42) 40 = .ok (.return_, 1) := by decide +kernel
def b_42_0 (I : dI) (J : dJ) : Option (dI × dJ) := (m_43 I J).bind (fun r1 => (m_44 7 r1.1 r1.2).bind (fun r3 => (m_45 12 80 r3.1 r3.2).bind (fun r5 => (m_45 14 40 r5.1 r5.2).bind (fun r7 => (m_45 16 8 r7.1 r7.2).bind (fun r9 => lt_ (sI r9.1 6 6 0) (fun I11 => some (I11, r9.2)))))))
theorem p_42_0 {Q : Nat → Option Nat} {D : Nat} (hD : 2 ≤ D) (I : dI) (J : dJ) (R : (dI × dJ)) (h : b_42_0 I J = some R) : Rn Q D 42 0 [(0, .ref 6)] [] I J (none) R.1 R.2 := by
  replace h : ((m_43 I J).bind (fun r1 => (m_44 7 r1.1 r1.2).bind (fun r3 => (m_45 12 80 r3.1 r3.2).bind (fun r5 => (m_45 14 40 r5.1 r5.2).bind (fun r7 => (m_45 16 8 r7.1 r7.2).bind (fun r9 => lt_ (sI r9.1 6 6 0) (fun I11 => some (I11, r9.2)))))))) = some R := h
  refine Rn.pu (st' := [.ref 6]) dk_42_0 L_42 rfl ?_
  refine Rn.gR (r := 18) dk_42_1 f_42_1.choose_spec sk_6 rfl ?_
  obtain ⟨r1, e2, h⟩ := bindS h
  refine Rn.cvV (p := 18) (As := []) (rest := []) dk_42_4 ck_42_4.choose_spec rfl sk_18 rfl (x_43 (Nat.le_trans (Nat.le_of_ble_eq_true rfl) hD) e2) ?_
  refine Rn.pu (st' := [.ref 6]) dk_42_7 L_42 rfl ?_
  refine Rn.gR (r := 7) dk_42_8 f_42_8.choose_spec sk_6 rfl ?_
  obtain ⟨r3, e4, h⟩ := bindS h
  refine Rn.cvV (p := 7) (As := []) (rest := []) dk_42_11 ck_42_11.choose_spec rfl sk_7 rfl (x_44 (Nat.le_trans (Nat.le_of_ble_eq_true rfl) hD) ok_7 e4) ?_
  refine Rn.pu (st' := [.ref 6]) dk_42_14 L_42 rfl ?_
  refine Rn.gR (r := 12) dk_42_15 f_42_15.choose_spec sk_6 rfl ?_
  obtain ⟨r5, e6, h⟩ := bindS h
  refine Rn.cvV (p := 12) (As := []) (rest := []) dk_42_18 ck_42_18.choose_spec rfl sk_12 rfl (x_45 (Nat.le_trans (Nat.le_of_ble_eq_true rfl) hD) ok_12 e6) ?_
  refine Rn.pu (st' := [.ref 6]) dk_42_21 L_42 rfl ?_
  refine Rn.gR (r := 14) dk_42_22 f_42_22.choose_spec sk_6 rfl ?_
  obtain ⟨r7, e8, h⟩ := bindS h
  refine Rn.cvV (p := 14) (As := []) (rest := []) dk_42_25 ck_42_25.choose_spec rfl sk_14 rfl (x_45 (Nat.le_trans (Nat.le_of_ble_eq_true rfl) hD) ok_14 e8) ?_
  refine Rn.pu (st' := [.ref 6]) dk_42_28 L_42 rfl ?_
  refine Rn.gR (r := 16) dk_42_29 f_42_29.choose_spec sk_6 rfl ?_
  obtain ⟨r9, e10, h⟩ := bindS h
  refine Rn.cvV (p := 16) (As := []) (rest := []) dk_42_32 ck_42_32.choose_spec rfl sk_16 rfl (x_45 (Nat.le_trans (Nat.le_of_ble_eq_true rfl) hD) ok_16 e10) ?_
  refine Rn.pu (st' := [.ref 6]) dk_42_35 L_42 rfl ?_
  refine Rn.ic dk_42_36 cic_0 ?_
  obtain ⟨I11, eI11, h⟩ := letS h
  refine Rn.pI dk_42_37 f_42_37.choose_spec.1 sk_6 rfl f_42_37.choose_spec.2 rfl rfl ?_
  rw [← eI11]
  cases h
  exact Rn.rv dk_42_40 R_42
def m_42 (I : dI) (J : dJ) : Option (dI × dJ) := b_42_0 I J
theorem x_42 {Q : Nat → Option Nat} {D : Nat} (hD : 3 ≤ D) {I : dI} {J : dJ} {R : (dI × dJ)} (h : m_42 I J = some R) : Ex Q D 42 I J [.ref 6] (none) R.1 R.2 := by
  obtain ⟨D, rfl⟩ : ∃ D', D = D' + 1 := ⟨D - 1, by omega⟩
  exact Ex.of (by decide) (by rw [L_42]; exact Nat.le_of_ble_eq_true rfl) (show xm_sub [(0, .ref 6)] [(0, .ref 6)] from xm_sub_of [0] [0] rfl rfl (by decide)) (p_42_0 (Nat.le_of_succ_le_succ hD) _ _ _ h)
-- ConditionDesk$Text.letterAt(I)C
theorem L_48 : tb_mL 48 = 2 := by decide +kernel
theorem R_48 : tb_mr 48 = some .char := by decide +kernel
theorem dk_48_0 : decode (tb_mb 48) 0 = .ok (.iload_n 1, 1) := by decide +kernel
theorem dk_48_1 : decode (tb_mb 48) 1 = .ok (.ifCond .lt (20), 3) := by decide +kernel
theorem dk_48_21 : decode (tb_mb 48) 21 = .ok (.iconst (0), 1) := by decide +kernel
theorem dk_48_22 : decode (tb_mb 48) 22 = .ok (.ireturn, 1) := by decide +kernel
theorem dk_48_4 : decode (tb_mb 48) 4 = .ok (.iload_n 1, 1) := by decide +kernel
theorem dk_48_5 : decode (tb_mb 48) 5 = .ok (.aload_n 0, 1) := by decide +kernel
theorem dk_48_6 : decode (tb_mb 48) 6 = .ok (.getfield 15, 3) := by decide +kernel
theorem f_48_6 : ∃ b, tb_fr (tb_oc 48) 15 = some (5, 1, b) := ⟨_, rfl⟩
theorem dk_48_9 : decode (tb_mb 48) 9 = .ok (.if_icmp .ge (12), 3) := by decide +kernel
theorem dk_48_12 : decode (tb_mb 48) 12 = .ok (.iload_n 1, 1) := by decide +kernel
theorem dk_48_13 : decode (tb_mb 48) 13 = .ok (.aload_n 0, 1) := by decide +kernel
theorem dk_48_14 : decode (tb_mb 48) 14 = .ok (.getfield 9, 3) := by decide +kernel
theorem f_48_14 : ∃ b, tb_fr (tb_oc 48) 9 = some (5, 0, b) := ⟨_, rfl⟩
theorem dk_48_17 : decode (tb_mb 48) 17 = .ok (.arraylength, 1) := by decide +kernel
theorem dk_48_18 : decode (tb_mb 48) 18 = .ok (.if_icmp .lt (5), 3) := by decide +kernel
theorem dk_48_23 : decode (tb_mb 48) 23 = .ok (.aload_n 0, 1) := by decide +kernel
theorem dk_48_24 : decode (tb_mb 48) 24 = .ok (.getfield 9, 3) := by decide +kernel
theorem f_48_24 : ∃ b, tb_fr (tb_oc 48) 9 = some (5, 0, b) := ⟨_, rfl⟩
theorem dk_48_27 : decode (tb_mb 48) 27 = .ok (.iload_n 1, 1) := by decide +kernel
theorem dk_48_28 : decode (tb_mb 48) 28 = .ok (.caload, 1) := by decide +kernel
theorem dk_48_29 : decode (tb_mb 48) 29 = .ok (.ireturn, 1) := by decide +kernel
def b_48_0 (x1 : Int32) (I : dI) (J : dJ) : Option Int32 := if x1 < 0 then (some 0) else (if (I 1 1) ≤ x1 then (some 0) else (if x1 < (Int32.ofNat 120) then (if ¬ (x1 < 0 ∨ 120 ≤ Int32.toNatClampNeg x1) then (if narrow .char (.int (I 2 (Int32.toNatClampNeg x1))) = .int (I 2 (Int32.toNatClampNeg x1)) then (some (I 2 (Int32.toNatClampNeg x1))) else none) else none) else (some 0)))
theorem p_48_0 {Q : Nat → Option Nat} {D : Nat} (hD : 1 ≤ D) (x1 : Int32) (I : dI) (J : dJ) (R : Int32) (h : b_48_0 x1 I J = some R) : Rn Q D 48 0 [(0, .ref 1), (1, .int x1)] [] I J (some (.int R)) I J := by
  replace h : (if x1 < 0 then (some 0) else (if (I 1 1) ≤ x1 then (some 0) else (if x1 < (Int32.ofNat 120) then (if ¬ (x1 < 0 ∨ 120 ≤ Int32.toNatClampNeg x1) then (if narrow .char (.int (I 2 (Int32.toNatClampNeg x1))) = .int (I 2 (Int32.toNatClampNeg x1)) then (some (I 2 (Int32.toNatClampNeg x1))) else none) else none) else (some 0)))) = some R := h
  refine Rn.pu (st' := [.int x1]) dk_48_0 L_48 rfl ?_
  by_cases c1 : x1 < 0
  · rw [if_pos c1] at h
    refine Rn.i1t (t := 21) dk_48_1 rfl (decide_eq_true c1) ?_
    refine Rn.ic dk_48_21 cic_0 ?_
    cases h
    exact Rn.ri dk_48_22 R_48 rfl
  · rw [if_neg c1] at h
    refine Rn.i1f (t := 21) dk_48_1 rfl (decide_eq_false c1) ?_
    refine Rn.pu (st' := [.int x1]) dk_48_4 L_48 rfl ?_
    refine Rn.pu (st' := [.ref 1, .int x1]) dk_48_5 L_48 rfl ?_
    refine Rn.gI dk_48_6 f_48_6.choose_spec sk_1 rfl ?_
    by_cases c2 : (I 1 1) ≤ x1
    · rw [if_pos c2] at h
      refine Rn.i2t (t := 21) dk_48_9 rfl (decide_eq_true c2) ?_
      refine Rn.ic dk_48_21 cic_0 ?_
      cases h
      exact Rn.ri dk_48_22 R_48 rfl
    · rw [if_neg c2] at h
      refine Rn.i2f (t := 21) dk_48_9 rfl (decide_eq_false c2) ?_
      refine Rn.pu (st' := [.int x1]) dk_48_12 L_48 rfl ?_
      refine Rn.pu (st' := [.ref 1, .int x1]) dk_48_13 L_48 rfl ?_
      refine Rn.gR (r := 2) dk_48_14 f_48_14.choose_spec sk_1 rfl ?_
      refine Rn.alen dk_48_17 sk_2 (by decide) ?_
      by_cases c3 : x1 < (Int32.ofNat 120)
      · rw [if_pos c3] at h
        refine Rn.i2t (t := 23) dk_48_18 rfl (decide_eq_true c3) ?_
        refine Rn.pu (st' := [.ref 1]) dk_48_23 L_48 rfl ?_
        refine Rn.gR (r := 2) dk_48_24 f_48_24.choose_spec sk_1 rfl ?_
        refine Rn.pu (st' := [.int x1, .ref 2]) dk_48_27 L_48 rfl ?_
        obtain ⟨c4, h⟩ := xm_if h
        refine Rn.cald dk_48_28 sk_2 c4 ?_
        obtain ⟨c5, h⟩ := xm_if h
        cases h
        exact Rn.ri dk_48_29 R_48 c5
      · rw [if_neg c3] at h
        refine Rn.i2f (t := 23) dk_48_18 rfl (decide_eq_false c3) ?_
        refine Rn.ic dk_48_21 cic_0 ?_
        cases h
        exact Rn.ri dk_48_22 R_48 rfl
def m_48 (x1 : Int32) (I : dI) (J : dJ) : Option Int32 := b_48_0 x1 I J
theorem x_48 {Q : Nat → Option Nat} {D : Nat} (hD : 2 ≤ D) {x1 : Int32} {I : dI} {J : dJ} {R : Int32} (h : m_48 x1 I J = some R) : Ex Q D 48 I J [.ref 1, .int x1] (some (.int R)) I J := by
  obtain ⟨D, rfl⟩ : ∃ D', D = D' + 1 := ⟨D - 1, by omega⟩
  exact Ex.of (by decide) (by rw [L_48]; exact Nat.le_of_ble_eq_true rfl) (show xm_sub [(0, .ref 1), (1, .int x1)] [(0, .ref 1), (1, .int x1)] from xm_sub_of [0, 1] [0, 1] rfl rfl (by decide)) (p_48_0 (Nat.le_of_succ_le_succ hD) _ _ _ _ h)
-- ConditionDesk$Tokens.skipBlanks()V
theorem L_47 : tb_mL 47 = 1 := by decide +kernel
theorem R_47 : tb_mr 47 = none := by decide +kernel
theorem dk_47_0 : decode (tb_mb 47) 0 = .ok (.aload_n 0, 1) := by decide +kernel
theorem dk_47_1 : decode (tb_mb 47) 1 = .ok (.getfield 15, 3) := by decide +kernel
theorem f_47_1 : ∃ b, tb_fr (tb_oc 47) 15 = some (6, 2, b) := ⟨_, rfl⟩
theorem dk_47_4 : decode (tb_mb 47) 4 = .ok (.aload_n 0, 1) := by decide +kernel
theorem dk_47_5 : decode (tb_mb 47) 5 = .ok (.getfield 25, 3) := by decide +kernel
theorem f_47_5 : ∃ b, tb_fr (tb_oc 47) 25 = some (6, 0, b) := ⟨_, rfl⟩
theorem dk_47_8 : decode (tb_mb 47) 8 = .ok (.getfield 38, 3) := by decide +kernel
theorem f_47_8 : ∃ b, tb_fr (tb_oc 47) 38 = some (5, 1, b) := ⟨_, rfl⟩
theorem dk_47_11 : decode (tb_mb 47) 11 = .ok (.if_icmp .ge (32), 3) := by decide +kernel
theorem dk_47_43 : decode (tb_mb 47) 43 = .ok (.return_, 1) := by decide +kernel
theorem dk_47_14 : decode (tb_mb 47) 14 = .ok (.aload_n 0, 1) := by decide +kernel
theorem dk_47_15 : decode (tb_mb 47) 15 = .ok (.getfield 25, 3) := by decide +kernel
theorem f_47_15 : ∃ b, tb_fr (tb_oc 47) 25 = some (6, 0, b) := ⟨_, rfl⟩
theorem dk_47_18 : decode (tb_mb 47) 18 = .ok (.aload_n 0, 1) := by decide +kernel
theorem dk_47_19 : decode (tb_mb 47) 19 = .ok (.getfield 15, 3) := by decide +kernel
theorem f_47_19 : ∃ b, tb_fr (tb_oc 47) 15 = some (6, 2, b) := ⟨_, rfl⟩
theorem dk_47_22 : decode (tb_mb 47) 22 = .ok (.invokevirtual 32, 3) := by decide +kernel
theorem ck_47_22 : ∃ b, tb_cr (tb_oc 47) 32 = some (0, 48, b, 1) := ⟨_, rfl⟩
theorem dk_47_25 : decode (tb_mb 47) 25 = .ok (.bipush (32), 2) := by decide +kernel
theorem dk_47_27 : decode (tb_mb 47) 27 = .ok (.if_icmp .ne (16), 3) := by decide +kernel
theorem dk_47_30 : decode (tb_mb 47) 30 = .ok (.aload_n 0, 1) := by decide +kernel
theorem dk_47_31 : decode (tb_mb 47) 31 = .ok (.dup, 1) := by decide +kernel
theorem dk_47_32 : decode (tb_mb 47) 32 = .ok (.getfield 15, 3) := by decide +kernel
theorem f_47_32 : ∃ b, tb_fr (tb_oc 47) 15 = some (6, 2, b) := ⟨_, rfl⟩
theorem dk_47_35 : decode (tb_mb 47) 35 = .ok (.iconst (1), 1) := by decide +kernel
theorem dk_47_36 : decode (tb_mb 47) 36 = .ok (.iadd, 1) := by decide +kernel
theorem dk_47_37 : decode (tb_mb 47) 37 = .ok (.putfield 15, 3) := by decide +kernel
theorem f_47_37 : ∃ b, tb_fr (tb_oc 47) 15 = some (6, 2, b) ∧ xm_fin tb_cl (tb_ini 47) b 6 2 = true := ⟨_, rfl, rfl⟩
theorem dk_47_40 : decode (tb_mb 47) 40 = .ok (.goto (-40), 3) := by decide +kernel
def b_47_0 : Nat → dI → dJ → Option (dI × dJ)
  | 0, _, _ => none
  | n + 1, I, J => if (I 1 1) ≤ (I 18 2) then (some (I, J)) else ((m_48 (I 18 2) I J).bind (fun r2 => if ¬ r2 = 32 then (some (I, J)) else (lt_ (sI I 18 2 ((I 18 2) + 1)) (fun I5 => (b_47_0 n) I5 J))))
theorem p_47_0 {Q : Nat → Option Nat} {D : Nat} (hD : 2 ≤ D) : ∀ (n : Nat) (I : dI) (J : dJ) (R : (dI × dJ)), b_47_0 n I J = some R → Rn Q D 47 0 [(0, .ref 18)] [] I J (none) R.1 R.2 := by
  intro n
  induction n with
  | zero => intro I J R h; exact absurd h (by simp [b_47_0])
  | succ n ih =>
    intro I J R h
    replace h : (if (I 1 1) ≤ (I 18 2) then (some (I, J)) else ((m_48 (I 18 2) I J).bind (fun r2 => if ¬ r2 = 32 then (some (I, J)) else (lt_ (sI I 18 2 ((I 18 2) + 1)) (fun I5 => (b_47_0 n) I5 J))))) = some R := h
    refine Rn.pu (st' := [.ref 18]) dk_47_0 L_47 rfl ?_
    refine Rn.gI dk_47_1 f_47_1.choose_spec sk_18 rfl ?_
    refine Rn.pu (st' := [.ref 18, .int (I 18 2)]) dk_47_4 L_47 rfl ?_
    refine Rn.gR (r := 1) dk_47_5 f_47_5.choose_spec sk_18 rfl ?_
    refine Rn.gI dk_47_8 f_47_8.choose_spec sk_1 rfl ?_
    by_cases c1 : (I 1 1) ≤ (I 18 2)
    · rw [if_pos c1] at h
      refine Rn.i2t (t := 43) dk_47_11 rfl (decide_eq_true c1) ?_
      cases h
      exact Rn.rv dk_47_43 R_47
    · rw [if_neg c1] at h
      refine Rn.i2f (t := 43) dk_47_11 rfl (decide_eq_false c1) ?_
      refine Rn.pu (st' := [.ref 18]) dk_47_14 L_47 rfl ?_
      refine Rn.gR (r := 1) dk_47_15 f_47_15.choose_spec sk_18 rfl ?_
      refine Rn.pu (st' := [.ref 18, .ref 1]) dk_47_18 L_47 rfl ?_
      refine Rn.gI dk_47_19 f_47_19.choose_spec sk_18 rfl ?_
      obtain ⟨r2, e3, h⟩ := bindS h
      refine Rn.cvI (p := 1) (As := [.int (I 18 2)]) (rest := []) dk_47_22 ck_47_22.choose_spec rfl sk_1 rfl (x_48 (Nat.le_trans (Nat.le_of_ble_eq_true rfl) hD) e3) ?_
      refine Rn.bp dk_47_25 cbp_32 ?_
      by_cases c4 : ¬ r2 = 32
      · rw [if_pos c4] at h
        refine Rn.i2t (t := 43) dk_47_27 rfl (decide_eq_true c4) ?_
        cases h
        exact Rn.rv dk_47_43 R_47
      · rw [if_neg c4] at h
        refine Rn.i2f (t := 43) dk_47_27 rfl (decide_eq_false c4) ?_
        refine Rn.pu (st' := [.ref 18]) dk_47_30 L_47 rfl ?_
        refine Rn.pu (st' := [.ref 18, .ref 18]) dk_47_31 L_47 rfl ?_
        refine Rn.gI dk_47_32 f_47_32.choose_spec sk_18 rfl ?_
        refine Rn.ic dk_47_35 cic_1 ?_
        refine Rn.pu (st' := [.int ((I 18 2) + 1), .ref 18]) dk_47_36 L_47 rfl ?_
        obtain ⟨I5, eI5, h⟩ := letS h
        refine Rn.pI dk_47_37 f_47_37.choose_spec.1 sk_18 rfl f_47_37.choose_spec.2 rfl rfl ?_
        rw [← eI5]
        refine Rn.gt (t := 0) dk_47_40 rfl ?_
        exact Rn.wk [0] rfl (ih _ _ _ h)
def m_47 (I : dI) (J : dJ) : Option (dI × dJ) := b_47_0 FU I J
theorem x_47 {Q : Nat → Option Nat} {D : Nat} (hD : 3 ≤ D) {I : dI} {J : dJ} {R : (dI × dJ)} (h : m_47 I J = some R) : Ex Q D 47 I J [.ref 18] (none) R.1 R.2 := by
  obtain ⟨D, rfl⟩ : ∃ D', D = D' + 1 := ⟨D - 1, by omega⟩
  exact Ex.of (by decide) (by rw [L_47]; exact Nat.le_of_ble_eq_true rfl) (show xm_sub [(0, .ref 18)] [(0, .ref 18)] from xm_sub_of [0] [0] rfl rfl (by decide)) (p_47_0 (Nat.le_of_succ_le_succ hD) FU _ _ _ h)
-- ConditionDesk$Tokens.isDigit(C)Z
theorem L_49 : tb_mL 49 = 1 := by decide +kernel
theorem R_49 : tb_mr 49 = some .boolean := by decide +kernel
theorem dk_49_0 : decode (tb_mb 49) 0 = .ok (.iload_n 0, 1) := by decide +kernel
theorem dk_49_1 : decode (tb_mb 49) 1 = .ok (.bipush (48), 2) := by decide +kernel
theorem dk_49_3 : decode (tb_mb 49) 3 = .ok (.if_icmp .lt (13), 3) := by decide +kernel
theorem dk_49_16 : decode (tb_mb 49) 16 = .ok (.iconst (0), 1) := by decide +kernel
theorem dk_49_17 : decode (tb_mb 49) 17 = .ok (.ireturn, 1) := by decide +kernel
theorem dk_49_6 : decode (tb_mb 49) 6 = .ok (.iload_n 0, 1) := by decide +kernel
theorem dk_49_7 : decode (tb_mb 49) 7 = .ok (.bipush (57), 2) := by decide +kernel
theorem dk_49_9 : decode (tb_mb 49) 9 = .ok (.if_icmp .gt (7), 3) := by decide +kernel
theorem dk_49_12 : decode (tb_mb 49) 12 = .ok (.iconst (1), 1) := by decide +kernel
theorem dk_49_13 : decode (tb_mb 49) 13 = .ok (.goto (4), 3) := by decide +kernel
def b_49_0 (x0 : Int32) (I : dI) (J : dJ) : Option Int32 := if x0 < 48 then (some 0) else (if 57 < x0 then (some 0) else (some 1))
theorem p_49_0 {Q : Nat → Option Nat} {D : Nat} (hD : 1 ≤ D) (x0 : Int32) (I : dI) (J : dJ) (R : Int32) (h : b_49_0 x0 I J = some R) : Rn Q D 49 0 [(0, .int x0)] [] I J (some (.int R)) I J := by
  replace h : (if x0 < 48 then (some 0) else (if 57 < x0 then (some 0) else (some 1))) = some R := h
  refine Rn.pu (st' := [.int x0]) dk_49_0 L_49 rfl ?_
  refine Rn.bp dk_49_1 cbp_48 ?_
  by_cases c1 : x0 < 48
  · rw [if_pos c1] at h
    refine Rn.i2t (t := 16) dk_49_3 rfl (decide_eq_true c1) ?_
    refine Rn.ic dk_49_16 cic_0 ?_
    cases h
    exact Rn.ri dk_49_17 R_49 rfl
  · rw [if_neg c1] at h
    refine Rn.i2f (t := 16) dk_49_3 rfl (decide_eq_false c1) ?_
    refine Rn.pu (st' := [.int x0]) dk_49_6 L_49 rfl ?_
    refine Rn.bp dk_49_7 cbp_57 ?_
    by_cases c2 : 57 < x0
    · rw [if_pos c2] at h
      refine Rn.i2t (t := 16) dk_49_9 rfl (decide_eq_true c2) ?_
      refine Rn.ic dk_49_16 cic_0 ?_
      cases h
      exact Rn.ri dk_49_17 R_49 rfl
    · rw [if_neg c2] at h
      refine Rn.i2f (t := 16) dk_49_9 rfl (decide_eq_false c2) ?_
      refine Rn.ic dk_49_12 cic_1 ?_
      refine Rn.gt (t := 17) dk_49_13 rfl ?_
      cases h
      exact Rn.ri dk_49_17 R_49 rfl
def m_49 (x0 : Int32) (I : dI) (J : dJ) : Option Int32 := b_49_0 x0 I J
theorem x_49 {Q : Nat → Option Nat} {D : Nat} (hD : 2 ≤ D) {x0 : Int32} {I : dI} {J : dJ} {R : Int32} (h : m_49 x0 I J = some R) : Ex Q D 49 I J [.int x0] (some (.int R)) I J := by
  obtain ⟨D, rfl⟩ : ∃ D', D = D' + 1 := ⟨D - 1, by omega⟩
  exact Ex.of (by decide) (by rw [L_49]; exact Nat.le_of_ble_eq_true rfl) (show xm_sub [(0, .int x0)] [(0, .int x0)] from xm_sub_of [0] [0] rfl rfl (by decide)) (p_49_0 (Nat.le_of_succ_le_succ hD) _ _ _ _ h)
-- ConditionDesk$Tokens.digitOf(C)I
theorem L_51 : tb_mL 51 = 1 := by decide +kernel
theorem R_51 : tb_mr 51 = some .int := by decide +kernel
theorem dk_51_0 : decode (tb_mb 51) 0 = .ok (.iload_n 0, 1) := by decide +kernel
theorem dk_51_1 : decode (tb_mb 51) 1 = .ok (.invokestatic 41, 3) := by decide +kernel
theorem ck_51_1 : ∃ b, tb_cr (tb_oc 51) 41 = some (1, 49, b, 1) := ⟨_, rfl⟩
theorem dk_51_4 : decode (tb_mb 51) 4 = .ok (.ifCond .eq (8), 3) := by decide +kernel
theorem dk_51_12 : decode (tb_mb 51) 12 = .ok (.iload_n 0, 1) := by decide +kernel
theorem dk_51_13 : decode (tb_mb 51) 13 = .ok (.bipush (97), 2) := by decide +kernel
theorem dk_51_15 : decode (tb_mb 51) 15 = .ok (.if_icmp .lt (19), 3) := by decide +kernel
theorem dk_51_34 : decode (tb_mb 51) 34 = .ok (.iconst (-1), 1) := by decide +kernel
theorem dk_51_35 : decode (tb_mb 51) 35 = .ok (.ireturn, 1) := by decide +kernel
theorem dk_51_18 : decode (tb_mb 51) 18 = .ok (.iload_n 0, 1) := by decide +kernel
theorem dk_51_19 : decode (tb_mb 51) 19 = .ok (.bipush (102), 2) := by decide +kernel
theorem dk_51_21 : decode (tb_mb 51) 21 = .ok (.if_icmp .gt (13), 3) := by decide +kernel
theorem dk_51_24 : decode (tb_mb 51) 24 = .ok (.iload_n 0, 1) := by decide +kernel
theorem dk_51_25 : decode (tb_mb 51) 25 = .ok (.bipush (97), 2) := by decide +kernel
theorem dk_51_27 : decode (tb_mb 51) 27 = .ok (.isub, 1) := by decide +kernel
theorem dk_51_28 : decode (tb_mb 51) 28 = .ok (.bipush (10), 2) := by decide +kernel
theorem dk_51_30 : decode (tb_mb 51) 30 = .ok (.iadd, 1) := by decide +kernel
theorem dk_51_31 : decode (tb_mb 51) 31 = .ok (.goto (4), 3) := by decide +kernel
theorem dk_51_7 : decode (tb_mb 51) 7 = .ok (.iload_n 0, 1) := by decide +kernel
theorem dk_51_8 : decode (tb_mb 51) 8 = .ok (.bipush (48), 2) := by decide +kernel
theorem dk_51_10 : decode (tb_mb 51) 10 = .ok (.isub, 1) := by decide +kernel
theorem dk_51_11 : decode (tb_mb 51) 11 = .ok (.ireturn, 1) := by decide +kernel
def b_51_0 (x0 : Int32) (I : dI) (J : dJ) : Option Int32 := (m_49 x0 I J).bind (fun r1 => if r1 = 0 then (if x0 < 97 then (some (-1)) else (if 102 < x0 then (some (-1)) else (some ((x0 - 97) + 10)))) else (some (x0 - 48)))
theorem p_51_0 {Q : Nat → Option Nat} {D : Nat} (hD : 2 ≤ D) (x0 : Int32) (I : dI) (J : dJ) (R : Int32) (h : b_51_0 x0 I J = some R) : Rn Q D 51 0 [(0, .int x0)] [] I J (some (.int R)) I J := by
  replace h : ((m_49 x0 I J).bind (fun r1 => if r1 = 0 then (if x0 < 97 then (some (-1)) else (if 102 < x0 then (some (-1)) else (some ((x0 - 97) + 10)))) else (some (x0 - 48)))) = some R := h
  refine Rn.pu (st' := [.int x0]) dk_51_0 L_51 rfl ?_
  obtain ⟨r1, e2, h⟩ := bindS h
  refine Rn.csI (As := [.int x0]) (rest := []) dk_51_1 ck_51_1.choose_spec rfl (x_49 (Nat.le_trans (Nat.le_of_ble_eq_true rfl) hD) e2) ?_
  by_cases c3 : r1 = 0
  · rw [if_pos c3] at h
    refine Rn.i1t (t := 12) dk_51_4 rfl (decide_eq_true c3) ?_
    refine Rn.pu (st' := [.int x0]) dk_51_12 L_51 rfl ?_
    refine Rn.bp dk_51_13 cbp_97 ?_
    by_cases c4 : x0 < 97
    · rw [if_pos c4] at h
      refine Rn.i2t (t := 34) dk_51_15 rfl (decide_eq_true c4) ?_
      refine Rn.ic dk_51_34 cic_m1 ?_
      cases h
      exact Rn.ri dk_51_35 R_51 rfl
    · rw [if_neg c4] at h
      refine Rn.i2f (t := 34) dk_51_15 rfl (decide_eq_false c4) ?_
      refine Rn.pu (st' := [.int x0]) dk_51_18 L_51 rfl ?_
      refine Rn.bp dk_51_19 cbp_102 ?_
      by_cases c5 : 102 < x0
      · rw [if_pos c5] at h
        refine Rn.i2t (t := 34) dk_51_21 rfl (decide_eq_true c5) ?_
        refine Rn.ic dk_51_34 cic_m1 ?_
        cases h
        exact Rn.ri dk_51_35 R_51 rfl
      · rw [if_neg c5] at h
        refine Rn.i2f (t := 34) dk_51_21 rfl (decide_eq_false c5) ?_
        refine Rn.pu (st' := [.int x0]) dk_51_24 L_51 rfl ?_
        refine Rn.bp dk_51_25 cbp_97 ?_
        refine Rn.pu (st' := [.int (x0 - 97)]) dk_51_27 L_51 rfl ?_
        refine Rn.bp dk_51_28 cbp_10 ?_
        refine Rn.pu (st' := [.int ((x0 - 97) + 10)]) dk_51_30 L_51 rfl ?_
        refine Rn.gt (t := 35) dk_51_31 rfl ?_
        cases h
        exact Rn.ri dk_51_35 R_51 rfl
  · rw [if_neg c3] at h
    refine Rn.i1f (t := 12) dk_51_4 rfl (decide_eq_false c3) ?_
    refine Rn.pu (st' := [.int x0]) dk_51_7 L_51 rfl ?_
    refine Rn.bp dk_51_8 cbp_48 ?_
    refine Rn.pu (st' := [.int (x0 - 48)]) dk_51_10 L_51 rfl ?_
    cases h
    exact Rn.ri dk_51_11 R_51 rfl
def m_51 (x0 : Int32) (I : dI) (J : dJ) : Option Int32 := b_51_0 x0 I J
theorem x_51 {Q : Nat → Option Nat} {D : Nat} (hD : 3 ≤ D) {x0 : Int32} {I : dI} {J : dJ} {R : Int32} (h : m_51 x0 I J = some R) : Ex Q D 51 I J [.int x0] (some (.int R)) I J := by
  obtain ⟨D, rfl⟩ : ∃ D', D = D' + 1 := ⟨D - 1, by omega⟩
  exact Ex.of (by decide) (by rw [L_51]; exact Nat.le_of_ble_eq_true rfl) (show xm_sub [(0, .int x0)] [(0, .int x0)] from xm_sub_of [0] [0] rfl rfl (by decide)) (p_51_0 (Nat.le_of_succ_le_succ hD) _ _ _ _ h)
-- ConditionDesk$Tokens.isLetter(C)Z
theorem L_53 : tb_mL 53 = 1 := by decide +kernel
theorem R_53 : tb_mr 53 = some .boolean := by decide +kernel
theorem dk_53_0 : decode (tb_mb 53) 0 = .ok (.iload_n 0, 1) := by decide +kernel
theorem dk_53_1 : decode (tb_mb 53) 1 = .ok (.bipush (97), 2) := by decide +kernel
theorem dk_53_3 : decode (tb_mb 53) 3 = .ok (.if_icmp .lt (9), 3) := by decide +kernel
theorem dk_53_12 : decode (tb_mb 53) 12 = .ok (.iload_n 0, 1) := by decide +kernel
theorem dk_53_13 : decode (tb_mb 53) 13 = .ok (.bipush (65), 2) := by decide +kernel
theorem dk_53_15 : decode (tb_mb 53) 15 = .ok (.if_icmp .lt (13), 3) := by decide +kernel
theorem dk_53_28 : decode (tb_mb 53) 28 = .ok (.iconst (0), 1) := by decide +kernel
theorem dk_53_29 : decode (tb_mb 53) 29 = .ok (.ireturn, 1) := by decide +kernel
theorem dk_53_18 : decode (tb_mb 53) 18 = .ok (.iload_n 0, 1) := by decide +kernel
theorem dk_53_19 : decode (tb_mb 53) 19 = .ok (.bipush (90), 2) := by decide +kernel
theorem dk_53_21 : decode (tb_mb 53) 21 = .ok (.if_icmp .gt (7), 3) := by decide +kernel
theorem dk_53_24 : decode (tb_mb 53) 24 = .ok (.iconst (1), 1) := by decide +kernel
theorem dk_53_25 : decode (tb_mb 53) 25 = .ok (.goto (4), 3) := by decide +kernel
theorem dk_53_6 : decode (tb_mb 53) 6 = .ok (.iload_n 0, 1) := by decide +kernel
theorem dk_53_7 : decode (tb_mb 53) 7 = .ok (.bipush (122), 2) := by decide +kernel
theorem dk_53_9 : decode (tb_mb 53) 9 = .ok (.if_icmp .le (15), 3) := by decide +kernel
def b_53_12 (x0 : Int32) (I : dI) (J : dJ) : Option Int32 := if x0 < 65 then (some 0) else (if 90 < x0 then (some 0) else (some 1))
theorem p_53_12 {Q : Nat → Option Nat} {D : Nat} (hD : 1 ≤ D) (x0 : Int32) (I : dI) (J : dJ) (R : Int32) (h : b_53_12 x0 I J = some R) : Rn Q D 53 12 [(0, .int x0)] [] I J (some (.int R)) I J := by
  replace h : (if x0 < 65 then (some 0) else (if 90 < x0 then (some 0) else (some 1))) = some R := h
  refine Rn.pu (st' := [.int x0]) dk_53_12 L_53 rfl ?_
  refine Rn.bp dk_53_13 cbp_65 ?_
  by_cases c2 : x0 < 65
  · rw [if_pos c2] at h
    refine Rn.i2t (t := 28) dk_53_15 rfl (decide_eq_true c2) ?_
    refine Rn.ic dk_53_28 cic_0 ?_
    cases h
    exact Rn.ri dk_53_29 R_53 rfl
  · rw [if_neg c2] at h
    refine Rn.i2f (t := 28) dk_53_15 rfl (decide_eq_false c2) ?_
    refine Rn.pu (st' := [.int x0]) dk_53_18 L_53 rfl ?_
    refine Rn.bp dk_53_19 cbp_90 ?_
    by_cases c3 : 90 < x0
    · rw [if_pos c3] at h
      refine Rn.i2t (t := 28) dk_53_21 rfl (decide_eq_true c3) ?_
      refine Rn.ic dk_53_28 cic_0 ?_
      cases h
      exact Rn.ri dk_53_29 R_53 rfl
    · rw [if_neg c3] at h
      refine Rn.i2f (t := 28) dk_53_21 rfl (decide_eq_false c3) ?_
      refine Rn.ic dk_53_24 cic_1 ?_
      refine Rn.gt (t := 29) dk_53_25 rfl ?_
      cases h
      exact Rn.ri dk_53_29 R_53 rfl
def b_53_0 (x0 : Int32) (I : dI) (J : dJ) : Option Int32 := if x0 < 97 then (b_53_12 x0 I J) else (if x0 ≤ 122 then (some 1) else (b_53_12 x0 I J))
theorem p_53_0 {Q : Nat → Option Nat} {D : Nat} (hD : 1 ≤ D) (x0 : Int32) (I : dI) (J : dJ) (R : Int32) (h : b_53_0 x0 I J = some R) : Rn Q D 53 0 [(0, .int x0)] [] I J (some (.int R)) I J := by
  replace h : (if x0 < 97 then (b_53_12 x0 I J) else (if x0 ≤ 122 then (some 1) else (b_53_12 x0 I J))) = some R := h
  refine Rn.pu (st' := [.int x0]) dk_53_0 L_53 rfl ?_
  refine Rn.bp dk_53_1 cbp_97 ?_
  by_cases c1 : x0 < 97
  · rw [if_pos c1] at h
    refine Rn.i2t (t := 12) dk_53_3 rfl (decide_eq_true c1) ?_
    exact Rn.wk [0] rfl (p_53_12 hD _ _ _ _ h)
  · rw [if_neg c1] at h
    refine Rn.i2f (t := 12) dk_53_3 rfl (decide_eq_false c1) ?_
    refine Rn.pu (st' := [.int x0]) dk_53_6 L_53 rfl ?_
    refine Rn.bp dk_53_7 cbp_122 ?_
    by_cases c2 : x0 ≤ 122
    · rw [if_pos c2] at h
      refine Rn.i2t (t := 24) dk_53_9 rfl (decide_eq_true c2) ?_
      refine Rn.ic dk_53_24 cic_1 ?_
      refine Rn.gt (t := 29) dk_53_25 rfl ?_
      cases h
      exact Rn.ri dk_53_29 R_53 rfl
    · rw [if_neg c2] at h
      refine Rn.i2f (t := 24) dk_53_9 rfl (decide_eq_false c2) ?_
      exact Rn.wk [0] rfl (p_53_12 hD _ _ _ _ h)
def m_53 (x0 : Int32) (I : dI) (J : dJ) : Option Int32 := b_53_0 x0 I J
theorem x_53 {Q : Nat → Option Nat} {D : Nat} (hD : 2 ≤ D) {x0 : Int32} {I : dI} {J : dJ} {R : Int32} (h : m_53 x0 I J = some R) : Ex Q D 53 I J [.int x0] (some (.int R)) I J := by
  obtain ⟨D, rfl⟩ : ∃ D', D = D' + 1 := ⟨D - 1, by omega⟩
  exact Ex.of (by decide) (by rw [L_53]; exact Nat.le_of_ble_eq_true rfl) (show xm_sub [(0, .int x0)] [(0, .int x0)] from xm_sub_of [0] [0] rfl rfl (by decide)) (p_53_0 (Nat.le_of_succ_le_succ hD) _ _ _ _ h)
-- ConditionDesk$Tokens.isLetterOrDigit(C)Z
theorem L_52 : tb_mL 52 = 1 := by decide +kernel
theorem R_52 : tb_mr 52 = some .boolean := by decide +kernel
theorem dk_52_0 : decode (tb_mb 52) 0 = .ok (.iload_n 0, 1) := by decide +kernel
theorem dk_52_1 : decode (tb_mb 52) 1 = .ok (.invokestatic 48, 3) := by decide +kernel
theorem ck_52_1 : ∃ b, tb_cr (tb_oc 52) 48 = some (1, 53, b, 1) := ⟨_, rfl⟩
theorem dk_52_4 : decode (tb_mb 52) 4 = .ok (.ifCond .ne (10), 3) := by decide +kernel
theorem dk_52_14 : decode (tb_mb 52) 14 = .ok (.iconst (1), 1) := by decide +kernel
theorem dk_52_15 : decode (tb_mb 52) 15 = .ok (.goto (4), 3) := by decide +kernel
theorem dk_52_19 : decode (tb_mb 52) 19 = .ok (.ireturn, 1) := by decide +kernel
theorem dk_52_7 : decode (tb_mb 52) 7 = .ok (.iload_n 0, 1) := by decide +kernel
theorem dk_52_8 : decode (tb_mb 52) 8 = .ok (.invokestatic 41, 3) := by decide +kernel
theorem ck_52_8 : ∃ b, tb_cr (tb_oc 52) 41 = some (1, 49, b, 1) := ⟨_, rfl⟩
theorem dk_52_11 : decode (tb_mb 52) 11 = .ok (.ifCond .eq (7), 3) := by decide +kernel
theorem dk_52_18 : decode (tb_mb 52) 18 = .ok (.iconst (0), 1) := by decide +kernel
def b_52_0 (x0 : Int32) (I : dI) (J : dJ) : Option Int32 := (m_53 x0 I J).bind (fun r1 => if ¬ r1 = 0 then (some 1) else ((m_49 x0 I J).bind (fun r4 => if r4 = 0 then (some 0) else (some 1))))
theorem p_52_0 {Q : Nat → Option Nat} {D : Nat} (hD : 2 ≤ D) (x0 : Int32) (I : dI) (J : dJ) (R : Int32) (h : b_52_0 x0 I J = some R) : Rn Q D 52 0 [(0, .int x0)] [] I J (some (.int R)) I J := by
  replace h : ((m_53 x0 I J).bind (fun r1 => if ¬ r1 = 0 then (some 1) else ((m_49 x0 I J).bind (fun r4 => if r4 = 0 then (some 0) else (some 1))))) = some R := h
  refine Rn.pu (st' := [.int x0]) dk_52_0 L_52 rfl ?_
  obtain ⟨r1, e2, h⟩ := bindS h
  refine Rn.csI (As := [.int x0]) (rest := []) dk_52_1 ck_52_1.choose_spec rfl (x_53 (Nat.le_trans (Nat.le_of_ble_eq_true rfl) hD) e2) ?_
  by_cases c3 : ¬ r1 = 0
  · rw [if_pos c3] at h
    refine Rn.i1t (t := 14) dk_52_4 rfl (decide_eq_true c3) ?_
    refine Rn.ic dk_52_14 cic_1 ?_
    refine Rn.gt (t := 19) dk_52_15 rfl ?_
    cases h
    exact Rn.ri dk_52_19 R_52 rfl
  · rw [if_neg c3] at h
    refine Rn.i1f (t := 14) dk_52_4 rfl (decide_eq_false c3) ?_
    refine Rn.pu (st' := [.int x0]) dk_52_7 L_52 rfl ?_
    obtain ⟨r4, e5, h⟩ := bindS h
    refine Rn.csI (As := [.int x0]) (rest := []) dk_52_8 ck_52_8.choose_spec rfl (x_49 (Nat.le_trans (Nat.le_of_ble_eq_true rfl) hD) e5) ?_
    by_cases c6 : r4 = 0
    · rw [if_pos c6] at h
      refine Rn.i1t (t := 18) dk_52_11 rfl (decide_eq_true c6) ?_
      refine Rn.ic dk_52_18 cic_0 ?_
      cases h
      exact Rn.ri dk_52_19 R_52 rfl
    · rw [if_neg c6] at h
      refine Rn.i1f (t := 18) dk_52_11 rfl (decide_eq_false c6) ?_
      refine Rn.ic dk_52_14 cic_1 ?_
      refine Rn.gt (t := 19) dk_52_15 rfl ?_
      cases h
      exact Rn.ri dk_52_19 R_52 rfl
def m_52 (x0 : Int32) (I : dI) (J : dJ) : Option Int32 := b_52_0 x0 I J
theorem x_52 {Q : Nat → Option Nat} {D : Nat} (hD : 3 ≤ D) {x0 : Int32} {I : dI} {J : dJ} {R : Int32} (h : m_52 x0 I J = some R) : Ex Q D 52 I J [.int x0] (some (.int R)) I J := by
  obtain ⟨D, rfl⟩ : ∃ D', D = D' + 1 := ⟨D - 1, by omega⟩
  exact Ex.of (by decide) (by rw [L_52]; exact Nat.le_of_ble_eq_true rfl) (show xm_sub [(0, .int x0)] [(0, .int x0)] from xm_sub_of [0] [0] rfl rfl (by decide)) (p_52_0 (Nat.le_of_succ_le_succ hD) _ _ _ _ h)
-- ConditionDesk$Tokens.readNumber()V
theorem L_50 : tb_mL 50 = 5 := by decide +kernel
theorem R_50 : tb_mr 50 = none := by decide +kernel
theorem dk_50_0 : decode (tb_mb 50) 0 = .ok (.aload_n 0, 1) := by decide +kernel
theorem dk_50_1 : decode (tb_mb 50) 1 = .ok (.getfield 25, 3) := by decide +kernel
theorem f_50_1 : ∃ b, tb_fr (tb_oc 50) 25 = some (6, 0, b) := ⟨_, rfl⟩
theorem dk_50_4 : decode (tb_mb 50) 4 = .ok (.aload_n 0, 1) := by decide +kernel
theorem dk_50_5 : decode (tb_mb 50) 5 = .ok (.getfield 9, 3) := by decide +kernel
theorem f_50_5 : ∃ b, tb_fr (tb_oc 50) 9 = some (6, 1, b) := ⟨_, rfl⟩
theorem dk_50_8 : decode (tb_mb 50) 8 = .ok (.invokevirtual 32, 3) := by decide +kernel
theorem ck_50_8 : ∃ b, tb_cr (tb_oc 50) 32 = some (0, 48, b, 1) := ⟨_, rfl⟩
theorem dk_50_11 : decode (tb_mb 50) 11 = .ok (.bipush (48), 2) := by decide +kernel
theorem dk_50_13 : decode (tb_mb 50) 13 = .ok (.if_icmp .ne (25), 3) := by decide +kernel
theorem dk_50_38 : decode (tb_mb 50) 38 = .ok (.iconst (0), 1) := by decide +kernel
theorem dk_50_39 : decode (tb_mb 50) 39 = .ok (.istore_n 1, 1) := by decide +kernel
theorem dk_50_40 : decode (tb_mb 50) 40 = .ok (.iload_n 1, 1) := by decide +kernel
theorem dk_50_41 : decode (tb_mb 50) 41 = .ok (.ifCond .eq (8), 3) := by decide +kernel
theorem dk_50_49 : decode (tb_mb 50) 49 = .ok (.bipush (10), 2) := by decide +kernel
theorem dk_50_51 : decode (tb_mb 50) 51 = .ok (.istore_n 2, 1) := by decide +kernel
theorem dk_50_52 : decode (tb_mb 50) 52 = .ok (.iload_n 1, 1) := by decide +kernel
theorem dk_50_53 : decode (tb_mb 50) 53 = .ok (.ifCond .eq (12), 3) := by decide +kernel
theorem dk_50_65 : decode (tb_mb 50) 65 = .ok (.aload_n 0, 1) := by decide +kernel
theorem dk_50_66 : decode (tb_mb 50) 66 = .ok (.getfield 9, 3) := by decide +kernel
theorem f_50_66 : ∃ b, tb_fr (tb_oc 50) 9 = some (6, 1, b) := ⟨_, rfl⟩
theorem dk_50_69 : decode (tb_mb 50) 69 = .ok (.istore_n 3, 1) := by decide +kernel
theorem dk_50_70 : decode (tb_mb 50) 70 = .ok (.aload_n 0, 1) := by decide +kernel
theorem dk_50_71 : decode (tb_mb 50) 71 = .ok (.iload_n 3, 1) := by decide +kernel
theorem dk_50_72 : decode (tb_mb 50) 72 = .ok (.putfield 15, 3) := by decide +kernel
theorem f_50_72 : ∃ b, tb_fr (tb_oc 50) 15 = some (6, 2, b) ∧ xm_fin tb_cl (tb_ini 50) b 6 2 = true := ⟨_, rfl, rfl⟩
theorem dk_50_75 : decode (tb_mb 50) 75 = .ok (.aload_n 0, 1) := by decide +kernel
theorem dk_50_76 : decode (tb_mb 50) 76 = .ok (.getfield 15, 3) := by decide +kernel
theorem f_50_76 : ∃ b, tb_fr (tb_oc 50) 15 = some (6, 2, b) := ⟨_, rfl⟩
theorem dk_50_79 : decode (tb_mb 50) 79 = .ok (.aload_n 0, 1) := by decide +kernel
theorem dk_50_80 : decode (tb_mb 50) 80 = .ok (.getfield 25, 3) := by decide +kernel
theorem f_50_80 : ∃ b, tb_fr (tb_oc 50) 25 = some (6, 0, b) := ⟨_, rfl⟩
theorem dk_50_83 : decode (tb_mb 50) 83 = .ok (.getfield 38, 3) := by decide +kernel
theorem f_50_83 : ∃ b, tb_fr (tb_oc 50) 38 = some (5, 1, b) := ⟨_, rfl⟩
theorem dk_50_86 : decode (tb_mb 50) 86 = .ok (.if_icmp .ge (67), 3) := by decide +kernel
theorem dk_50_153 : decode (tb_mb 50) 153 = .ok (.aload_n 0, 1) := by decide +kernel
theorem dk_50_154 : decode (tb_mb 50) 154 = .ok (.getfield 15, 3) := by decide +kernel
theorem f_50_154 : ∃ b, tb_fr (tb_oc 50) 15 = some (6, 2, b) := ⟨_, rfl⟩
theorem dk_50_157 : decode (tb_mb 50) 157 = .ok (.iload_n 3, 1) := by decide +kernel
theorem dk_50_158 : decode (tb_mb 50) 158 = .ok (.if_icmp .le (35), 3) := by decide +kernel
theorem dk_50_193 : decode (tb_mb 50) 193 = .ok (.iconst (0), 1) := by decide +kernel
theorem dk_50_194 : decode (tb_mb 50) 194 = .ok (.istore 4, 2) := by decide +kernel
theorem dk_50_196 : decode (tb_mb 50) 196 = .ok (.aload_n 0, 1) := by decide +kernel
theorem dk_50_197 : decode (tb_mb 50) 197 = .ok (.iload 4, 2) := by decide +kernel
theorem dk_50_199 : decode (tb_mb 50) 199 = .ok (.ifCond .eq (7), 3) := by decide +kernel
theorem dk_50_206 : decode (tb_mb 50) 206 = .ok (.iconst (1), 1) := by decide +kernel
theorem dk_50_207 : decode (tb_mb 50) 207 = .ok (.putfield 18, 3) := by decide +kernel
theorem f_50_207 : ∃ b, tb_fr (tb_oc 50) 18 = some (6, 3, b) ∧ xm_fin tb_cl (tb_ini 50) b 6 3 = true := ⟨_, rfl, rfl⟩
theorem dk_50_210 : decode (tb_mb 50) 210 = .ok (.return_, 1) := by decide +kernel
theorem dk_50_202 : decode (tb_mb 50) 202 = .ok (.iconst (3), 1) := by decide +kernel
theorem dk_50_203 : decode (tb_mb 50) 203 = .ok (.goto (4), 3) := by decide +kernel
theorem dk_50_161 : decode (tb_mb 50) 161 = .ok (.aload_n 0, 1) := by decide +kernel
theorem dk_50_162 : decode (tb_mb 50) 162 = .ok (.getfield 21, 3) := by decide +kernel
theorem f_50_162 : ∃ b, tb_fr (tb_oc 50) 21 = some (6, 4, b) := ⟨_, rfl⟩
theorem dk_50_165 : decode (tb_mb 50) 165 = .ok (.ldc2_w 61, 3) := by decide +kernel
theorem kl_50_165 : tb_kl (tb_oc 50) 61 = some (4294967296) := by decide +kernel
theorem dk_50_168 : decode (tb_mb 50) 168 = .ok (.lcmp, 1) := by decide +kernel
theorem dk_50_169 : decode (tb_mb 50) 169 = .ok (.ifCond .ge (24), 3) := by decide +kernel
theorem dk_50_172 : decode (tb_mb 50) 172 = .ok (.aload_n 0, 1) := by decide +kernel
theorem dk_50_173 : decode (tb_mb 50) 173 = .ok (.getfield 25, 3) := by decide +kernel
theorem f_50_173 : ∃ b, tb_fr (tb_oc 50) 25 = some (6, 0, b) := ⟨_, rfl⟩
theorem dk_50_176 : decode (tb_mb 50) 176 = .ok (.aload_n 0, 1) := by decide +kernel
theorem dk_50_177 : decode (tb_mb 50) 177 = .ok (.getfield 15, 3) := by decide +kernel
theorem f_50_177 : ∃ b, tb_fr (tb_oc 50) 15 = some (6, 2, b) := ⟨_, rfl⟩
theorem dk_50_180 : decode (tb_mb 50) 180 = .ok (.invokevirtual 32, 3) := by decide +kernel
theorem ck_50_180 : ∃ b, tb_cr (tb_oc 50) 32 = some (0, 48, b, 1) := ⟨_, rfl⟩
theorem dk_50_183 : decode (tb_mb 50) 183 = .ok (.invokestatic 69, 3) := by decide +kernel
theorem ck_50_183 : ∃ b, tb_cr (tb_oc 50) 69 = some (1, 52, b, 1) := ⟨_, rfl⟩
theorem dk_50_186 : decode (tb_mb 50) 186 = .ok (.ifCond .ne (7), 3) := by decide +kernel
theorem dk_50_189 : decode (tb_mb 50) 189 = .ok (.iconst (1), 1) := by decide +kernel
theorem dk_50_190 : decode (tb_mb 50) 190 = .ok (.goto (4), 3) := by decide +kernel
theorem dk_50_89 : decode (tb_mb 50) 89 = .ok (.aload_n 0, 1) := by decide +kernel
theorem dk_50_90 : decode (tb_mb 50) 90 = .ok (.getfield 25, 3) := by decide +kernel
theorem f_50_90 : ∃ b, tb_fr (tb_oc 50) 25 = some (6, 0, b) := ⟨_, rfl⟩
theorem dk_50_93 : decode (tb_mb 50) 93 = .ok (.aload_n 0, 1) := by decide +kernel
theorem dk_50_94 : decode (tb_mb 50) 94 = .ok (.getfield 15, 3) := by decide +kernel
theorem f_50_94 : ∃ b, tb_fr (tb_oc 50) 15 = some (6, 2, b) := ⟨_, rfl⟩
theorem dk_50_97 : decode (tb_mb 50) 97 = .ok (.invokevirtual 32, 3) := by decide +kernel
theorem ck_50_97 : ∃ b, tb_cr (tb_oc 50) 32 = some (0, 48, b, 1) := ⟨_, rfl⟩
theorem dk_50_100 : decode (tb_mb 50) 100 = .ok (.invokestatic 57, 3) := by decide +kernel
theorem ck_50_100 : ∃ b, tb_cr (tb_oc 50) 57 = some (1, 51, b, 1) := ⟨_, rfl⟩
theorem dk_50_103 : decode (tb_mb 50) 103 = .ok (.istore 4, 2) := by decide +kernel
theorem dk_50_105 : decode (tb_mb 50) 105 = .ok (.iload 4, 2) := by decide +kernel
theorem dk_50_107 : decode (tb_mb 50) 107 = .ok (.ifCond .lt (46), 3) := by decide +kernel
theorem dk_50_110 : decode (tb_mb 50) 110 = .ok (.iload 4, 2) := by decide +kernel
theorem dk_50_112 : decode (tb_mb 50) 112 = .ok (.iload_n 2, 1) := by decide +kernel
theorem dk_50_113 : decode (tb_mb 50) 113 = .ok (.if_icmp .lt (6), 3) := by decide +kernel
theorem dk_50_119 : decode (tb_mb 50) 119 = .ok (.aload_n 0, 1) := by decide +kernel
theorem dk_50_120 : decode (tb_mb 50) 120 = .ok (.aload_n 0, 1) := by decide +kernel
theorem dk_50_121 : decode (tb_mb 50) 121 = .ok (.getfield 21, 3) := by decide +kernel
theorem f_50_121 : ∃ b, tb_fr (tb_oc 50) 21 = some (6, 4, b) := ⟨_, rfl⟩
theorem dk_50_124 : decode (tb_mb 50) 124 = .ok (.iload_n 2, 1) := by decide +kernel
theorem dk_50_125 : decode (tb_mb 50) 125 = .ok (.i2l, 1) := by decide +kernel
theorem dk_50_126 : decode (tb_mb 50) 126 = .ok (.lmul, 1) := by decide +kernel
theorem dk_50_127 : decode (tb_mb 50) 127 = .ok (.iload 4, 2) := by decide +kernel
theorem dk_50_129 : decode (tb_mb 50) 129 = .ok (.i2l, 1) := by decide +kernel
theorem dk_50_130 : decode (tb_mb 50) 130 = .ok (.ladd, 1) := by decide +kernel
theorem dk_50_131 : decode (tb_mb 50) 131 = .ok (.ldc2_w 61, 3) := by decide +kernel
theorem kl_50_131 : tb_kl (tb_oc 50) 61 = some (4294967296) := by decide +kernel
theorem dk_50_134 : decode (tb_mb 50) 134 = .ok (.invokestatic 63, 3) := by decide +kernel
theorem dk_50_137 : decode (tb_mb 50) 137 = .ok (.putfield 21, 3) := by decide +kernel
theorem f_50_137 : ∃ b, tb_fr (tb_oc 50) 21 = some (6, 4, b) ∧ xm_fin tb_cl (tb_ini 50) b 6 4 = true := ⟨_, rfl, rfl⟩
theorem dk_50_140 : decode (tb_mb 50) 140 = .ok (.aload_n 0, 1) := by decide +kernel
theorem dk_50_141 : decode (tb_mb 50) 141 = .ok (.dup, 1) := by decide +kernel
theorem dk_50_142 : decode (tb_mb 50) 142 = .ok (.getfield 15, 3) := by decide +kernel
theorem f_50_142 : ∃ b, tb_fr (tb_oc 50) 15 = some (6, 2, b) := ⟨_, rfl⟩
theorem dk_50_145 : decode (tb_mb 50) 145 = .ok (.iconst (1), 1) := by decide +kernel
theorem dk_50_146 : decode (tb_mb 50) 146 = .ok (.iadd, 1) := by decide +kernel
theorem dk_50_147 : decode (tb_mb 50) 147 = .ok (.putfield 15, 3) := by decide +kernel
theorem f_50_147 : ∃ b, tb_fr (tb_oc 50) 15 = some (6, 2, b) ∧ xm_fin tb_cl (tb_ini 50) b 6 2 = true := ⟨_, rfl, rfl⟩
theorem dk_50_150 : decode (tb_mb 50) 150 = .ok (.goto (-75), 3) := by decide +kernel
theorem dk_50_116 : decode (tb_mb 50) 116 = .ok (.goto (37), 3) := by decide +kernel
theorem dk_50_56 : decode (tb_mb 50) 56 = .ok (.aload_n 0, 1) := by decide +kernel
theorem dk_50_57 : decode (tb_mb 50) 57 = .ok (.getfield 9, 3) := by decide +kernel
theorem f_50_57 : ∃ b, tb_fr (tb_oc 50) 9 = some (6, 1, b) := ⟨_, rfl⟩
theorem dk_50_60 : decode (tb_mb 50) 60 = .ok (.iconst (2), 1) := by decide +kernel
theorem dk_50_61 : decode (tb_mb 50) 61 = .ok (.iadd, 1) := by decide +kernel
theorem dk_50_62 : decode (tb_mb 50) 62 = .ok (.goto (7), 3) := by decide +kernel
theorem dk_50_44 : decode (tb_mb 50) 44 = .ok (.bipush (16), 2) := by decide +kernel
theorem dk_50_46 : decode (tb_mb 50) 46 = .ok (.goto (5), 3) := by decide +kernel
theorem dk_50_16 : decode (tb_mb 50) 16 = .ok (.aload_n 0, 1) := by decide +kernel
theorem dk_50_17 : decode (tb_mb 50) 17 = .ok (.getfield 25, 3) := by decide +kernel
theorem f_50_17 : ∃ b, tb_fr (tb_oc 50) 25 = some (6, 0, b) := ⟨_, rfl⟩
theorem dk_50_20 : decode (tb_mb 50) 20 = .ok (.aload_n 0, 1) := by decide +kernel
theorem dk_50_21 : decode (tb_mb 50) 21 = .ok (.getfield 9, 3) := by decide +kernel
theorem f_50_21 : ∃ b, tb_fr (tb_oc 50) 9 = some (6, 1, b) := ⟨_, rfl⟩
theorem dk_50_24 : decode (tb_mb 50) 24 = .ok (.iconst (1), 1) := by decide +kernel
theorem dk_50_25 : decode (tb_mb 50) 25 = .ok (.iadd, 1) := by decide +kernel
theorem dk_50_26 : decode (tb_mb 50) 26 = .ok (.invokevirtual 32, 3) := by decide +kernel
theorem ck_50_26 : ∃ b, tb_cr (tb_oc 50) 32 = some (0, 48, b, 1) := ⟨_, rfl⟩
theorem dk_50_29 : decode (tb_mb 50) 29 = .ok (.bipush (120), 2) := by decide +kernel
theorem dk_50_31 : decode (tb_mb 50) 31 = .ok (.if_icmp .ne (7), 3) := by decide +kernel
theorem dk_50_34 : decode (tb_mb 50) 34 = .ok (.iconst (1), 1) := by decide +kernel
theorem dk_50_35 : decode (tb_mb 50) 35 = .ok (.goto (4), 3) := by decide +kernel
def b_50_207 (s0 : Int32) (I : dI) (J : dJ) : Option (dI × dJ) := lt_ (sI I 18 3 s0) (fun I10 => some (I10, J))
theorem p_50_207 {Q : Nat → Option Nat} {D : Nat} (hD : 3 ≤ D) (s0 : Int32) (I : dI) (J : dJ) (R : (dI × dJ)) (h : b_50_207 s0 I J = some R) : Rn Q D 50 207 [] [.int s0, .ref 18] I J (none) R.1 R.2 := by
  replace h : (lt_ (sI I 18 3 s0) (fun I10 => some (I10, J))) = some R := h
  obtain ⟨I10, eI10, h⟩ := letS h
  refine Rn.pI dk_50_207 f_50_207.choose_spec.1 sk_18 rfl f_50_207.choose_spec.2 rfl rfl ?_
  rw [← eI10]
  cases h
  exact Rn.rv dk_50_210 R_50
def b_50_194 (s0 : Int32) (I : dI) (J : dJ) : Option (dI × dJ) := if s0 = 0 then (b_50_207 1 I J) else (b_50_207 3 I J)
theorem p_50_194 {Q : Nat → Option Nat} {D : Nat} (hD : 3 ≤ D) (s0 : Int32) (I : dI) (J : dJ) (R : (dI × dJ)) (h : b_50_194 s0 I J = some R) : Rn Q D 50 194 [(0, .ref 18)] [.int s0] I J (none) R.1 R.2 := by
  replace h : (if s0 = 0 then (b_50_207 1 I J) else (b_50_207 3 I J)) = some R := h
  refine Rn.pu (ls' := [(4, .int s0), (0, .ref 18)]) (st' := []) dk_50_194 L_50 rfl ?_
  refine Rn.pu (st' := [.ref 18]) dk_50_196 L_50 rfl ?_
  refine Rn.pu (st' := [.int s0, .ref 18]) dk_50_197 L_50 rfl ?_
  by_cases c9 : s0 = 0
  · rw [if_pos c9] at h
    refine Rn.i1t (t := 206) dk_50_199 rfl (decide_eq_true c9) ?_
    refine Rn.ic dk_50_206 cic_1 ?_
    exact Rn.wk [] rfl (p_50_207 hD _ _ _ _ h)
  · rw [if_neg c9] at h
    refine Rn.i1f (t := 206) dk_50_199 rfl (decide_eq_false c9) ?_
    refine Rn.ic dk_50_202 cic_3 ?_
    refine Rn.gt (t := 207) dk_50_203 rfl ?_
    exact Rn.wk [] rfl (p_50_207 hD _ _ _ _ h)
def b_50_193 (I : dI) (J : dJ) : Option (dI × dJ) := b_50_194 0 I J
theorem p_50_193 {Q : Nat → Option Nat} {D : Nat} (hD : 3 ≤ D) (I : dI) (J : dJ) (R : (dI × dJ)) (h : b_50_193 I J = some R) : Rn Q D 50 193 [(0, .ref 18)] [] I J (none) R.1 R.2 := by
  replace h : (b_50_194 0 I J) = some R := h
  refine Rn.ic dk_50_193 cic_0 ?_
  exact Rn.wk [0] rfl (p_50_194 hD _ _ _ _ h)
def b_50_153 (x3 : Int32) (I : dI) (J : dJ) : Option (dI × dJ) := if (I 18 2) ≤ x3 then (b_50_193 I J) else (if 0 ≤ (lg_cmp (J 18 4) 4294967296) then (b_50_193 I J) else ((m_48 (I 18 2) I J).bind (fun r10 => (m_52 r10 I J).bind (fun r12 => if ¬ r12 = 0 then (b_50_193 I J) else (b_50_194 1 I J)))))
theorem p_50_153 {Q : Nat → Option Nat} {D : Nat} (hD : 3 ≤ D) (x3 : Int32) (I : dI) (J : dJ) (R : (dI × dJ)) (h : b_50_153 x3 I J = some R) : Rn Q D 50 153 [(0, .ref 18), (3, .int x3)] [] I J (none) R.1 R.2 := by
  replace h : (if (I 18 2) ≤ x3 then (b_50_193 I J) else (if 0 ≤ (lg_cmp (J 18 4) 4294967296) then (b_50_193 I J) else ((m_48 (I 18 2) I J).bind (fun r10 => (m_52 r10 I J).bind (fun r12 => if ¬ r12 = 0 then (b_50_193 I J) else (b_50_194 1 I J)))))) = some R := h
  refine Rn.pu (st' := [.ref 18]) dk_50_153 L_50 rfl ?_
  refine Rn.gI dk_50_154 f_50_154.choose_spec sk_18 rfl ?_
  refine Rn.pu (st' := [.int x3, .int (I 18 2)]) dk_50_157 L_50 rfl ?_
  by_cases c8 : (I 18 2) ≤ x3
  · rw [if_pos c8] at h
    refine Rn.i2t (t := 193) dk_50_158 rfl (decide_eq_true c8) ?_
    exact Rn.wk [0] rfl (p_50_193 hD _ _ _ h)
  · rw [if_neg c8] at h
    refine Rn.i2f (t := 193) dk_50_158 rfl (decide_eq_false c8) ?_
    refine Rn.pu (st' := [.ref 18]) dk_50_161 L_50 rfl ?_
    refine Rn.gJ dk_50_162 f_50_162.choose_spec sk_18 rfl ?_
    refine Rn.ldl dk_50_165 kl_50_165 ?_
    refine Rn.pu (st' := [.int (lg_cmp (J 18 4) 4294967296)]) dk_50_168 L_50 rfl ?_
    by_cases c9 : 0 ≤ (lg_cmp (J 18 4) 4294967296)
    · rw [if_pos c9] at h
      refine Rn.i1t (t := 193) dk_50_169 rfl (decide_eq_true c9) ?_
      exact Rn.wk [0] rfl (p_50_193 hD _ _ _ h)
    · rw [if_neg c9] at h
      refine Rn.i1f (t := 193) dk_50_169 rfl (decide_eq_false c9) ?_
      refine Rn.pu (st' := [.ref 18]) dk_50_172 L_50 rfl ?_
      refine Rn.gR (r := 1) dk_50_173 f_50_173.choose_spec sk_18 rfl ?_
      refine Rn.pu (st' := [.ref 18, .ref 1]) dk_50_176 L_50 rfl ?_
      refine Rn.gI dk_50_177 f_50_177.choose_spec sk_18 rfl ?_
      obtain ⟨r10, e11, h⟩ := bindS h
      refine Rn.cvI (p := 1) (As := [.int (I 18 2)]) (rest := []) dk_50_180 ck_50_180.choose_spec rfl sk_1 rfl (x_48 (Nat.le_trans (Nat.le_of_ble_eq_true rfl) hD) e11) ?_
      obtain ⟨r12, e13, h⟩ := bindS h
      refine Rn.csI (As := [.int r10]) (rest := []) dk_50_183 ck_50_183.choose_spec rfl (x_52 (Nat.le_trans (Nat.le_of_ble_eq_true rfl) hD) e13) ?_
      by_cases c14 : ¬ r12 = 0
      · rw [if_pos c14] at h
        refine Rn.i1t (t := 193) dk_50_186 rfl (decide_eq_true c14) ?_
        exact Rn.wk [0] rfl (p_50_193 hD _ _ _ h)
      · rw [if_neg c14] at h
        refine Rn.i1f (t := 193) dk_50_186 rfl (decide_eq_false c14) ?_
        refine Rn.ic dk_50_189 cic_1 ?_
        refine Rn.gt (t := 194) dk_50_190 rfl ?_
        exact Rn.wk [0] rfl (p_50_194 hD _ _ _ _ h)
def b_50_75 : Nat → Int32 → Int32 → dI → dJ → Option (dI × dJ)
  | 0, _, _, _, _ => none
  | n + 1, x2, x3, I, J => if (I 1 1) ≤ (I 18 2) then (b_50_153 x3 I J) else ((m_48 (I 18 2) I J).bind (fun r8 => (m_51 r8 I J).bind (fun r10 => if r10 < 0 then (b_50_153 x3 I J) else (if r10 < x2 then (lt_ (sJ J 18 4 (if 4294967296 < (((J 18 4) * (Int32.toInt64 x2)) + (Int32.toInt64 r10)) then 4294967296 else (((J 18 4) * (Int32.toInt64 x2)) + (Int32.toInt64 r10)))) (fun J14 => lt_ (sI I 18 2 ((I 18 2) + 1)) (fun I15 => (b_50_75 n) x2 x3 I15 J14))) else (b_50_153 x3 I J)))))
theorem p_50_75 {Q : Nat → Option Nat} {D : Nat} (hD : 3 ≤ D) : ∀ (n : Nat) (x2 : Int32) (x3 : Int32) (I : dI) (J : dJ) (R : (dI × dJ)), b_50_75 n x2 x3 I J = some R → Rn Q D 50 75 [(0, .ref 18), (2, .int x2), (3, .int x3)] [] I J (none) R.1 R.2 := by
  intro n
  induction n with
  | zero => intro x2 x3 I J R h; exact absurd h (by simp [b_50_75])
  | succ n ih =>
    intro x2 x3 I J R h
    replace h : (if (I 1 1) ≤ (I 18 2) then (b_50_153 x3 I J) else ((m_48 (I 18 2) I J).bind (fun r8 => (m_51 r8 I J).bind (fun r10 => if r10 < 0 then (b_50_153 x3 I J) else (if r10 < x2 then (lt_ (sJ J 18 4 (if 4294967296 < (((J 18 4) * (Int32.toInt64 x2)) + (Int32.toInt64 r10)) then 4294967296 else (((J 18 4) * (Int32.toInt64 x2)) + (Int32.toInt64 r10)))) (fun J14 => lt_ (sI I 18 2 ((I 18 2) + 1)) (fun I15 => (b_50_75 n) x2 x3 I15 J14))) else (b_50_153 x3 I J)))))) = some R := h
    refine Rn.pu (st' := [.ref 18]) dk_50_75 L_50 rfl ?_
    refine Rn.gI dk_50_76 f_50_76.choose_spec sk_18 rfl ?_
    refine Rn.pu (st' := [.ref 18, .int (I 18 2)]) dk_50_79 L_50 rfl ?_
    refine Rn.gR (r := 1) dk_50_80 f_50_80.choose_spec sk_18 rfl ?_
    refine Rn.gI dk_50_83 f_50_83.choose_spec sk_1 rfl ?_
    by_cases c7 : (I 1 1) ≤ (I 18 2)
    · rw [if_pos c7] at h
      refine Rn.i2t (t := 153) dk_50_86 rfl (decide_eq_true c7) ?_
      exact Rn.wk [0, 2] rfl (p_50_153 hD _ _ _ _ h)
    · rw [if_neg c7] at h
      refine Rn.i2f (t := 153) dk_50_86 rfl (decide_eq_false c7) ?_
      refine Rn.pu (st' := [.ref 18]) dk_50_89 L_50 rfl ?_
      refine Rn.gR (r := 1) dk_50_90 f_50_90.choose_spec sk_18 rfl ?_
      refine Rn.pu (st' := [.ref 18, .ref 1]) dk_50_93 L_50 rfl ?_
      refine Rn.gI dk_50_94 f_50_94.choose_spec sk_18 rfl ?_
      obtain ⟨r8, e9, h⟩ := bindS h
      refine Rn.cvI (p := 1) (As := [.int (I 18 2)]) (rest := []) dk_50_97 ck_50_97.choose_spec rfl sk_1 rfl (x_48 (Nat.le_trans (Nat.le_of_ble_eq_true rfl) hD) e9) ?_
      obtain ⟨r10, e11, h⟩ := bindS h
      refine Rn.csI (As := [.int r8]) (rest := []) dk_50_100 ck_50_100.choose_spec rfl (x_51 (Nat.le_trans (Nat.le_of_ble_eq_true rfl) hD) e11) ?_
      refine Rn.pu (ls' := [(4, .int r10), (0, .ref 18), (2, .int x2), (3, .int x3)]) (st' := []) dk_50_103 L_50 rfl ?_
      refine Rn.pu (st' := [.int r10]) dk_50_105 L_50 rfl ?_
      by_cases c12 : r10 < 0
      · rw [if_pos c12] at h
        refine Rn.i1t (t := 153) dk_50_107 rfl (decide_eq_true c12) ?_
        exact Rn.wk [1, 3] rfl (p_50_153 hD _ _ _ _ h)
      · rw [if_neg c12] at h
        refine Rn.i1f (t := 153) dk_50_107 rfl (decide_eq_false c12) ?_
        refine Rn.pu (st' := [.int r10]) dk_50_110 L_50 rfl ?_
        refine Rn.pu (st' := [.int x2, .int r10]) dk_50_112 L_50 rfl ?_
        by_cases c13 : r10 < x2
        · rw [if_pos c13] at h
          refine Rn.i2t (t := 119) dk_50_113 rfl (decide_eq_true c13) ?_
          refine Rn.pu (st' := [.ref 18]) dk_50_119 L_50 rfl ?_
          refine Rn.pu (st' := [.ref 18, .ref 18]) dk_50_120 L_50 rfl ?_
          refine Rn.gJ dk_50_121 f_50_121.choose_spec sk_18 rfl ?_
          refine Rn.pu (st' := [.int x2, .long (J 18 4), .ref 18]) dk_50_124 L_50 rfl ?_
          refine Rn.pu (st' := [.long (Int32.toInt64 x2), .long (J 18 4), .ref 18]) dk_50_125 L_50 rfl ?_
          refine Rn.pu (st' := [.long ((J 18 4) * (Int32.toInt64 x2)), .ref 18]) dk_50_126 L_50 rfl ?_
          refine Rn.pu (st' := [.int r10, .long ((J 18 4) * (Int32.toInt64 x2)), .ref 18]) dk_50_127 L_50 rfl ?_
          refine Rn.pu (st' := [.long (Int32.toInt64 r10), .long ((J 18 4) * (Int32.toInt64 x2)), .ref 18]) dk_50_129 L_50 rfl ?_
          refine Rn.pu (st' := [.long (((J 18 4) * (Int32.toInt64 x2)) + (Int32.toInt64 r10)), .ref 18]) dk_50_130 L_50 rfl ?_
          refine Rn.ldl dk_50_131 kl_50_131 ?_
          refine Rn.min dk_50_134 rfl (by decide +kernel) (Nat.le_of_ble_eq_true rfl) ?_
          obtain ⟨J14, eJ14, h⟩ := letS h
          refine Rn.pJ dk_50_137 f_50_137.choose_spec.1 sk_18 rfl f_50_137.choose_spec.2 rfl rfl ?_
          rw [← eJ14]
          refine Rn.pu (st' := [.ref 18]) dk_50_140 L_50 rfl ?_
          refine Rn.pu (st' := [.ref 18, .ref 18]) dk_50_141 L_50 rfl ?_
          refine Rn.gI dk_50_142 f_50_142.choose_spec sk_18 rfl ?_
          refine Rn.ic dk_50_145 cic_1 ?_
          refine Rn.pu (st' := [.int ((I 18 2) + 1), .ref 18]) dk_50_146 L_50 rfl ?_
          obtain ⟨I15, eI15, h⟩ := letS h
          refine Rn.pI dk_50_147 f_50_147.choose_spec.1 sk_18 rfl f_50_147.choose_spec.2 rfl rfl ?_
          rw [← eI15]
          refine Rn.gt (t := 75) dk_50_150 rfl ?_
          exact Rn.wk [1, 2, 3] rfl (ih _ _ _ _ _ h)
        · rw [if_neg c13] at h
          refine Rn.i2f (t := 119) dk_50_113 rfl (decide_eq_false c13) ?_
          refine Rn.gt (t := 153) dk_50_116 rfl ?_
          exact Rn.wk [1, 3] rfl (p_50_153 hD _ _ _ _ h)
def b_50_69 (x2 : Int32) (s0 : Int32) (I : dI) (J : dJ) : Option (dI × dJ) := lt_ (sI I 18 2 s0) (fun I6 => b_50_75 FU x2 s0 I6 J)
theorem p_50_69 {Q : Nat → Option Nat} {D : Nat} (hD : 3 ≤ D) (x2 : Int32) (s0 : Int32) (I : dI) (J : dJ) (R : (dI × dJ)) (h : b_50_69 x2 s0 I J = some R) : Rn Q D 50 69 [(0, .ref 18), (2, .int x2)] [.int s0] I J (none) R.1 R.2 := by
  replace h : (lt_ (sI I 18 2 s0) (fun I6 => b_50_75 FU x2 s0 I6 J)) = some R := h
  refine Rn.pu (ls' := [(3, .int s0), (0, .ref 18), (2, .int x2)]) (st' := []) dk_50_69 L_50 rfl ?_
  refine Rn.pu (st' := [.ref 18]) dk_50_70 L_50 rfl ?_
  refine Rn.pu (st' := [.int s0, .ref 18]) dk_50_71 L_50 rfl ?_
  obtain ⟨I6, eI6, h⟩ := letS h
  refine Rn.pI dk_50_72 f_50_72.choose_spec.1 sk_18 rfl f_50_72.choose_spec.2 rfl rfl ?_
  rw [← eI6]
  exact Rn.wk [1, 2, 0] rfl (p_50_75 hD FU _ _ _ _ _ h)
def b_50_51 (x1 : Int32) (s0 : Int32) (I : dI) (J : dJ) : Option (dI × dJ) := if x1 = 0 then (b_50_69 s0 (I 18 1) I J) else (b_50_69 s0 ((I 18 1) + 2) I J)
theorem p_50_51 {Q : Nat → Option Nat} {D : Nat} (hD : 3 ≤ D) (x1 : Int32) (s0 : Int32) (I : dI) (J : dJ) (R : (dI × dJ)) (h : b_50_51 x1 s0 I J = some R) : Rn Q D 50 51 [(0, .ref 18), (1, .int x1)] [.int s0] I J (none) R.1 R.2 := by
  replace h : (if x1 = 0 then (b_50_69 s0 (I 18 1) I J) else (b_50_69 s0 ((I 18 1) + 2) I J)) = some R := h
  refine Rn.pu (ls' := [(2, .int s0), (0, .ref 18), (1, .int x1)]) (st' := []) dk_50_51 L_50 rfl ?_
  refine Rn.pu (st' := [.int x1]) dk_50_52 L_50 rfl ?_
  by_cases c5 : x1 = 0
  · rw [if_pos c5] at h
    refine Rn.i1t (t := 65) dk_50_53 rfl (decide_eq_true c5) ?_
    refine Rn.pu (st' := [.ref 18]) dk_50_65 L_50 rfl ?_
    refine Rn.gI dk_50_66 f_50_66.choose_spec sk_18 rfl ?_
    exact Rn.wk [1, 0] rfl (p_50_69 hD _ _ _ _ _ h)
  · rw [if_neg c5] at h
    refine Rn.i1f (t := 65) dk_50_53 rfl (decide_eq_false c5) ?_
    refine Rn.pu (st' := [.ref 18]) dk_50_56 L_50 rfl ?_
    refine Rn.gI dk_50_57 f_50_57.choose_spec sk_18 rfl ?_
    refine Rn.ic dk_50_60 cic_2 ?_
    refine Rn.pu (st' := [.int ((I 18 1) + 2)]) dk_50_61 L_50 rfl ?_
    refine Rn.gt (t := 69) dk_50_62 rfl ?_
    exact Rn.wk [1, 0] rfl (p_50_69 hD _ _ _ _ _ h)
def b_50_39 (s0 : Int32) (I : dI) (J : dJ) : Option (dI × dJ) := if s0 = 0 then (b_50_51 s0 10 I J) else (b_50_51 s0 16 I J)
theorem p_50_39 {Q : Nat → Option Nat} {D : Nat} (hD : 3 ≤ D) (s0 : Int32) (I : dI) (J : dJ) (R : (dI × dJ)) (h : b_50_39 s0 I J = some R) : Rn Q D 50 39 [(0, .ref 18)] [.int s0] I J (none) R.1 R.2 := by
  replace h : (if s0 = 0 then (b_50_51 s0 10 I J) else (b_50_51 s0 16 I J)) = some R := h
  refine Rn.pu (ls' := [(1, .int s0), (0, .ref 18)]) (st' := []) dk_50_39 L_50 rfl ?_
  refine Rn.pu (st' := [.int s0]) dk_50_40 L_50 rfl ?_
  by_cases c4 : s0 = 0
  · rw [if_pos c4] at h
    refine Rn.i1t (t := 49) dk_50_41 rfl (decide_eq_true c4) ?_
    refine Rn.bp dk_50_49 cbp_10 ?_
    exact Rn.wk [1, 0] rfl (p_50_51 hD _ _ _ _ _ h)
  · rw [if_neg c4] at h
    refine Rn.i1f (t := 49) dk_50_41 rfl (decide_eq_false c4) ?_
    refine Rn.bp dk_50_44 cbp_16 ?_
    refine Rn.gt (t := 51) dk_50_46 rfl ?_
    exact Rn.wk [1, 0] rfl (p_50_51 hD _ _ _ _ _ h)
def b_50_38 (I : dI) (J : dJ) : Option (dI × dJ) := b_50_39 0 I J
theorem p_50_38 {Q : Nat → Option Nat} {D : Nat} (hD : 3 ≤ D) (I : dI) (J : dJ) (R : (dI × dJ)) (h : b_50_38 I J = some R) : Rn Q D 50 38 [(0, .ref 18)] [] I J (none) R.1 R.2 := by
  replace h : (b_50_39 0 I J) = some R := h
  refine Rn.ic dk_50_38 cic_0 ?_
  exact Rn.wk [0] rfl (p_50_39 hD _ _ _ _ h)
def b_50_0 (I : dI) (J : dJ) : Option (dI × dJ) := (m_48 (I 18 1) I J).bind (fun r1 => if ¬ r1 = 48 then (b_50_38 I J) else ((m_48 ((I 18 1) + 1) I J).bind (fun r4 => if ¬ r4 = 120 then (b_50_38 I J) else (b_50_39 1 I J))))
theorem p_50_0 {Q : Nat → Option Nat} {D : Nat} (hD : 3 ≤ D) (I : dI) (J : dJ) (R : (dI × dJ)) (h : b_50_0 I J = some R) : Rn Q D 50 0 [(0, .ref 18)] [] I J (none) R.1 R.2 := by
  replace h : ((m_48 (I 18 1) I J).bind (fun r1 => if ¬ r1 = 48 then (b_50_38 I J) else ((m_48 ((I 18 1) + 1) I J).bind (fun r4 => if ¬ r4 = 120 then (b_50_38 I J) else (b_50_39 1 I J))))) = some R := h
  refine Rn.pu (st' := [.ref 18]) dk_50_0 L_50 rfl ?_
  refine Rn.gR (r := 1) dk_50_1 f_50_1.choose_spec sk_18 rfl ?_
  refine Rn.pu (st' := [.ref 18, .ref 1]) dk_50_4 L_50 rfl ?_
  refine Rn.gI dk_50_5 f_50_5.choose_spec sk_18 rfl ?_
  obtain ⟨r1, e2, h⟩ := bindS h
  refine Rn.cvI (p := 1) (As := [.int (I 18 1)]) (rest := []) dk_50_8 ck_50_8.choose_spec rfl sk_1 rfl (x_48 (Nat.le_trans (Nat.le_of_ble_eq_true rfl) hD) e2) ?_
  refine Rn.bp dk_50_11 cbp_48 ?_
  by_cases c3 : ¬ r1 = 48
  · rw [if_pos c3] at h
    refine Rn.i2t (t := 38) dk_50_13 rfl (decide_eq_true c3) ?_
    exact Rn.wk [0] rfl (p_50_38 hD _ _ _ h)
  · rw [if_neg c3] at h
    refine Rn.i2f (t := 38) dk_50_13 rfl (decide_eq_false c3) ?_
    refine Rn.pu (st' := [.ref 18]) dk_50_16 L_50 rfl ?_
    refine Rn.gR (r := 1) dk_50_17 f_50_17.choose_spec sk_18 rfl ?_
    refine Rn.pu (st' := [.ref 18, .ref 1]) dk_50_20 L_50 rfl ?_
    refine Rn.gI dk_50_21 f_50_21.choose_spec sk_18 rfl ?_
    refine Rn.ic dk_50_24 cic_1 ?_
    refine Rn.pu (st' := [.int ((I 18 1) + 1), .ref 1]) dk_50_25 L_50 rfl ?_
    obtain ⟨r4, e5, h⟩ := bindS h
    refine Rn.cvI (p := 1) (As := [.int ((I 18 1) + 1)]) (rest := []) dk_50_26 ck_50_26.choose_spec rfl sk_1 rfl (x_48 (Nat.le_trans (Nat.le_of_ble_eq_true rfl) hD) e5) ?_
    refine Rn.bp dk_50_29 cbp_120 ?_
    by_cases c6 : ¬ r4 = 120
    · rw [if_pos c6] at h
      refine Rn.i2t (t := 38) dk_50_31 rfl (decide_eq_true c6) ?_
      exact Rn.wk [0] rfl (p_50_38 hD _ _ _ h)
    · rw [if_neg c6] at h
      refine Rn.i2f (t := 38) dk_50_31 rfl (decide_eq_false c6) ?_
      refine Rn.ic dk_50_34 cic_1 ?_
      refine Rn.gt (t := 39) dk_50_35 rfl ?_
      exact Rn.wk [0] rfl (p_50_39 hD _ _ _ _ h)
def m_50 (I : dI) (J : dJ) : Option (dI × dJ) := b_50_0 I J
theorem x_50 {Q : Nat → Option Nat} {D : Nat} (hD : 4 ≤ D) {I : dI} {J : dJ} {R : (dI × dJ)} (h : m_50 I J = some R) : Ex Q D 50 I J [.ref 18] (none) R.1 R.2 := by
  obtain ⟨D, rfl⟩ : ∃ D', D = D' + 1 := ⟨D - 1, by omega⟩
  exact Ex.of (by decide) (by rw [L_50]; exact Nat.le_of_ble_eq_true rfl) (show xm_sub [(0, .ref 18)] [(0, .ref 18)] from xm_sub_of [0] [0] rfl rfl (by decide)) (p_50_0 (Nat.le_of_succ_le_succ hD) _ _ _ h)
