/-! Printed by wip/whole/gen_dec.py: methods read back. -/
-- ConditionDeskModel.take()V
theorem L_112 : tb_mL 112 = 1 := by decide +kernel
theorem R_112 : tb_mr 112 = none := by decide +kernel
theorem dk_112_0 : decode (tb_mb 112) 0 = .ok (.aload_n 0, 1) := by decide +kernel
theorem dk_112_1 : decode (tb_mb 112) 1 = .ok (.getfield 64, 3) := by decide +kernel
theorem f_112_1 : ∃ b, tb_fr (tb_oc 112) 64 = some (9, 28, b) := ⟨_, rfl⟩
theorem dk_112_4 : decode (tb_mb 112) 4 = .ok (.aload_n 0, 1) := by decide +kernel
theorem dk_112_5 : decode (tb_mb 112) 5 = .ok (.getfield 157, 3) := by decide +kernel
theorem f_112_5 : ∃ b, tb_fr (tb_oc 112) 157 = some (9, 24, b) := ⟨_, rfl⟩
theorem dk_112_8 : decode (tb_mb 112) 8 = .ok (.aload_n 0, 1) := by decide +kernel
theorem dk_112_9 : decode (tb_mb 112) 9 = .ok (.getfield 121, 3) := by decide +kernel
theorem f_112_9 : ∃ b, tb_fr (tb_oc 112) 121 = some (9, 22, b) := ⟨_, rfl⟩
theorem dk_112_12 : decode (tb_mb 112) 12 = .ok (.iastore, 1) := by decide +kernel
theorem dk_112_13 : decode (tb_mb 112) 13 = .ok (.aload_n 0, 1) := by decide +kernel
theorem dk_112_14 : decode (tb_mb 112) 14 = .ok (.getfield 73, 3) := by decide +kernel
theorem f_112_14 : ∃ b, tb_fr (tb_oc 112) 73 = some (9, 31, b) := ⟨_, rfl⟩
theorem dk_112_17 : decode (tb_mb 112) 17 = .ok (.aload_n 0, 1) := by decide +kernel
theorem dk_112_18 : decode (tb_mb 112) 18 = .ok (.getfield 157, 3) := by decide +kernel
theorem f_112_18 : ∃ b, tb_fr (tb_oc 112) 157 = some (9, 24, b) := ⟨_, rfl⟩
theorem dk_112_21 : decode (tb_mb 112) 21 = .ok (.aload_n 0, 1) := by decide +kernel
theorem dk_112_22 : decode (tb_mb 112) 22 = .ok (.getfield 124, 3) := by decide +kernel
theorem f_112_22 : ∃ b, tb_fr (tb_oc 112) 124 = some (9, 27, b) := ⟨_, rfl⟩
theorem dk_112_25 : decode (tb_mb 112) 25 = .ok (.lastore, 1) := by decide +kernel
theorem dk_112_26 : decode (tb_mb 112) 26 = .ok (.aload_n 0, 1) := by decide +kernel
theorem dk_112_27 : decode (tb_mb 112) 27 = .ok (.getfield 67, 3) := by decide +kernel
theorem f_112_27 : ∃ b, tb_fr (tb_oc 112) 67 = some (9, 29, b) := ⟨_, rfl⟩
theorem dk_112_30 : decode (tb_mb 112) 30 = .ok (.aload_n 0, 1) := by decide +kernel
theorem dk_112_31 : decode (tb_mb 112) 31 = .ok (.getfield 157, 3) := by decide +kernel
theorem f_112_31 : ∃ b, tb_fr (tb_oc 112) 157 = some (9, 24, b) := ⟨_, rfl⟩
theorem dk_112_34 : decode (tb_mb 112) 34 = .ok (.iconst (-1), 1) := by decide +kernel
theorem dk_112_35 : decode (tb_mb 112) 35 = .ok (.iastore, 1) := by decide +kernel
theorem dk_112_36 : decode (tb_mb 112) 36 = .ok (.aload_n 0, 1) := by decide +kernel
theorem dk_112_37 : decode (tb_mb 112) 37 = .ok (.dup, 1) := by decide +kernel
theorem dk_112_38 : decode (tb_mb 112) 38 = .ok (.getfield 157, 3) := by decide +kernel
theorem f_112_38 : ∃ b, tb_fr (tb_oc 112) 157 = some (9, 24, b) := ⟨_, rfl⟩
theorem dk_112_41 : decode (tb_mb 112) 41 = .ok (.iconst (1), 1) := by decide +kernel
theorem dk_112_42 : decode (tb_mb 112) 42 = .ok (.iadd, 1) := by decide +kernel
theorem dk_112_43 : decode (tb_mb 112) 43 = .ok (.putfield 157, 3) := by decide +kernel
theorem f_112_43 : ∃ b, tb_fr (tb_oc 112) 157 = some (9, 24, b) ∧ xm_fin tb_cl (tb_ini 112) b 9 24 = true := ⟨_, rfl, rfl⟩
theorem dk_112_46 : decode (tb_mb 112) 46 = .ok (.return_, 1) := by decide +kernel
def b_112_0 (I : dI) (J : dJ) : Option (dI × dJ) := if ¬ ((I 92 24) < 0 ∨ 120 ≤ Int32.toNatClampNeg (I 92 24)) then lt_ (sI I 110 (Int32.toNatClampNeg (I 92 24)) (I 92 22)) (fun I2 => if ¬ ((I2 92 24) < 0 ∨ 120 ≤ Int32.toNatClampNeg (I2 92 24)) then lt_ (sJ J 113 (Int32.toNatClampNeg (I2 92 24)) (J 92 27)) (fun J4 => if ¬ ((I2 92 24) < 0 ∨ 120 ≤ Int32.toNatClampNeg (I2 92 24)) then lt_ (sI I2 111 (Int32.toNatClampNeg (I2 92 24)) (-1)) (fun I6 => lt_ (sI I6 92 24 ((I6 92 24) + 1)) (fun I7 => some (I7, J4))) else none) else none) else none
theorem p_112_0 {Q : Nat → Option Nat} {D : Nat} (hD : 1 ≤ D) (I : dI) (J : dJ) (R : (dI × dJ)) (h : b_112_0 I J = some R) : Rn Q D 112 0 [(0, .ref 92)] [] I J (none) R.1 R.2 := by
  replace h : (if ¬ ((I 92 24) < 0 ∨ 120 ≤ Int32.toNatClampNeg (I 92 24)) then lt_ (sI I 110 (Int32.toNatClampNeg (I 92 24)) (I 92 22)) (fun I2 => if ¬ ((I2 92 24) < 0 ∨ 120 ≤ Int32.toNatClampNeg (I2 92 24)) then lt_ (sJ J 113 (Int32.toNatClampNeg (I2 92 24)) (J 92 27)) (fun J4 => if ¬ ((I2 92 24) < 0 ∨ 120 ≤ Int32.toNatClampNeg (I2 92 24)) then lt_ (sI I2 111 (Int32.toNatClampNeg (I2 92 24)) (-1)) (fun I6 => lt_ (sI I6 92 24 ((I6 92 24) + 1)) (fun I7 => some (I7, J4))) else none) else none) else none) = some R := h
  refine Rn.pu (st' := [.ref 92]) dk_112_0 L_112 rfl ?_
  refine Rn.gR (r := 110) dk_112_1 f_112_1.choose_spec sk_92 rfl ?_
  refine Rn.pu (st' := [.ref 92, .ref 110]) dk_112_4 L_112 rfl ?_
  refine Rn.gI dk_112_5 f_112_5.choose_spec sk_92 rfl ?_
  refine Rn.pu (st' := [.ref 92, .int (I 92 24), .ref 110]) dk_112_8 L_112 rfl ?_
  refine Rn.gI dk_112_9 f_112_9.choose_spec sk_92 rfl ?_
  obtain ⟨c1, h⟩ := xm_if h
  obtain ⟨I2, eI2, h⟩ := letS h
  refine Rn.iast dk_112_12 sk_110 c1 ?_
  rw [← eI2]
  refine Rn.pu (st' := [.ref 92]) dk_112_13 L_112 rfl ?_
  refine Rn.gR (r := 113) dk_112_14 f_112_14.choose_spec sk_92 rfl ?_
  refine Rn.pu (st' := [.ref 92, .ref 113]) dk_112_17 L_112 rfl ?_
  refine Rn.gI dk_112_18 f_112_18.choose_spec sk_92 rfl ?_
  refine Rn.pu (st' := [.ref 92, .int (I2 92 24), .ref 113]) dk_112_21 L_112 rfl ?_
  refine Rn.gJ dk_112_22 f_112_22.choose_spec sk_92 rfl ?_
  obtain ⟨c3, h⟩ := xm_if h
  obtain ⟨J4, eJ4, h⟩ := letS h
  refine Rn.last dk_112_25 sk_113 c3 ?_
  rw [← eJ4]
  refine Rn.pu (st' := [.ref 92]) dk_112_26 L_112 rfl ?_
  refine Rn.gR (r := 111) dk_112_27 f_112_27.choose_spec sk_92 rfl ?_
  refine Rn.pu (st' := [.ref 92, .ref 111]) dk_112_30 L_112 rfl ?_
  refine Rn.gI dk_112_31 f_112_31.choose_spec sk_92 rfl ?_
  refine Rn.ic dk_112_34 cic_m1 ?_
  obtain ⟨c5, h⟩ := xm_if h
  obtain ⟨I6, eI6, h⟩ := letS h
  refine Rn.iast dk_112_35 sk_111 c5 ?_
  rw [← eI6]
  refine Rn.pu (st' := [.ref 92]) dk_112_36 L_112 rfl ?_
  refine Rn.pu (st' := [.ref 92, .ref 92]) dk_112_37 L_112 rfl ?_
  refine Rn.gI dk_112_38 f_112_38.choose_spec sk_92 rfl ?_
  refine Rn.ic dk_112_41 cic_1 ?_
  refine Rn.pu (st' := [.int ((I6 92 24) + 1), .ref 92]) dk_112_42 L_112 rfl ?_
  obtain ⟨I7, eI7, h⟩ := letS h
  refine Rn.pI dk_112_43 f_112_43.choose_spec.1 sk_92 rfl f_112_43.choose_spec.2 rfl rfl ?_
  rw [← eI7]
  cases h
  exact Rn.rv dk_112_46 R_112
def m_112 (I : dI) (J : dJ) : Option (dI × dJ) := b_112_0 I J
theorem x_112 {Q : Nat → Option Nat} {D : Nat} (hD : 2 ≤ D) {I : dI} {J : dJ} {R : (dI × dJ)} (h : m_112 I J = some R) : Ex Q D 112 I J [.ref 92] (none) R.1 R.2 := by
  obtain ⟨D, rfl⟩ : ∃ D', D = D' + 1 := ⟨D - 1, by omega⟩
  exact Ex.of (by decide) (by rw [L_112]; exact Nat.le_of_ble_eq_true rfl) (show xm_sub [(0, .ref 92)] [(0, .ref 92)] from xm_sub_of [0] [0] rfl rfl (by decide)) (p_112_0 (Nat.le_of_succ_le_succ hD) _ _ _ h)
-- ConditionDeskModel.shut()V
theorem L_111 : tb_mL 111 = 1 := by decide +kernel
theorem R_111 : tb_mr 111 = none := by decide +kernel
theorem dk_111_0 : decode (tb_mb 111) 0 = .ok (.aload_n 0, 1) := by decide +kernel
theorem dk_111_1 : decode (tb_mb 111) 1 = .ok (.dup, 1) := by decide +kernel
theorem dk_111_2 : decode (tb_mb 111) 2 = .ok (.getfield 160, 3) := by decide +kernel
theorem f_111_2 : ∃ b, tb_fr (tb_oc 111) 160 = some (9, 25, b) := ⟨_, rfl⟩
theorem dk_111_5 : decode (tb_mb 111) 5 = .ok (.iconst (1), 1) := by decide +kernel
theorem dk_111_6 : decode (tb_mb 111) 6 = .ok (.isub, 1) := by decide +kernel
theorem dk_111_7 : decode (tb_mb 111) 7 = .ok (.putfield 160, 3) := by decide +kernel
theorem f_111_7 : ∃ b, tb_fr (tb_oc 111) 160 = some (9, 25, b) ∧ xm_fin tb_cl (tb_ini 111) b 9 25 = true := ⟨_, rfl, rfl⟩
theorem dk_111_10 : decode (tb_mb 111) 10 = .ok (.aload_n 0, 1) := by decide +kernel
theorem dk_111_11 : decode (tb_mb 111) 11 = .ok (.getfield 67, 3) := by decide +kernel
theorem f_111_11 : ∃ b, tb_fr (tb_oc 111) 67 = some (9, 29, b) := ⟨_, rfl⟩
theorem dk_111_14 : decode (tb_mb 111) 14 = .ok (.aload_n 0, 1) := by decide +kernel
theorem dk_111_15 : decode (tb_mb 111) 15 = .ok (.getfield 70, 3) := by decide +kernel
theorem f_111_15 : ∃ b, tb_fr (tb_oc 111) 70 = some (9, 30, b) := ⟨_, rfl⟩
theorem dk_111_18 : decode (tb_mb 111) 18 = .ok (.aload_n 0, 1) := by decide +kernel
theorem dk_111_19 : decode (tb_mb 111) 19 = .ok (.getfield 160, 3) := by decide +kernel
theorem f_111_19 : ∃ b, tb_fr (tb_oc 111) 160 = some (9, 25, b) := ⟨_, rfl⟩
theorem dk_111_22 : decode (tb_mb 111) 22 = .ok (.iaload, 1) := by decide +kernel
theorem dk_111_23 : decode (tb_mb 111) 23 = .ok (.aload_n 0, 1) := by decide +kernel
theorem dk_111_24 : decode (tb_mb 111) 24 = .ok (.getfield 157, 3) := by decide +kernel
theorem f_111_24 : ∃ b, tb_fr (tb_oc 111) 157 = some (9, 24, b) := ⟨_, rfl⟩
theorem dk_111_27 : decode (tb_mb 111) 27 = .ok (.iastore, 1) := by decide +kernel
theorem dk_111_28 : decode (tb_mb 111) 28 = .ok (.aload_n 0, 1) := by decide +kernel
theorem dk_111_29 : decode (tb_mb 111) 29 = .ok (.invokevirtual 163, 3) := by decide +kernel
theorem ck_111_29 : ∃ b, tb_cr (tb_oc 111) 163 = some (0, 112, b, 0) := ⟨_, rfl⟩
theorem dk_111_32 : decode (tb_mb 111) 32 = .ok (.aload_n 0, 1) := by decide +kernel
theorem dk_111_33 : decode (tb_mb 111) 33 = .ok (.getfield 67, 3) := by decide +kernel
theorem f_111_33 : ∃ b, tb_fr (tb_oc 111) 67 = some (9, 29, b) := ⟨_, rfl⟩
theorem dk_111_36 : decode (tb_mb 111) 36 = .ok (.aload_n 0, 1) := by decide +kernel
theorem dk_111_37 : decode (tb_mb 111) 37 = .ok (.getfield 157, 3) := by decide +kernel
theorem f_111_37 : ∃ b, tb_fr (tb_oc 111) 157 = some (9, 24, b) := ⟨_, rfl⟩
theorem dk_111_40 : decode (tb_mb 111) 40 = .ok (.iconst (1), 1) := by decide +kernel
theorem dk_111_41 : decode (tb_mb 111) 41 = .ok (.isub, 1) := by decide +kernel
theorem dk_111_42 : decode (tb_mb 111) 42 = .ok (.aload_n 0, 1) := by decide +kernel
theorem dk_111_43 : decode (tb_mb 111) 43 = .ok (.getfield 70, 3) := by decide +kernel
theorem f_111_43 : ∃ b, tb_fr (tb_oc 111) 70 = some (9, 30, b) := ⟨_, rfl⟩
theorem dk_111_46 : decode (tb_mb 111) 46 = .ok (.aload_n 0, 1) := by decide +kernel
theorem dk_111_47 : decode (tb_mb 111) 47 = .ok (.getfield 160, 3) := by decide +kernel
theorem f_111_47 : ∃ b, tb_fr (tb_oc 111) 160 = some (9, 25, b) := ⟨_, rfl⟩
theorem dk_111_50 : decode (tb_mb 111) 50 = .ok (.iaload, 1) := by decide +kernel
theorem dk_111_51 : decode (tb_mb 111) 51 = .ok (.iastore, 1) := by decide +kernel
theorem dk_111_52 : decode (tb_mb 111) 52 = .ok (.return_, 1) := by decide +kernel
def b_111_0 (I : dI) (J : dJ) : Option (dI × dJ) := lt_ (sI I 92 25 ((I 92 25) - 1)) (fun I1 => if ¬ ((I1 92 25) < 0 ∨ 10 ≤ Int32.toNatClampNeg (I1 92 25)) then (if ¬ ((I1 112 (Int32.toNatClampNeg (I1 92 25))) < 0 ∨ 120 ≤ Int32.toNatClampNeg (I1 112 (Int32.toNatClampNeg (I1 92 25)))) then lt_ (sI I1 111 (Int32.toNatClampNeg (I1 112 (Int32.toNatClampNeg (I1 92 25)))) (I1 92 24)) (fun I4 => (m_112 I4 J).bind (fun r5 => if ¬ ((r5.1 92 25) < 0 ∨ 10 ≤ Int32.toNatClampNeg (r5.1 92 25)) then (if ¬ (((r5.1 92 24) - 1) < 0 ∨ 120 ≤ Int32.toNatClampNeg ((r5.1 92 24) - 1)) then lt_ (sI r5.1 111 (Int32.toNatClampNeg ((r5.1 92 24) - 1)) (r5.1 112 (Int32.toNatClampNeg (r5.1 92 25)))) (fun I9 => some (I9, r5.2)) else none) else none)) else none) else none)
theorem p_111_0 {Q : Nat → Option Nat} {D : Nat} (hD : 2 ≤ D) (I : dI) (J : dJ) (R : (dI × dJ)) (h : b_111_0 I J = some R) : Rn Q D 111 0 [(0, .ref 92)] [] I J (none) R.1 R.2 := by
  replace h : (lt_ (sI I 92 25 ((I 92 25) - 1)) (fun I1 => if ¬ ((I1 92 25) < 0 ∨ 10 ≤ Int32.toNatClampNeg (I1 92 25)) then (if ¬ ((I1 112 (Int32.toNatClampNeg (I1 92 25))) < 0 ∨ 120 ≤ Int32.toNatClampNeg (I1 112 (Int32.toNatClampNeg (I1 92 25)))) then lt_ (sI I1 111 (Int32.toNatClampNeg (I1 112 (Int32.toNatClampNeg (I1 92 25)))) (I1 92 24)) (fun I4 => (m_112 I4 J).bind (fun r5 => if ¬ ((r5.1 92 25) < 0 ∨ 10 ≤ Int32.toNatClampNeg (r5.1 92 25)) then (if ¬ (((r5.1 92 24) - 1) < 0 ∨ 120 ≤ Int32.toNatClampNeg ((r5.1 92 24) - 1)) then lt_ (sI r5.1 111 (Int32.toNatClampNeg ((r5.1 92 24) - 1)) (r5.1 112 (Int32.toNatClampNeg (r5.1 92 25)))) (fun I9 => some (I9, r5.2)) else none) else none)) else none) else none)) = some R := h
  refine Rn.pu (st' := [.ref 92]) dk_111_0 L_111 rfl ?_
  refine Rn.pu (st' := [.ref 92, .ref 92]) dk_111_1 L_111 rfl ?_
  refine Rn.gI dk_111_2 f_111_2.choose_spec sk_92 rfl ?_
  refine Rn.ic dk_111_5 cic_1 ?_
  refine Rn.pu (st' := [.int ((I 92 25) - 1), .ref 92]) dk_111_6 L_111 rfl ?_
  obtain ⟨I1, eI1, h⟩ := letS h
  refine Rn.pI dk_111_7 f_111_7.choose_spec.1 sk_92 rfl f_111_7.choose_spec.2 rfl rfl ?_
  rw [← eI1]
  refine Rn.pu (st' := [.ref 92]) dk_111_10 L_111 rfl ?_
  refine Rn.gR (r := 111) dk_111_11 f_111_11.choose_spec sk_92 rfl ?_
  refine Rn.pu (st' := [.ref 92, .ref 111]) dk_111_14 L_111 rfl ?_
  refine Rn.gR (r := 112) dk_111_15 f_111_15.choose_spec sk_92 rfl ?_
  refine Rn.pu (st' := [.ref 92, .ref 112, .ref 111]) dk_111_18 L_111 rfl ?_
  refine Rn.gI dk_111_19 f_111_19.choose_spec sk_92 rfl ?_
  obtain ⟨c2, h⟩ := xm_if h
  refine Rn.iald dk_111_22 sk_112 c2 ?_
  refine Rn.pu (st' := [.ref 92, .int (I1 112 (Int32.toNatClampNeg (I1 92 25))), .ref 111]) dk_111_23 L_111 rfl ?_
  refine Rn.gI dk_111_24 f_111_24.choose_spec sk_92 rfl ?_
  obtain ⟨c3, h⟩ := xm_if h
  obtain ⟨I4, eI4, h⟩ := letS h
  refine Rn.iast dk_111_27 sk_111 c3 ?_
  rw [← eI4]
  refine Rn.pu (st' := [.ref 92]) dk_111_28 L_111 rfl ?_
  obtain ⟨r5, e6, h⟩ := bindS h
  refine Rn.cvV (p := 92) (As := []) (rest := []) dk_111_29 ck_111_29.choose_spec rfl sk_92 rfl (x_112 (Nat.le_trans (Nat.le_of_ble_eq_true rfl) hD) e6) ?_
  refine Rn.pu (st' := [.ref 92]) dk_111_32 L_111 rfl ?_
  refine Rn.gR (r := 111) dk_111_33 f_111_33.choose_spec sk_92 rfl ?_
  refine Rn.pu (st' := [.ref 92, .ref 111]) dk_111_36 L_111 rfl ?_
  refine Rn.gI dk_111_37 f_111_37.choose_spec sk_92 rfl ?_
  refine Rn.ic dk_111_40 cic_1 ?_
  refine Rn.pu (st' := [.int ((r5.1 92 24) - 1), .ref 111]) dk_111_41 L_111 rfl ?_
  refine Rn.pu (st' := [.ref 92, .int ((r5.1 92 24) - 1), .ref 111]) dk_111_42 L_111 rfl ?_
  refine Rn.gR (r := 112) dk_111_43 f_111_43.choose_spec sk_92 rfl ?_
  refine Rn.pu (st' := [.ref 92, .ref 112, .int ((r5.1 92 24) - 1), .ref 111]) dk_111_46 L_111 rfl ?_
  refine Rn.gI dk_111_47 f_111_47.choose_spec sk_92 rfl ?_
  obtain ⟨c7, h⟩ := xm_if h
  refine Rn.iald dk_111_50 sk_112 c7 ?_
  obtain ⟨c8, h⟩ := xm_if h
  obtain ⟨I9, eI9, h⟩ := letS h
  refine Rn.iast dk_111_51 sk_111 c8 ?_
  rw [← eI9]
  cases h
  exact Rn.rv dk_111_52 R_111
def m_111 (I : dI) (J : dJ) : Option (dI × dJ) := b_111_0 I J
theorem x_111 {Q : Nat → Option Nat} {D : Nat} (hD : 3 ≤ D) {I : dI} {J : dJ} {R : (dI × dJ)} (h : m_111 I J = some R) : Ex Q D 111 I J [.ref 92] (none) R.1 R.2 := by
  obtain ⟨D, rfl⟩ : ∃ D', D = D' + 1 := ⟨D - 1, by omega⟩
  exact Ex.of (by decide) (by rw [L_111]; exact Nat.le_of_ble_eq_true rfl) (show xm_sub [(0, .ref 92)] [(0, .ref 92)] from xm_sub_of [0] [0] rfl rfl (by decide)) (p_111_0 (Nat.le_of_succ_le_succ hD) _ _ _ h)
