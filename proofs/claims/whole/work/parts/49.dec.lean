/-! Printed by wip/whole/gen_dec.py: methods read back. -/
-- ConditionDesk$Program.copyFrom(LConditionDesk$Program;)V
theorem L_84 : tb_mL 84 = 2 := by decide +kernel
theorem R_84 : tb_mr 84 = none := by decide +kernel
theorem dk_84_0 : decode (tb_mb 84) 0 = .ok (.aload_n 1, 1) := by decide +kernel
theorem dk_84_1 : decode (tb_mb 84) 1 = .ok (.getfield 9, 3) := by decide +kernel
theorem f_84_1 : ∃ b, tb_fr (tb_oc 84) 9 = some (4, 0, b) := ⟨_, rfl⟩
theorem dk_84_4 : decode (tb_mb 84) 4 = .ok (.iconst (0), 1) := by decide +kernel
theorem dk_84_5 : decode (tb_mb 84) 5 = .ok (.aload_n 0, 1) := by decide +kernel
theorem dk_84_6 : decode (tb_mb 84) 6 = .ok (.getfield 9, 3) := by decide +kernel
theorem f_84_6 : ∃ b, tb_fr (tb_oc 84) 9 = some (4, 0, b) := ⟨_, rfl⟩
theorem dk_84_9 : decode (tb_mb 84) 9 = .ok (.iconst (0), 1) := by decide +kernel
theorem dk_84_10 : decode (tb_mb 84) 10 = .ok (.bipush (40), 2) := by decide +kernel
theorem dk_84_12 : decode (tb_mb 84) 12 = .ok (.invokestatic 32, 3) := by decide +kernel
theorem ac_84_12 : (∃ i1, tb_ac (tb_oc 84) 32 = some i1) ∧ tb_cr (tb_oc 84) 32 = none ∧ ¬ (tb_oc 84 = 6 ∧ 32 = 63) := ⟨⟨_, rfl⟩, by decide +kernel, by decide +kernel⟩
theorem dk_84_15 : decode (tb_mb 84) 15 = .ok (.aload_n 1, 1) := by decide +kernel
theorem dk_84_16 : decode (tb_mb 84) 16 = .ok (.getfield 15, 3) := by decide +kernel
theorem f_84_16 : ∃ b, tb_fr (tb_oc 84) 15 = some (4, 1, b) := ⟨_, rfl⟩
theorem dk_84_19 : decode (tb_mb 84) 19 = .ok (.iconst (0), 1) := by decide +kernel
theorem dk_84_20 : decode (tb_mb 84) 20 = .ok (.aload_n 0, 1) := by decide +kernel
theorem dk_84_21 : decode (tb_mb 84) 21 = .ok (.getfield 15, 3) := by decide +kernel
theorem f_84_21 : ∃ b, tb_fr (tb_oc 84) 15 = some (4, 1, b) := ⟨_, rfl⟩
theorem dk_84_24 : decode (tb_mb 84) 24 = .ok (.iconst (0), 1) := by decide +kernel
theorem dk_84_25 : decode (tb_mb 84) 25 = .ok (.bipush (40), 2) := by decide +kernel
theorem dk_84_27 : decode (tb_mb 84) 27 = .ok (.invokestatic 32, 3) := by decide +kernel
theorem ac_84_27 : (∃ i1, tb_ac (tb_oc 84) 32 = some i1) ∧ tb_cr (tb_oc 84) 32 = none ∧ ¬ (tb_oc 84 = 6 ∧ 32 = 63) := ⟨⟨_, rfl⟩, by decide +kernel, by decide +kernel⟩
theorem dk_84_30 : decode (tb_mb 84) 30 = .ok (.aload_n 1, 1) := by decide +kernel
theorem dk_84_31 : decode (tb_mb 84) 31 = .ok (.getfield 18, 3) := by decide +kernel
theorem f_84_31 : ∃ b, tb_fr (tb_oc 84) 18 = some (4, 2, b) := ⟨_, rfl⟩
theorem dk_84_34 : decode (tb_mb 84) 34 = .ok (.iconst (0), 1) := by decide +kernel
theorem dk_84_35 : decode (tb_mb 84) 35 = .ok (.aload_n 0, 1) := by decide +kernel
theorem dk_84_36 : decode (tb_mb 84) 36 = .ok (.getfield 18, 3) := by decide +kernel
theorem f_84_36 : ∃ b, tb_fr (tb_oc 84) 18 = some (4, 2, b) := ⟨_, rfl⟩
theorem dk_84_39 : decode (tb_mb 84) 39 = .ok (.iconst (0), 1) := by decide +kernel
theorem dk_84_40 : decode (tb_mb 84) 40 = .ok (.bipush (40), 2) := by decide +kernel
theorem dk_84_42 : decode (tb_mb 84) 42 = .ok (.invokestatic 32, 3) := by decide +kernel
theorem ac_84_42 : (∃ i1, tb_ac (tb_oc 84) 32 = some i1) ∧ tb_cr (tb_oc 84) 32 = none ∧ ¬ (tb_oc 84 = 6 ∧ 32 = 63) := ⟨⟨_, rfl⟩, by decide +kernel, by decide +kernel⟩
theorem dk_84_45 : decode (tb_mb 84) 45 = .ok (.aload_n 1, 1) := by decide +kernel
theorem dk_84_46 : decode (tb_mb 84) 46 = .ok (.getfield 21, 3) := by decide +kernel
theorem f_84_46 : ∃ b, tb_fr (tb_oc 84) 21 = some (4, 3, b) := ⟨_, rfl⟩
theorem dk_84_49 : decode (tb_mb 84) 49 = .ok (.iconst (0), 1) := by decide +kernel
theorem dk_84_50 : decode (tb_mb 84) 50 = .ok (.aload_n 0, 1) := by decide +kernel
theorem dk_84_51 : decode (tb_mb 84) 51 = .ok (.getfield 21, 3) := by decide +kernel
theorem f_84_51 : ∃ b, tb_fr (tb_oc 84) 21 = some (4, 3, b) := ⟨_, rfl⟩
theorem dk_84_54 : decode (tb_mb 84) 54 = .ok (.iconst (0), 1) := by decide +kernel
theorem dk_84_55 : decode (tb_mb 84) 55 = .ok (.bipush (40), 2) := by decide +kernel
theorem dk_84_57 : decode (tb_mb 84) 57 = .ok (.invokestatic 32, 3) := by decide +kernel
theorem ac_84_57 : (∃ i1, tb_ac (tb_oc 84) 32 = some i1) ∧ tb_cr (tb_oc 84) 32 = none ∧ ¬ (tb_oc 84 = 6 ∧ 32 = 63) := ⟨⟨_, rfl⟩, by decide +kernel, by decide +kernel⟩
theorem dk_84_60 : decode (tb_mb 84) 60 = .ok (.aload_n 0, 1) := by decide +kernel
theorem dk_84_61 : decode (tb_mb 84) 61 = .ok (.aload_n 1, 1) := by decide +kernel
theorem dk_84_62 : decode (tb_mb 84) 62 = .ok (.getfield 25, 3) := by decide +kernel
theorem f_84_62 : ∃ b, tb_fr (tb_oc 84) 25 = some (4, 4, b) := ⟨_, rfl⟩
theorem dk_84_65 : decode (tb_mb 84) 65 = .ok (.putfield 25, 3) := by decide +kernel
theorem f_84_65 : ∃ b, tb_fr (tb_oc 84) 25 = some (4, 4, b) ∧ xm_fin tb_cl (tb_ini 84) b 4 4 = true := ⟨_, rfl, rfl⟩
theorem dk_84_68 : decode (tb_mb 84) 68 = .ok (.aload_n 0, 1) := by decide +kernel
theorem dk_84_69 : decode (tb_mb 84) 69 = .ok (.aload_n 1, 1) := by decide +kernel
theorem dk_84_70 : decode (tb_mb 84) 70 = .ok (.getfield 29, 3) := by decide +kernel
theorem f_84_70 : ∃ b, tb_fr (tb_oc 84) 29 = some (4, 5, b) := ⟨_, rfl⟩
theorem dk_84_73 : decode (tb_mb 84) 73 = .ok (.putfield 29, 3) := by decide +kernel
theorem f_84_73 : ∃ b, tb_fr (tb_oc 84) 29 = some (4, 5, b) ∧ xm_fin tb_cl (tb_ini 84) b 4 5 = true := ⟨_, rfl, rfl⟩
theorem dk_84_76 : decode (tb_mb 84) 76 = .ok (.return_, 1) := by decide +kernel
def b_84_0 (p : Nat) (I : dI) (J : dJ) : Option (dI × dJ) := lt_ (rI I (p + 1) (va_cpy (I 8) (I (p + 1)) 0 0 (Int32.toNatClampNeg 40))) (fun I1 => lt_ (rI I1 (p + 2) (va_cpy (I1 9) (I1 (p + 2)) 0 0 (Int32.toNatClampNeg 40))) (fun I2 => lt_ (rI I2 (p + 3) (va_cpy (I2 10) (I2 (p + 3)) 0 0 (Int32.toNatClampNeg 40))) (fun I3 => lt_ (rJ J (p + 4) (va_cpy (J 11) (J (p + 4)) 0 0 (Int32.toNatClampNeg 40))) (fun J4 => lt_ (sI I3 p 4 (I3 7 4)) (fun I5 => lt_ (sI I5 p 5 (I5 7 5)) (fun I6 => some (I6, J4)))))))
theorem p_84_0 {Q : Nat → Option Nat} {D : Nat} {p : Nat} (hD : 1 ≤ D) (okp : okPr p) (I : dI) (J : dJ) (R : (dI × dJ)) (h : b_84_0 p I J = some R) : Rn Q D 84 0 [(0, .ref p), (1, .ref 7)] [] I J (none) R.1 R.2 := by
  replace h : (lt_ (rI I (p + 1) (va_cpy (I 8) (I (p + 1)) 0 0 (Int32.toNatClampNeg 40))) (fun I1 => lt_ (rI I1 (p + 2) (va_cpy (I1 9) (I1 (p + 2)) 0 0 (Int32.toNatClampNeg 40))) (fun I2 => lt_ (rI I2 (p + 3) (va_cpy (I2 10) (I2 (p + 3)) 0 0 (Int32.toNatClampNeg 40))) (fun I3 => lt_ (rJ J (p + 4) (va_cpy (J 11) (J (p + 4)) 0 0 (Int32.toNatClampNeg 40))) (fun J4 => lt_ (sI I3 p 4 (I3 7 4)) (fun I5 => lt_ (sI I5 p 5 (I5 7 5)) (fun I6 => some (I6, J4)))))))) = some R := h
  refine Rn.pu (st' := [.ref 7]) dk_84_0 L_84 rfl ?_
  refine Rn.gR (r := 8) dk_84_1 f_84_1.choose_spec sk_7 rfl ?_
  refine Rn.ic dk_84_4 cic_0 ?_
  refine Rn.pu (st' := [.ref p, .int 0, .ref 8]) dk_84_5 L_84 rfl ?_
  refine Rn.gR (r := (p + 1)) dk_84_6 f_84_6.choose_spec okp.1 rfl ?_
  refine Rn.ic dk_84_9 cic_0 ?_
  refine Rn.bp dk_84_10 cbp_40 ?_
  obtain ⟨I1, eI1, h⟩ := letS h
  refine Rn.cpI dk_84_12 ac_84_12.2.2 ac_84_12.1.choose_spec ac_84_12.2.1 (Nat.le_of_ble_eq_true rfl) sk_8 okp.2.1 (by decide) (by decide) (by decide) ?_
  rw [← eI1]
  refine Rn.pu (st' := [.ref 7]) dk_84_15 L_84 rfl ?_
  refine Rn.gR (r := 9) dk_84_16 f_84_16.choose_spec sk_7 rfl ?_
  refine Rn.ic dk_84_19 cic_0 ?_
  refine Rn.pu (st' := [.ref p, .int 0, .ref 9]) dk_84_20 L_84 rfl ?_
  refine Rn.gR (r := (p + 2)) dk_84_21 f_84_21.choose_spec okp.1 rfl ?_
  refine Rn.ic dk_84_24 cic_0 ?_
  refine Rn.bp dk_84_25 cbp_40 ?_
  obtain ⟨I2, eI2, h⟩ := letS h
  refine Rn.cpI dk_84_27 ac_84_27.2.2 ac_84_27.1.choose_spec ac_84_27.2.1 (Nat.le_of_ble_eq_true rfl) sk_9 okp.2.2.1 (by decide) (by decide) (by decide) ?_
  rw [← eI2]
  refine Rn.pu (st' := [.ref 7]) dk_84_30 L_84 rfl ?_
  refine Rn.gR (r := 10) dk_84_31 f_84_31.choose_spec sk_7 rfl ?_
  refine Rn.ic dk_84_34 cic_0 ?_
  refine Rn.pu (st' := [.ref p, .int 0, .ref 10]) dk_84_35 L_84 rfl ?_
  refine Rn.gR (r := (p + 3)) dk_84_36 f_84_36.choose_spec okp.1 rfl ?_
  refine Rn.ic dk_84_39 cic_0 ?_
  refine Rn.bp dk_84_40 cbp_40 ?_
  obtain ⟨I3, eI3, h⟩ := letS h
  refine Rn.cpI dk_84_42 ac_84_42.2.2 ac_84_42.1.choose_spec ac_84_42.2.1 (Nat.le_of_ble_eq_true rfl) sk_10 okp.2.2.2.1 (by decide) (by decide) (by decide) ?_
  rw [← eI3]
  refine Rn.pu (st' := [.ref 7]) dk_84_45 L_84 rfl ?_
  refine Rn.gR (r := 11) dk_84_46 f_84_46.choose_spec sk_7 rfl ?_
  refine Rn.ic dk_84_49 cic_0 ?_
  refine Rn.pu (st' := [.ref p, .int 0, .ref 11]) dk_84_50 L_84 rfl ?_
  refine Rn.gR (r := (p + 4)) dk_84_51 f_84_51.choose_spec okp.1 rfl ?_
  refine Rn.ic dk_84_54 cic_0 ?_
  refine Rn.bp dk_84_55 cbp_40 ?_
  obtain ⟨J4, eJ4, h⟩ := letS h
  refine Rn.cpJ dk_84_57 ac_84_57.2.2 ac_84_57.1.choose_spec ac_84_57.2.1 (Nat.le_of_ble_eq_true rfl) sk_11 okp.2.2.2.2 (by decide) (by decide) (by decide) ?_
  rw [← eJ4]
  refine Rn.pu (st' := [.ref p]) dk_84_60 L_84 rfl ?_
  refine Rn.pu (st' := [.ref 7, .ref p]) dk_84_61 L_84 rfl ?_
  refine Rn.gI dk_84_62 f_84_62.choose_spec sk_7 rfl ?_
  obtain ⟨I5, eI5, h⟩ := letS h
  refine Rn.pI dk_84_65 f_84_65.choose_spec.1 okp.1 rfl f_84_65.choose_spec.2 rfl rfl ?_
  rw [← eI5]
  refine Rn.pu (st' := [.ref p]) dk_84_68 L_84 rfl ?_
  refine Rn.pu (st' := [.ref 7, .ref p]) dk_84_69 L_84 rfl ?_
  refine Rn.gI dk_84_70 f_84_70.choose_spec sk_7 rfl ?_
  obtain ⟨I6, eI6, h⟩ := letS h
  refine Rn.pI dk_84_73 f_84_73.choose_spec.1 okp.1 rfl f_84_73.choose_spec.2 rfl rfl ?_
  rw [← eI6]
  cases h
  exact Rn.rv dk_84_76 R_84
def m_84 (p : Nat) (I : dI) (J : dJ) : Option (dI × dJ) := b_84_0 p I J
theorem x_84 {Q : Nat → Option Nat} {D : Nat} {p : Nat} (hD : 2 ≤ D) (okp : okPr p) {I : dI} {J : dJ} {R : (dI × dJ)} (h : m_84 p I J = some R) : Ex Q D 84 I J [.ref p, .ref 7] (none) R.1 R.2 := by
  obtain ⟨D, rfl⟩ : ∃ D', D = D' + 1 := ⟨D - 1, by omega⟩
  exact Ex.of (by decide) (by rw [L_84]; exact Nat.le_of_ble_eq_true rfl) (show xm_sub [(0, .ref p), (1, .ref 7)] [(0, .ref p), (1, .ref 7)] from xm_sub_of [0, 1] [0, 1] rfl rfl (by decide)) (p_84_0 (Nat.le_of_succ_le_succ hD) okp _ _ _ h)
-- ConditionDesk$Worker.begin(LConditionDesk$Program;)V
theorem L_83 : tb_mL 83 = 2 := by decide +kernel
theorem R_83 : tb_mr 83 = none := by decide +kernel
theorem dk_83_0 : decode (tb_mb 83) 0 = .ok (.aload_n 0, 1) := by decide +kernel
theorem dk_83_1 : decode (tb_mb 83) 1 = .ok (.getfield 12, 3) := by decide +kernel
theorem f_83_1 : ∃ b, tb_fr (tb_oc 83) 12 = some (7, 1, b) := ⟨_, rfl⟩
theorem dk_83_4 : decode (tb_mb 83) 4 = .ok (.aload_n 1, 1) := by decide +kernel
theorem dk_83_5 : decode (tb_mb 83) 5 = .ok (.invokevirtual 40, 3) := by decide +kernel
theorem ck_83_5 : ∃ b, tb_cr (tb_oc 83) 40 = some (0, 84, b, 1) := ⟨_, rfl⟩
theorem dk_83_8 : decode (tb_mb 83) 8 = .ok (.aload_n 0, 1) := by decide +kernel
theorem dk_83_9 : decode (tb_mb 83) 9 = .ok (.iconst (0), 1) := by decide +kernel
theorem dk_83_10 : decode (tb_mb 83) 10 = .ok (.putfield 25, 3) := by decide +kernel
theorem f_83_10 : ∃ b, tb_fr (tb_oc 83) 25 = some (7, 4, b) ∧ xm_fin tb_cl (tb_ini 83) b 7 4 = true := ⟨_, rfl, rfl⟩
theorem dk_83_13 : decode (tb_mb 83) 13 = .ok (.return_, 1) := by decide +kernel
def b_83_0 (p : Nat) (I : dI) (J : dJ) : Option (dI × dJ) := (m_84 (p + 1) I J).bind (fun r1 => lt_ (sI r1.1 p 4 0) (fun I3 => some (I3, r1.2)))
theorem p_83_0 {Q : Nat → Option Nat} {D : Nat} {p : Nat} (hD : 2 ≤ D) (okp : okW p) (I : dI) (J : dJ) (R : (dI × dJ)) (h : b_83_0 p I J = some R) : Rn Q D 83 0 [(0, .ref p), (1, .ref 7)] [] I J (none) R.1 R.2 := by
  replace h : ((m_84 (p + 1) I J).bind (fun r1 => lt_ (sI r1.1 p 4 0) (fun I3 => some (I3, r1.2)))) = some R := h
  refine Rn.pu (st' := [.ref p]) dk_83_0 L_83 rfl ?_
  refine Rn.gR (r := (p + 1)) dk_83_1 f_83_1.choose_spec okp.1 rfl ?_
  refine Rn.pu (st' := [.ref 7, .ref (p + 1)]) dk_83_4 L_83 rfl ?_
  obtain ⟨r1, e2, h⟩ := bindS h
  refine Rn.cvV (p := (p + 1)) (As := [.ref 7]) (rest := []) dk_83_5 ck_83_5.choose_spec rfl okp.2.1.1 rfl (x_84 (Nat.le_trans (Nat.le_of_ble_eq_true rfl) hD) okp.2.1 e2) ?_
  refine Rn.pu (st' := [.ref p]) dk_83_8 L_83 rfl ?_
  refine Rn.ic dk_83_9 cic_0 ?_
  obtain ⟨I3, eI3, h⟩ := letS h
  refine Rn.pI dk_83_10 f_83_10.choose_spec.1 okp.1 rfl f_83_10.choose_spec.2 rfl rfl ?_
  rw [← eI3]
  cases h
  exact Rn.rv dk_83_13 R_83
def m_83 (p : Nat) (I : dI) (J : dJ) : Option (dI × dJ) := b_83_0 p I J
theorem x_83 {Q : Nat → Option Nat} {D : Nat} {p : Nat} (hD : 3 ≤ D) (okp : okW p) {I : dI} {J : dJ} {R : (dI × dJ)} (h : m_83 p I J = some R) : Ex Q D 83 I J [.ref p, .ref 7] (none) R.1 R.2 := by
  obtain ⟨D, rfl⟩ : ∃ D', D = D' + 1 := ⟨D - 1, by omega⟩
  exact Ex.of (by decide) (by rw [L_83]; exact Nat.le_of_ble_eq_true rfl) (show xm_sub [(0, .ref p), (1, .ref 7)] [(0, .ref p), (1, .ref 7)] from xm_sub_of [0, 1] [0, 1] rfl rfl (by decide)) (p_83_0 (Nat.le_of_succ_le_succ hD) okp _ _ _ h)
-- ConditionDesk$Condition.begin(LConditionDesk$Program;)V
theorem L_82 : tb_mL 82 = 2 := by decide +kernel
theorem R_82 : tb_mr 82 = none := by decide +kernel
theorem dk_82_0 : decode (tb_mb 82) 0 = .ok (.aload_n 0, 1) := by decide +kernel
theorem dk_82_1 : decode (tb_mb 82) 1 = .ok (.getfield 35, 3) := by decide +kernel
theorem f_82_1 : ∃ b, tb_fr (tb_oc 82) 35 = some (1, 0, b) := ⟨_, rfl⟩
theorem dk_82_4 : decode (tb_mb 82) 4 = .ok (.aload_n 1, 1) := by decide +kernel
theorem dk_82_5 : decode (tb_mb 82) 5 = .ok (.invokevirtual 39, 3) := by decide +kernel
theorem ck_82_5 : ∃ b, tb_cr (tb_oc 82) 39 = some (0, 83, b, 1) := ⟨_, rfl⟩
theorem dk_82_8 : decode (tb_mb 82) 8 = .ok (.aload_n 0, 1) := by decide +kernel
theorem dk_82_9 : decode (tb_mb 82) 9 = .ok (.iconst (1), 1) := by decide +kernel
theorem dk_82_10 : decode (tb_mb 82) 10 = .ok (.putfield 7, 3) := by decide +kernel
theorem f_82_10 : ∃ b, tb_fr (tb_oc 82) 7 = some (1, 1, b) ∧ xm_fin tb_cl (tb_ini 82) b 1 1 = true := ⟨_, rfl, rfl⟩
theorem dk_82_13 : decode (tb_mb 82) 13 = .ok (.aload_n 0, 1) := by decide +kernel
theorem dk_82_14 : decode (tb_mb 82) 14 = .ok (.iconst (0), 1) := by decide +kernel
theorem dk_82_15 : decode (tb_mb 82) 15 = .ok (.putfield 13, 3) := by decide +kernel
theorem f_82_15 : ∃ b, tb_fr (tb_oc 82) 13 = some (1, 2, b) ∧ xm_fin tb_cl (tb_ini 82) b 1 2 = true := ⟨_, rfl, rfl⟩
theorem dk_82_18 : decode (tb_mb 82) 18 = .ok (.aload_n 0, 1) := by decide +kernel
theorem dk_82_19 : decode (tb_mb 82) 19 = .ok (.lconst 0, 1) := by decide +kernel
theorem dk_82_20 : decode (tb_mb 82) 20 = .ok (.putfield 17, 3) := by decide +kernel
theorem f_82_20 : ∃ b, tb_fr (tb_oc 82) 17 = some (1, 3, b) ∧ xm_fin tb_cl (tb_ini 82) b 1 3 = true := ⟨_, rfl, rfl⟩
theorem dk_82_23 : decode (tb_mb 82) 23 = .ok (.aload_n 0, 1) := by decide +kernel
theorem dk_82_24 : decode (tb_mb 82) 24 = .ok (.lconst 0, 1) := by decide +kernel
theorem dk_82_25 : decode (tb_mb 82) 25 = .ok (.putfield 21, 3) := by decide +kernel
theorem f_82_25 : ∃ b, tb_fr (tb_oc 82) 21 = some (1, 4, b) ∧ xm_fin tb_cl (tb_ini 82) b 1 4 = true := ⟨_, rfl, rfl⟩
theorem dk_82_28 : decode (tb_mb 82) 28 = .ok (.aload_n 0, 1) := by decide +kernel
theorem dk_82_29 : decode (tb_mb 82) 29 = .ok (.lconst 0, 1) := by decide +kernel
theorem dk_82_30 : decode (tb_mb 82) 30 = .ok (.putfield 24, 3) := by decide +kernel
theorem f_82_30 : ∃ b, tb_fr (tb_oc 82) 24 = some (1, 5, b) ∧ xm_fin tb_cl (tb_ini 82) b 1 5 = true := ⟨_, rfl, rfl⟩
theorem dk_82_33 : decode (tb_mb 82) 33 = .ok (.aload_n 0, 1) := by decide +kernel
theorem dk_82_34 : decode (tb_mb 82) 34 = .ok (.lconst 0, 1) := by decide +kernel
theorem dk_82_35 : decode (tb_mb 82) 35 = .ok (.putfield 27, 3) := by decide +kernel
theorem f_82_35 : ∃ b, tb_fr (tb_oc 82) 27 = some (1, 6, b) ∧ xm_fin tb_cl (tb_ini 82) b 1 6 = true := ⟨_, rfl, rfl⟩
theorem dk_82_38 : decode (tb_mb 82) 38 = .ok (.return_, 1) := by decide +kernel
def b_82_0 (p : Nat) (I : dI) (J : dJ) : Option (dI × dJ) := (m_83 (p + 1) I J).bind (fun r1 => lt_ (sI r1.1 p 1 1) (fun I3 => lt_ (sI I3 p 2 0) (fun I4 => lt_ (sJ r1.2 p 3 0) (fun J5 => lt_ (sJ J5 p 4 0) (fun J6 => lt_ (sJ J6 p 5 0) (fun J7 => lt_ (sJ J7 p 6 0) (fun J8 => some (I4, J8))))))))
theorem p_82_0 {Q : Nat → Option Nat} {D : Nat} {p : Nat} (hD : 3 ≤ D) (okp : okC p) (I : dI) (J : dJ) (R : (dI × dJ)) (h : b_82_0 p I J = some R) : Rn Q D 82 0 [(0, .ref p), (1, .ref 7)] [] I J (none) R.1 R.2 := by
  replace h : ((m_83 (p + 1) I J).bind (fun r1 => lt_ (sI r1.1 p 1 1) (fun I3 => lt_ (sI I3 p 2 0) (fun I4 => lt_ (sJ r1.2 p 3 0) (fun J5 => lt_ (sJ J5 p 4 0) (fun J6 => lt_ (sJ J6 p 5 0) (fun J7 => lt_ (sJ J7 p 6 0) (fun J8 => some (I4, J8))))))))) = some R := h
  refine Rn.pu (st' := [.ref p]) dk_82_0 L_82 rfl ?_
  refine Rn.gR (r := (p + 1)) dk_82_1 f_82_1.choose_spec okp.1 rfl ?_
  refine Rn.pu (st' := [.ref 7, .ref (p + 1)]) dk_82_4 L_82 rfl ?_
  obtain ⟨r1, e2, h⟩ := bindS h
  refine Rn.cvV (p := (p + 1)) (As := [.ref 7]) (rest := []) dk_82_5 ck_82_5.choose_spec rfl okp.2.1 rfl (x_83 (Nat.le_trans (Nat.le_of_ble_eq_true rfl) hD) okp.2 e2) ?_
  refine Rn.pu (st' := [.ref p]) dk_82_8 L_82 rfl ?_
  refine Rn.ic dk_82_9 cic_1 ?_
  obtain ⟨I3, eI3, h⟩ := letS h
  refine Rn.pI dk_82_10 f_82_10.choose_spec.1 okp.1 rfl f_82_10.choose_spec.2 rfl rfl ?_
  rw [← eI3]
  refine Rn.pu (st' := [.ref p]) dk_82_13 L_82 rfl ?_
  refine Rn.ic dk_82_14 cic_0 ?_
  obtain ⟨I4, eI4, h⟩ := letS h
  refine Rn.pI dk_82_15 f_82_15.choose_spec.1 okp.1 rfl f_82_15.choose_spec.2 rfl rfl ?_
  rw [← eI4]
  refine Rn.pu (st' := [.ref p]) dk_82_18 L_82 rfl ?_
  refine Rn.lc dk_82_19 clc_0 ?_
  obtain ⟨J5, eJ5, h⟩ := letS h
  refine Rn.pJ dk_82_20 f_82_20.choose_spec.1 okp.1 rfl f_82_20.choose_spec.2 rfl rfl ?_
  rw [← eJ5]
  refine Rn.pu (st' := [.ref p]) dk_82_23 L_82 rfl ?_
  refine Rn.lc dk_82_24 clc_0 ?_
  obtain ⟨J6, eJ6, h⟩ := letS h
  refine Rn.pJ dk_82_25 f_82_25.choose_spec.1 okp.1 rfl f_82_25.choose_spec.2 rfl rfl ?_
  rw [← eJ6]
  refine Rn.pu (st' := [.ref p]) dk_82_28 L_82 rfl ?_
  refine Rn.lc dk_82_29 clc_0 ?_
  obtain ⟨J7, eJ7, h⟩ := letS h
  refine Rn.pJ dk_82_30 f_82_30.choose_spec.1 okp.1 rfl f_82_30.choose_spec.2 rfl rfl ?_
  rw [← eJ7]
  refine Rn.pu (st' := [.ref p]) dk_82_33 L_82 rfl ?_
  refine Rn.lc dk_82_34 clc_0 ?_
  obtain ⟨J8, eJ8, h⟩ := letS h
  refine Rn.pJ dk_82_35 f_82_35.choose_spec.1 okp.1 rfl f_82_35.choose_spec.2 rfl rfl ?_
  rw [← eJ8]
  cases h
  exact Rn.rv dk_82_38 R_82
def m_82 (p : Nat) (I : dI) (J : dJ) : Option (dI × dJ) := b_82_0 p I J
theorem x_82 {Q : Nat → Option Nat} {D : Nat} {p : Nat} (hD : 4 ≤ D) (okp : okC p) {I : dI} {J : dJ} {R : (dI × dJ)} (h : m_82 p I J = some R) : Ex Q D 82 I J [.ref p, .ref 7] (none) R.1 R.2 := by
  obtain ⟨D, rfl⟩ : ∃ D', D = D' + 1 := ⟨D - 1, by omega⟩
  exact Ex.of (by decide) (by rw [L_82]; exact Nat.le_of_ble_eq_true rfl) (show xm_sub [(0, .ref p), (1, .ref 7)] [(0, .ref p), (1, .ref 7)] from xm_sub_of [0, 1] [0, 1] rfl rfl (by decide)) (p_82_0 (Nat.le_of_succ_le_succ hD) okp _ _ _ h)
-- ConditionDesk.compile(I)I
theorem L_39 : tb_mL 39 = 4 := by decide +kernel
theorem R_39 : tb_mr 39 = some .int := by decide +kernel
theorem dk_39_0 : decode (tb_mb 39) 0 = .ok (.aload_n 0, 1) := by decide +kernel
theorem dk_39_1 : decode (tb_mb 39) 1 = .ok (.iload_n 1, 1) := by decide +kernel
theorem dk_39_2 : decode (tb_mb 39) 2 = .ok (.invokevirtual 49, 3) := by decide +kernel
theorem ck_39_2 : ∃ b, tb_cr (tb_oc 39) 49 = some (0, 40, b, 1) := ⟨_, rfl⟩
theorem dk_39_5 : decode (tb_mb 39) 5 = .ok (.astore_n 2, 1) := by decide +kernel
theorem dk_39_6 : decode (tb_mb 39) 6 = .ok (.aload_n 2, 1) := by decide +kernel
theorem dk_39_7 : decode (tb_mb 39) 7 = .ok (.ifnonnull (13), 3) := by decide +kernel
theorem dk_39_20 : decode (tb_mb 39) 20 = .ok (.aload_n 0, 1) := by decide +kernel
theorem dk_39_21 : decode (tb_mb 39) 21 = .ok (.getfield 28, 3) := by decide +kernel
theorem f_39_21 : ∃ b, tb_fr (tb_oc 39) 28 = some (8, 2, b) := ⟨_, rfl⟩
theorem dk_39_24 : decode (tb_mb 39) 24 = .ok (.invokevirtual 60, 3) := by decide +kernel
theorem ck_39_24 : ∃ b, tb_cr (tb_oc 39) 60 = some (0, 41, b, 0) := ⟨_, rfl⟩
theorem dk_39_27 : decode (tb_mb 39) 27 = .ok (.istore_n 3, 1) := by decide +kernel
theorem dk_39_28 : decode (tb_mb 39) 28 = .ok (.aload_n 0, 1) := by decide +kernel
theorem dk_39_29 : decode (tb_mb 39) 29 = .ok (.getfield 10, 3) := by decide +kernel
theorem f_39_29 : ∃ b, tb_fr (tb_oc 39) 10 = some (8, 0, b) := ⟨_, rfl⟩
theorem dk_39_32 : decode (tb_mb 39) 32 = .ok (.invokevirtual 64, 3) := by decide +kernel
theorem ck_39_32 : ∃ b, tb_cr (tb_oc 39) 64 = some (0, 81, b, 0) := ⟨_, rfl⟩
theorem dk_39_35 : decode (tb_mb 39) 35 = .ok (.iload_n 3, 1) := by decide +kernel
theorem dk_39_36 : decode (tb_mb 39) 36 = .ok (.ifCond .ne (14), 3) := by decide +kernel
theorem dk_39_50 : decode (tb_mb 39) 50 = .ok (.iload_n 3, 1) := by decide +kernel
theorem dk_39_51 : decode (tb_mb 39) 51 = .ok (.ireturn, 1) := by decide +kernel
theorem dk_39_39 : decode (tb_mb 39) 39 = .ok (.aload_n 2, 1) := by decide +kernel
theorem dk_39_40 : decode (tb_mb 39) 40 = .ok (.aload_n 0, 1) := by decide +kernel
theorem dk_39_41 : decode (tb_mb 39) 41 = .ok (.getfield 28, 3) := by decide +kernel
theorem f_39_41 : ∃ b, tb_fr (tb_oc 39) 28 = some (8, 2, b) := ⟨_, rfl⟩
theorem dk_39_44 : decode (tb_mb 39) 44 = .ok (.getfield 67, 3) := by decide +kernel
theorem f_39_44 : ∃ b, tb_fr (tb_oc 39) 67 = some (0, 2, b) := ⟨_, rfl⟩
theorem dk_39_47 : decode (tb_mb 39) 47 = .ok (.invokevirtual 71, 3) := by decide +kernel
theorem ck_39_47 : ∃ b, tb_cr (tb_oc 39) 71 = some (0, 82, b, 1) := ⟨_, rfl⟩
def b_39_0 (x1 : Int32) (I : dI) (J : dJ) : Option (Int32 × dI × dJ) := (m_40 x1 I J).bind (fun r1 => match r1 with | none => (none) | some c => ((m_41 I J).bind (fun r3 => (m_81 r3.2.1 r3.2.2).bind (fun r5 => if ¬ r3.1 = 0 then (some (r3.1, r5.1, r5.2)) else ((m_82 c r5.1 r5.2).bind (fun r8 => some (r3.1, r8.1, r8.2)))))))
theorem p_39_0 {Q : Nat → Option Nat} {D : Nat} (hD : 7 ≤ D) (hQ : ∀ j, j < 8 → Q j = some (20 + 9 * j)) (x1 : Int32) (I : dI) (J : dJ) (R : (Int32 × dI × dJ)) (h : b_39_0 x1 I J = some R) : Rn Q D 39 0 [(0, .ref 0), (1, .int x1)] [] I J (some (.int R.1)) R.2.1 R.2.2 := by
  replace h : ((m_40 x1 I J).bind (fun r1 => match r1 with | none => (none) | some c => ((m_41 I J).bind (fun r3 => (m_81 r3.2.1 r3.2.2).bind (fun r5 => if ¬ r3.1 = 0 then (some (r3.1, r5.1, r5.2)) else ((m_82 c r5.1 r5.2).bind (fun r8 => some (r3.1, r8.1, r8.2)))))))) = some R := h
  refine Rn.pu (st' := [.ref 0]) dk_39_0 L_39 rfl ?_
  refine Rn.pu (st' := [.int x1, .ref 0]) dk_39_1 L_39 rfl ?_
  obtain ⟨r1, e2, h⟩ := bindS h
  cases r1 with
  | none =>
    dsimp only at h
    refine Rn.cvA (p := 0) (As := [.int x1]) (rest := []) dk_39_2 ck_39_2.choose_spec rfl sk_0 rfl (x_40 (Nat.le_trans (Nat.le_of_ble_eq_true rfl) hD) hQ e2) ?_
    refine Rn.pu (ls' := [(2, .null), (0, .ref 0), (1, .int x1)]) (st' := []) dk_39_5 L_39 rfl ?_
    refine Rn.pu (st' := [.null]) dk_39_6 L_39 rfl ?_
    refine Rn.sf (t := 20) (st' := []) dk_39_7 (fun _ _ => rfl) rfl ?_
    cases h
  | some c =>
    dsimp only at h
    have okc := ok_ca e2
    refine Rn.cvA (p := 0) (As := [.int x1]) (rest := []) dk_39_2 ck_39_2.choose_spec rfl sk_0 rfl (x_40 (Nat.le_trans (Nat.le_of_ble_eq_true rfl) hD) hQ e2) ?_
    refine Rn.pu (ls' := [(2, .ref c), (0, .ref 0), (1, .int x1)]) (st' := []) dk_39_5 L_39 rfl ?_
    refine Rn.pu (st' := [.ref c]) dk_39_6 L_39 rfl ?_
    refine Rn.sw (t := 20) (st' := []) dk_39_7 (fun _ _ => rfl) rfl ?_
    refine Rn.pu (st' := [.ref 0]) dk_39_20 L_39 rfl ?_
    refine Rn.gR (r := 6) dk_39_21 f_39_21.choose_spec sk_0 rfl ?_
    obtain ⟨r3, e4, h⟩ := bindS h
    refine Rn.cvI (p := 6) (As := []) (rest := []) dk_39_24 ck_39_24.choose_spec rfl sk_6 rfl (x_41 (Nat.le_trans (Nat.le_of_ble_eq_true rfl) hD) e4) ?_
    refine Rn.pu (ls' := [(3, .int r3.1), (2, .ref c), (0, .ref 0), (1, .int x1)]) (st' := []) dk_39_27 L_39 rfl ?_
    refine Rn.pu (st' := [.ref 0]) dk_39_28 L_39 rfl ?_
    refine Rn.gR (r := 1) dk_39_29 f_39_29.choose_spec sk_0 rfl ?_
    obtain ⟨r5, e6, h⟩ := bindS h
    refine Rn.cvV (p := 1) (As := []) (rest := []) dk_39_32 ck_39_32.choose_spec rfl sk_1 rfl (x_81 (Nat.le_trans (Nat.le_of_ble_eq_true rfl) hD) e6) ?_
    refine Rn.pu (st' := [.int r3.1]) dk_39_35 L_39 rfl ?_
    by_cases c7 : ¬ r3.1 = 0
    · rw [if_pos c7] at h
      refine Rn.i1t (t := 50) dk_39_36 rfl (decide_eq_true c7) ?_
      refine Rn.pu (st' := [.int r3.1]) dk_39_50 L_39 rfl ?_
      cases h
      exact Rn.ri dk_39_51 R_39 rfl
    · rw [if_neg c7] at h
      refine Rn.i1f (t := 50) dk_39_36 rfl (decide_eq_false c7) ?_
      refine Rn.pu (st' := [.ref c]) dk_39_39 L_39 rfl ?_
      refine Rn.pu (st' := [.ref 0, .ref c]) dk_39_40 L_39 rfl ?_
      refine Rn.gR (r := 6) dk_39_41 f_39_41.choose_spec sk_0 rfl ?_
      refine Rn.gR (r := 7) dk_39_44 f_39_44.choose_spec sk_6 rfl ?_
      obtain ⟨r8, e9, h⟩ := bindS h
      refine Rn.cvV (p := c) (As := [.ref 7]) (rest := []) dk_39_47 ck_39_47.choose_spec rfl okc.1 rfl (x_82 (Nat.le_trans (Nat.le_of_ble_eq_true rfl) hD) okc e9) ?_
      refine Rn.pu (st' := [.int r3.1]) dk_39_50 L_39 rfl ?_
      cases h
      exact Rn.ri dk_39_51 R_39 rfl
def m_39 (x1 : Int32) (I : dI) (J : dJ) : Option (Int32 × dI × dJ) := b_39_0 x1 I J
theorem x_39 {Q : Nat → Option Nat} {D : Nat} (hD : 8 ≤ D) (hQ : ∀ j, j < 8 → Q j = some (20 + 9 * j)) {x1 : Int32} {I : dI} {J : dJ} {R : (Int32 × dI × dJ)} (h : m_39 x1 I J = some R) : Ex Q D 39 I J [.ref 0, .int x1] (some (.int R.1)) R.2.1 R.2.2 := by
  obtain ⟨D, rfl⟩ : ∃ D', D = D' + 1 := ⟨D - 1, by omega⟩
  exact Ex.of (by decide) (by rw [L_39]; exact Nat.le_of_ble_eq_true rfl) (show xm_sub [(0, .ref 0), (1, .int x1)] [(0, .ref 0), (1, .int x1)] from xm_sub_of [0, 1] [0, 1] rfl rfl (by decide)) (p_39_0 (Nat.le_of_succ_le_succ hD) hQ _ _ _ _ h)
-- ConditionDesk.drop(I)Z
theorem L_85 : tb_mL 85 = 4 := by decide +kernel
theorem R_85 : tb_mr 85 = some .boolean := by decide +kernel
theorem dk_85_0 : decode (tb_mb 85) 0 = .ok (.aload_n 0, 1) := by decide +kernel
theorem dk_85_1 : decode (tb_mb 85) 1 = .ok (.iload_n 1, 1) := by decide +kernel
theorem dk_85_2 : decode (tb_mb 85) 2 = .ok (.invokevirtual 49, 3) := by decide +kernel
theorem ck_85_2 : ∃ b, tb_cr (tb_oc 85) 49 = some (0, 40, b, 1) := ⟨_, rfl⟩
theorem dk_85_5 : decode (tb_mb 85) 5 = .ok (.astore_n 2, 1) := by decide +kernel
theorem dk_85_6 : decode (tb_mb 85) 6 = .ok (.aload_n 2, 1) := by decide +kernel
theorem dk_85_7 : decode (tb_mb 85) 7 = .ok (.ifnonnull (13), 3) := by decide +kernel
theorem dk_85_20 : decode (tb_mb 85) 20 = .ok (.aload_n 2, 1) := by decide +kernel
theorem dk_85_21 : decode (tb_mb 85) 21 = .ok (.getfield 75, 3) := by decide +kernel
theorem f_85_21 : ∃ b, tb_fr (tb_oc 85) 75 = some (1, 1, b) := ⟨_, rfl⟩
theorem dk_85_24 : decode (tb_mb 85) 24 = .ok (.istore_n 3, 1) := by decide +kernel
theorem dk_85_25 : decode (tb_mb 85) 25 = .ok (.aload_n 2, 1) := by decide +kernel
theorem dk_85_26 : decode (tb_mb 85) 26 = .ok (.iconst (0), 1) := by decide +kernel
theorem dk_85_27 : decode (tb_mb 85) 27 = .ok (.putfield 75, 3) := by decide +kernel
theorem f_85_27 : ∃ b, tb_fr (tb_oc 85) 75 = some (1, 1, b) ∧ xm_fin tb_cl (tb_ini 85) b 1 1 = true := ⟨_, rfl, rfl⟩
theorem dk_85_30 : decode (tb_mb 85) 30 = .ok (.iload_n 3, 1) := by decide +kernel
theorem dk_85_31 : decode (tb_mb 85) 31 = .ok (.ireturn, 1) := by decide +kernel
def b_85_0 (x1 : Int32) (I : dI) (J : dJ) : Option (Int32 × dI × dJ) := (m_40 x1 I J).bind (fun r1 => match r1 with | none => (none) | some c => (lt_ (sI I c 1 0) (fun I3 => if (I c 1) = 0 ∨ (I c 1) = 1 then (some ((I c 1), I3, J)) else none)))
theorem p_85_0 {Q : Nat → Option Nat} {D : Nat} (hD : 2 ≤ D) (hQ : ∀ j, j < 8 → Q j = some (20 + 9 * j)) (x1 : Int32) (I : dI) (J : dJ) (R : (Int32 × dI × dJ)) (h : b_85_0 x1 I J = some R) : Rn Q D 85 0 [(0, .ref 0), (1, .int x1)] [] I J (some (.int R.1)) R.2.1 R.2.2 := by
  replace h : ((m_40 x1 I J).bind (fun r1 => match r1 with | none => (none) | some c => (lt_ (sI I c 1 0) (fun I3 => if (I c 1) = 0 ∨ (I c 1) = 1 then (some ((I c 1), I3, J)) else none)))) = some R := h
  refine Rn.pu (st' := [.ref 0]) dk_85_0 L_85 rfl ?_
  refine Rn.pu (st' := [.int x1, .ref 0]) dk_85_1 L_85 rfl ?_
  obtain ⟨r1, e2, h⟩ := bindS h
  cases r1 with
  | none =>
    dsimp only at h
    refine Rn.cvA (p := 0) (As := [.int x1]) (rest := []) dk_85_2 ck_85_2.choose_spec rfl sk_0 rfl (x_40 (Nat.le_trans (Nat.le_of_ble_eq_true rfl) hD) hQ e2) ?_
    refine Rn.pu (ls' := [(2, .null), (0, .ref 0), (1, .int x1)]) (st' := []) dk_85_5 L_85 rfl ?_
    refine Rn.pu (st' := [.null]) dk_85_6 L_85 rfl ?_
    refine Rn.sf (t := 20) (st' := []) dk_85_7 (fun _ _ => rfl) rfl ?_
    cases h
  | some c =>
    dsimp only at h
    have okc := ok_ca e2
    refine Rn.cvA (p := 0) (As := [.int x1]) (rest := []) dk_85_2 ck_85_2.choose_spec rfl sk_0 rfl (x_40 (Nat.le_trans (Nat.le_of_ble_eq_true rfl) hD) hQ e2) ?_
    refine Rn.pu (ls' := [(2, .ref c), (0, .ref 0), (1, .int x1)]) (st' := []) dk_85_5 L_85 rfl ?_
    refine Rn.pu (st' := [.ref c]) dk_85_6 L_85 rfl ?_
    refine Rn.sw (t := 20) (st' := []) dk_85_7 (fun _ _ => rfl) rfl ?_
    refine Rn.pu (st' := [.ref c]) dk_85_20 L_85 rfl ?_
    refine Rn.gI dk_85_21 f_85_21.choose_spec okc.1 rfl ?_
    refine Rn.pu (ls' := [(3, .int (I c 1)), (2, .ref c), (0, .ref 0), (1, .int x1)]) (st' := []) dk_85_24 L_85 rfl ?_
    refine Rn.pu (st' := [.ref c]) dk_85_25 L_85 rfl ?_
    refine Rn.ic dk_85_26 cic_0 ?_
    obtain ⟨I3, eI3, h⟩ := letS h
    refine Rn.pI dk_85_27 f_85_27.choose_spec.1 okc.1 rfl f_85_27.choose_spec.2 rfl rfl ?_
    rw [← eI3]
    refine Rn.pu (st' := [.int (I c 1)]) dk_85_30 L_85 rfl ?_
    obtain ⟨c4, h⟩ := xm_if h
    cases h
    exact Rn.ri dk_85_31 R_85 (nar_b c4)
def m_85 (x1 : Int32) (I : dI) (J : dJ) : Option (Int32 × dI × dJ) := b_85_0 x1 I J
theorem x_85 {Q : Nat → Option Nat} {D : Nat} (hD : 3 ≤ D) (hQ : ∀ j, j < 8 → Q j = some (20 + 9 * j)) {x1 : Int32} {I : dI} {J : dJ} {R : (Int32 × dI × dJ)} (h : m_85 x1 I J = some R) : Ex Q D 85 I J [.ref 0, .int x1] (some (.int R.1)) R.2.1 R.2.2 := by
  obtain ⟨D, rfl⟩ : ∃ D', D = D' + 1 := ⟨D - 1, by omega⟩
  exact Ex.of (by decide) (by rw [L_85]; exact Nat.le_of_ble_eq_true rfl) (show xm_sub [(0, .ref 0), (1, .int x1)] [(0, .ref 0), (1, .int x1)] from xm_sub_of [0, 1] [0, 1] rfl rfl (by decide)) (p_85_0 (Nat.le_of_succ_le_succ hD) hQ _ _ _ _ h)
-- ConditionDesk$Machine.putRegister(II)V
theorem L_87 : tb_mL 87 = 3 := by decide +kernel
theorem R_87 : tb_mr 87 = none := by decide +kernel
theorem dk_87_0 : decode (tb_mb 87) 0 = .ok (.iload_n 1, 1) := by decide +kernel
theorem dk_87_1 : decode (tb_mb 87) 1 = .ok (.ifCond .le (19), 3) := by decide +kernel
theorem dk_87_20 : decode (tb_mb 87) 20 = .ok (.return_, 1) := by decide +kernel
theorem dk_87_4 : decode (tb_mb 87) 4 = .ok (.iload_n 1, 1) := by decide +kernel
theorem dk_87_5 : decode (tb_mb 87) 5 = .ok (.aload_n 0, 1) := by decide +kernel
theorem dk_87_6 : decode (tb_mb 87) 6 = .ok (.getfield 9, 3) := by decide +kernel
theorem f_87_6 : ∃ b, tb_fr (tb_oc 87) 9 = some (2, 0, b) := ⟨_, rfl⟩
theorem dk_87_9 : decode (tb_mb 87) 9 = .ok (.arraylength, 1) := by decide +kernel
theorem dk_87_10 : decode (tb_mb 87) 10 = .ok (.if_icmp .ge (10), 3) := by decide +kernel
theorem dk_87_13 : decode (tb_mb 87) 13 = .ok (.aload_n 0, 1) := by decide +kernel
theorem dk_87_14 : decode (tb_mb 87) 14 = .ok (.getfield 9, 3) := by decide +kernel
theorem f_87_14 : ∃ b, tb_fr (tb_oc 87) 9 = some (2, 0, b) := ⟨_, rfl⟩
theorem dk_87_17 : decode (tb_mb 87) 17 = .ok (.iload_n 1, 1) := by decide +kernel
theorem dk_87_18 : decode (tb_mb 87) 18 = .ok (.iload_n 2, 1) := by decide +kernel
theorem dk_87_19 : decode (tb_mb 87) 19 = .ok (.iastore, 1) := by decide +kernel
def b_87_0 (x1 : Int32) (x2 : Int32) (I : dI) (J : dJ) : Option (dI × dJ) := if x1 ≤ 0 then (some (I, J)) else (if (Int32.ofNat 34) ≤ x1 then (some (I, J)) else (if ¬ (x1 < 0 ∨ 34 ≤ Int32.toNatClampNeg x1) then lt_ (sI I 4 (Int32.toNatClampNeg x1) x2) (fun I4 => some (I4, J)) else none))
theorem p_87_0 {Q : Nat → Option Nat} {D : Nat} (hD : 1 ≤ D) (x1 : Int32) (x2 : Int32) (I : dI) (J : dJ) (R : (dI × dJ)) (h : b_87_0 x1 x2 I J = some R) : Rn Q D 87 0 [(0, .ref 3), (1, .int x1), (2, .int x2)] [] I J (none) R.1 R.2 := by
  replace h : (if x1 ≤ 0 then (some (I, J)) else (if (Int32.ofNat 34) ≤ x1 then (some (I, J)) else (if ¬ (x1 < 0 ∨ 34 ≤ Int32.toNatClampNeg x1) then lt_ (sI I 4 (Int32.toNatClampNeg x1) x2) (fun I4 => some (I4, J)) else none))) = some R := h
  refine Rn.pu (st' := [.int x1]) dk_87_0 L_87 rfl ?_
  by_cases c1 : x1 ≤ 0
  · rw [if_pos c1] at h
    refine Rn.i1t (t := 20) dk_87_1 rfl (decide_eq_true c1) ?_
    cases h
    exact Rn.rv dk_87_20 R_87
  · rw [if_neg c1] at h
    refine Rn.i1f (t := 20) dk_87_1 rfl (decide_eq_false c1) ?_
    refine Rn.pu (st' := [.int x1]) dk_87_4 L_87 rfl ?_
    refine Rn.pu (st' := [.ref 3, .int x1]) dk_87_5 L_87 rfl ?_
    refine Rn.gR (r := 4) dk_87_6 f_87_6.choose_spec sk_3 rfl ?_
    refine Rn.alen dk_87_9 sk_4 (by decide) ?_
    by_cases c2 : (Int32.ofNat 34) ≤ x1
    · rw [if_pos c2] at h
      refine Rn.i2t (t := 20) dk_87_10 rfl (decide_eq_true c2) ?_
      cases h
      exact Rn.rv dk_87_20 R_87
    · rw [if_neg c2] at h
      refine Rn.i2f (t := 20) dk_87_10 rfl (decide_eq_false c2) ?_
      refine Rn.pu (st' := [.ref 3]) dk_87_13 L_87 rfl ?_
      refine Rn.gR (r := 4) dk_87_14 f_87_14.choose_spec sk_3 rfl ?_
      refine Rn.pu (st' := [.int x1, .ref 4]) dk_87_17 L_87 rfl ?_
      refine Rn.pu (st' := [.int x2, .int x1, .ref 4]) dk_87_18 L_87 rfl ?_
      obtain ⟨c3, h⟩ := xm_if h
      obtain ⟨I4, eI4, h⟩ := letS h
      refine Rn.iast dk_87_19 sk_4 c3 ?_
      rw [← eI4]
      cases h
      exact Rn.rv dk_87_20 R_87
def m_87 (x1 : Int32) (x2 : Int32) (I : dI) (J : dJ) : Option (dI × dJ) := b_87_0 x1 x2 I J
theorem x_87 {Q : Nat → Option Nat} {D : Nat} (hD : 2 ≤ D) {x1 : Int32} {x2 : Int32} {I : dI} {J : dJ} {R : (dI × dJ)} (h : m_87 x1 x2 I J = some R) : Ex Q D 87 I J [.ref 3, .int x1, .int x2] (none) R.1 R.2 := by
  obtain ⟨D, rfl⟩ : ∃ D', D = D' + 1 := ⟨D - 1, by omega⟩
  exact Ex.of (by decide) (by rw [L_87]; exact Nat.le_of_ble_eq_true rfl) (show xm_sub [(0, .ref 3), (1, .int x1), (2, .int x2)] [(0, .ref 3), (1, .int x1), (2, .int x2)] from xm_sub_of [0, 1, 2] [0, 1, 2] rfl rfl (by decide)) (p_87_0 (Nat.le_of_succ_le_succ hD) _ _ _ _ _ h)
-- ConditionDesk.set(II)V
theorem L_86 : tb_mL 86 = 3 := by decide +kernel
theorem R_86 : tb_mr 86 = none := by decide +kernel
theorem dk_86_0 : decode (tb_mb 86) 0 = .ok (.iload_n 1, 1) := by decide +kernel
theorem dk_86_1 : decode (tb_mb 86) 1 = .ok (.ifCond .lt (9), 3) := by decide +kernel
theorem dk_86_4 : decode (tb_mb 86) 4 = .ok (.iload_n 1, 1) := by decide +kernel
theorem dk_86_5 : decode (tb_mb 86) 5 = .ok (.bipush (34), 2) := by decide +kernel
theorem dk_86_7 : decode (tb_mb 86) 7 = .ok (.if_icmp .lt (13), 3) := by decide +kernel
theorem dk_86_20 : decode (tb_mb 86) 20 = .ok (.aload_n 0, 1) := by decide +kernel
theorem dk_86_21 : decode (tb_mb 86) 21 = .ok (.getfield 19, 3) := by decide +kernel
theorem f_86_21 : ∃ b, tb_fr (tb_oc 86) 19 = some (8, 1, b) := ⟨_, rfl⟩
theorem dk_86_24 : decode (tb_mb 86) 24 = .ok (.iload_n 1, 1) := by decide +kernel
theorem dk_86_25 : decode (tb_mb 86) 25 = .ok (.iload_n 2, 1) := by decide +kernel
theorem dk_86_26 : decode (tb_mb 86) 26 = .ok (.invokevirtual 81, 3) := by decide +kernel
theorem ck_86_26 : ∃ b, tb_cr (tb_oc 86) 81 = some (0, 87, b, 2) := ⟨_, rfl⟩
theorem dk_86_29 : decode (tb_mb 86) 29 = .ok (.return_, 1) := by decide +kernel
def b_86_10 (I : dI) (J : dJ) : Option (dI × dJ) := none
theorem p_86_10 {Q : Nat → Option Nat} {D : Nat} (hD : 2 ≤ D) (I : dI) (J : dJ) (R : (dI × dJ)) (h : b_86_10 I J = some R) : Rn Q D 86 10 [] [] I J (none) R.1 R.2 := by
  replace h : (none) = some R := h
  cases h
def b_86_0 (x1 : Int32) (x2 : Int32) (I : dI) (J : dJ) : Option (dI × dJ) := if x1 < 0 then (b_86_10 I J) else (if x1 < 34 then ((m_87 x1 x2 I J).bind (fun r3 => some (r3.1, r3.2))) else (b_86_10 I J))
theorem p_86_0 {Q : Nat → Option Nat} {D : Nat} (hD : 2 ≤ D) (x1 : Int32) (x2 : Int32) (I : dI) (J : dJ) (R : (dI × dJ)) (h : b_86_0 x1 x2 I J = some R) : Rn Q D 86 0 [(0, .ref 0), (1, .int x1), (2, .int x2)] [] I J (none) R.1 R.2 := by
  replace h : (if x1 < 0 then (b_86_10 I J) else (if x1 < 34 then ((m_87 x1 x2 I J).bind (fun r3 => some (r3.1, r3.2))) else (b_86_10 I J))) = some R := h
  refine Rn.pu (st' := [.int x1]) dk_86_0 L_86 rfl ?_
  by_cases c1 : x1 < 0
  · rw [if_pos c1] at h
    refine Rn.i1t (t := 10) dk_86_1 rfl (decide_eq_true c1) ?_
    exact Rn.wk [] rfl (p_86_10 hD _ _ _ h)
  · rw [if_neg c1] at h
    refine Rn.i1f (t := 10) dk_86_1 rfl (decide_eq_false c1) ?_
    refine Rn.pu (st' := [.int x1]) dk_86_4 L_86 rfl ?_
    refine Rn.bp dk_86_5 cbp_34 ?_
    by_cases c2 : x1 < 34
    · rw [if_pos c2] at h
      refine Rn.i2t (t := 20) dk_86_7 rfl (decide_eq_true c2) ?_
      refine Rn.pu (st' := [.ref 0]) dk_86_20 L_86 rfl ?_
      refine Rn.gR (r := 3) dk_86_21 f_86_21.choose_spec sk_0 rfl ?_
      refine Rn.pu (st' := [.int x1, .ref 3]) dk_86_24 L_86 rfl ?_
      refine Rn.pu (st' := [.int x2, .int x1, .ref 3]) dk_86_25 L_86 rfl ?_
      obtain ⟨r3, e4, h⟩ := bindS h
      refine Rn.cvV (p := 3) (As := [.int x1, .int x2]) (rest := []) dk_86_26 ck_86_26.choose_spec rfl sk_3 rfl (x_87 (Nat.le_trans (Nat.le_of_ble_eq_true rfl) hD) e4) ?_
      cases h
      exact Rn.rv dk_86_29 R_86
    · rw [if_neg c2] at h
      refine Rn.i2f (t := 20) dk_86_7 rfl (decide_eq_false c2) ?_
      exact Rn.wk [] rfl (p_86_10 hD _ _ _ h)
def m_86 (x1 : Int32) (x2 : Int32) (I : dI) (J : dJ) : Option (dI × dJ) := b_86_0 x1 x2 I J
theorem x_86 {Q : Nat → Option Nat} {D : Nat} (hD : 3 ≤ D) {x1 : Int32} {x2 : Int32} {I : dI} {J : dJ} {R : (dI × dJ)} (h : m_86 x1 x2 I J = some R) : Ex Q D 86 I J [.ref 0, .int x1, .int x2] (none) R.1 R.2 := by
  obtain ⟨D, rfl⟩ : ∃ D', D = D' + 1 := ⟨D - 1, by omega⟩
  exact Ex.of (by decide) (by rw [L_86]; exact Nat.le_of_ble_eq_true rfl) (show xm_sub [(0, .ref 0), (1, .int x1), (2, .int x2)] [(0, .ref 0), (1, .int x1), (2, .int x2)] from xm_sub_of [0, 1, 2] [0, 1, 2] rfl rfl (by decide)) (p_86_0 (Nat.le_of_succ_le_succ hD) _ _ _ _ _ h)
-- ConditionDesk$Machine.putCell(II)V
theorem L_89 : tb_mL 89 = 3 := by decide +kernel
theorem R_89 : tb_mr 89 = none := by decide +kernel
theorem dk_89_0 : decode (tb_mb 89) 0 = .ok (.iload_n 1, 1) := by decide +kernel
theorem dk_89_1 : decode (tb_mb 89) 1 = .ok (.ifCond .lt (23), 3) := by decide +kernel
theorem dk_89_24 : decode (tb_mb 89) 24 = .ok (.return_, 1) := by decide +kernel
theorem dk_89_4 : decode (tb_mb 89) 4 = .ok (.iload_n 1, 1) := by decide +kernel
theorem dk_89_5 : decode (tb_mb 89) 5 = .ok (.aload_n 0, 1) := by decide +kernel
theorem dk_89_6 : decode (tb_mb 89) 6 = .ok (.getfield 15, 3) := by decide +kernel
theorem f_89_6 : ∃ b, tb_fr (tb_oc 89) 15 = some (2, 1, b) := ⟨_, rfl⟩
theorem dk_89_9 : decode (tb_mb 89) 9 = .ok (.arraylength, 1) := by decide +kernel
theorem dk_89_10 : decode (tb_mb 89) 10 = .ok (.if_icmp .ge (14), 3) := by decide +kernel
theorem dk_89_13 : decode (tb_mb 89) 13 = .ok (.aload_n 0, 1) := by decide +kernel
theorem dk_89_14 : decode (tb_mb 89) 14 = .ok (.getfield 15, 3) := by decide +kernel
theorem f_89_14 : ∃ b, tb_fr (tb_oc 89) 15 = some (2, 1, b) := ⟨_, rfl⟩
theorem dk_89_17 : decode (tb_mb 89) 17 = .ok (.iload_n 1, 1) := by decide +kernel
theorem dk_89_18 : decode (tb_mb 89) 18 = .ok (.iload_n 2, 1) := by decide +kernel
theorem dk_89_19 : decode (tb_mb 89) 19 = .ok (.sipush (255), 3) := by decide +kernel
theorem dk_89_22 : decode (tb_mb 89) 22 = .ok (.iand, 1) := by decide +kernel
theorem dk_89_23 : decode (tb_mb 89) 23 = .ok (.iastore, 1) := by decide +kernel
def b_89_0 (x1 : Int32) (x2 : Int32) (I : dI) (J : dJ) : Option (dI × dJ) := if x1 < 0 then (some (I, J)) else (if (Int32.ofNat 256) ≤ x1 then (some (I, J)) else (if ¬ (x1 < 0 ∨ 256 ≤ Int32.toNatClampNeg x1) then lt_ (sI I 5 (Int32.toNatClampNeg x1) (x2 &&& 255)) (fun I4 => some (I4, J)) else none))
theorem p_89_0 {Q : Nat → Option Nat} {D : Nat} (hD : 1 ≤ D) (x1 : Int32) (x2 : Int32) (I : dI) (J : dJ) (R : (dI × dJ)) (h : b_89_0 x1 x2 I J = some R) : Rn Q D 89 0 [(0, .ref 3), (1, .int x1), (2, .int x2)] [] I J (none) R.1 R.2 := by
  replace h : (if x1 < 0 then (some (I, J)) else (if (Int32.ofNat 256) ≤ x1 then (some (I, J)) else (if ¬ (x1 < 0 ∨ 256 ≤ Int32.toNatClampNeg x1) then lt_ (sI I 5 (Int32.toNatClampNeg x1) (x2 &&& 255)) (fun I4 => some (I4, J)) else none))) = some R := h
  refine Rn.pu (st' := [.int x1]) dk_89_0 L_89 rfl ?_
  by_cases c1 : x1 < 0
  · rw [if_pos c1] at h
    refine Rn.i1t (t := 24) dk_89_1 rfl (decide_eq_true c1) ?_
    cases h
    exact Rn.rv dk_89_24 R_89
  · rw [if_neg c1] at h
    refine Rn.i1f (t := 24) dk_89_1 rfl (decide_eq_false c1) ?_
    refine Rn.pu (st' := [.int x1]) dk_89_4 L_89 rfl ?_
    refine Rn.pu (st' := [.ref 3, .int x1]) dk_89_5 L_89 rfl ?_
    refine Rn.gR (r := 5) dk_89_6 f_89_6.choose_spec sk_3 rfl ?_
    refine Rn.alen dk_89_9 sk_5 (by decide) ?_
    by_cases c2 : (Int32.ofNat 256) ≤ x1
    · rw [if_pos c2] at h
      refine Rn.i2t (t := 24) dk_89_10 rfl (decide_eq_true c2) ?_
      cases h
      exact Rn.rv dk_89_24 R_89
    · rw [if_neg c2] at h
      refine Rn.i2f (t := 24) dk_89_10 rfl (decide_eq_false c2) ?_
      refine Rn.pu (st' := [.ref 3]) dk_89_13 L_89 rfl ?_
      refine Rn.gR (r := 5) dk_89_14 f_89_14.choose_spec sk_3 rfl ?_
      refine Rn.pu (st' := [.int x1, .ref 5]) dk_89_17 L_89 rfl ?_
      refine Rn.pu (st' := [.int x2, .int x1, .ref 5]) dk_89_18 L_89 rfl ?_
      refine Rn.sp dk_89_19 csp_255 ?_
      refine Rn.pu (st' := [.int (x2 &&& 255), .int x1, .ref 5]) dk_89_22 L_89 rfl ?_
      obtain ⟨c3, h⟩ := xm_if h
      obtain ⟨I4, eI4, h⟩ := letS h
      refine Rn.iast dk_89_23 sk_5 c3 ?_
      rw [← eI4]
      cases h
      exact Rn.rv dk_89_24 R_89
def m_89 (x1 : Int32) (x2 : Int32) (I : dI) (J : dJ) : Option (dI × dJ) := b_89_0 x1 x2 I J
theorem x_89 {Q : Nat → Option Nat} {D : Nat} (hD : 2 ≤ D) {x1 : Int32} {x2 : Int32} {I : dI} {J : dJ} {R : (dI × dJ)} (h : m_89 x1 x2 I J = some R) : Ex Q D 89 I J [.ref 3, .int x1, .int x2] (none) R.1 R.2 := by
  obtain ⟨D, rfl⟩ : ∃ D', D = D' + 1 := ⟨D - 1, by omega⟩
  exact Ex.of (by decide) (by rw [L_89]; exact Nat.le_of_ble_eq_true rfl) (show xm_sub [(0, .ref 3), (1, .int x1), (2, .int x2)] [(0, .ref 3), (1, .int x1), (2, .int x2)] from xm_sub_of [0, 1, 2] [0, 1, 2] rfl rfl (by decide)) (p_89_0 (Nat.le_of_succ_le_succ hD) _ _ _ _ _ h)
-- ConditionDesk.poke(II)V
theorem L_88 : tb_mL 88 = 3 := by decide +kernel
theorem R_88 : tb_mr 88 = none := by decide +kernel
theorem dk_88_0 : decode (tb_mb 88) 0 = .ok (.iload_n 1, 1) := by decide +kernel
theorem dk_88_1 : decode (tb_mb 88) 1 = .ok (.ifCond .lt (10), 3) := by decide +kernel
theorem dk_88_4 : decode (tb_mb 88) 4 = .ok (.iload_n 1, 1) := by decide +kernel
theorem dk_88_5 : decode (tb_mb 88) 5 = .ok (.sipush (256), 3) := by decide +kernel
theorem dk_88_8 : decode (tb_mb 88) 8 = .ok (.if_icmp .lt (13), 3) := by decide +kernel
theorem dk_88_21 : decode (tb_mb 88) 21 = .ok (.aload_n 0, 1) := by decide +kernel
theorem dk_88_22 : decode (tb_mb 88) 22 = .ok (.getfield 19, 3) := by decide +kernel
theorem f_88_22 : ∃ b, tb_fr (tb_oc 88) 19 = some (8, 1, b) := ⟨_, rfl⟩
theorem dk_88_25 : decode (tb_mb 88) 25 = .ok (.iload_n 1, 1) := by decide +kernel
theorem dk_88_26 : decode (tb_mb 88) 26 = .ok (.iload_n 2, 1) := by decide +kernel
theorem dk_88_27 : decode (tb_mb 88) 27 = .ok (.invokevirtual 90, 3) := by decide +kernel
theorem ck_88_27 : ∃ b, tb_cr (tb_oc 88) 90 = some (0, 89, b, 2) := ⟨_, rfl⟩
theorem dk_88_30 : decode (tb_mb 88) 30 = .ok (.return_, 1) := by decide +kernel
def b_88_11 (I : dI) (J : dJ) : Option (dI × dJ) := none
theorem p_88_11 {Q : Nat → Option Nat} {D : Nat} (hD : 2 ≤ D) (I : dI) (J : dJ) (R : (dI × dJ)) (h : b_88_11 I J = some R) : Rn Q D 88 11 [] [] I J (none) R.1 R.2 := by
  replace h : (none) = some R := h
  cases h
def b_88_0 (x1 : Int32) (x2 : Int32) (I : dI) (J : dJ) : Option (dI × dJ) := if x1 < 0 then (b_88_11 I J) else (if x1 < 256 then ((m_89 x1 x2 I J).bind (fun r3 => some (r3.1, r3.2))) else (b_88_11 I J))
theorem p_88_0 {Q : Nat → Option Nat} {D : Nat} (hD : 2 ≤ D) (x1 : Int32) (x2 : Int32) (I : dI) (J : dJ) (R : (dI × dJ)) (h : b_88_0 x1 x2 I J = some R) : Rn Q D 88 0 [(0, .ref 0), (1, .int x1), (2, .int x2)] [] I J (none) R.1 R.2 := by
  replace h : (if x1 < 0 then (b_88_11 I J) else (if x1 < 256 then ((m_89 x1 x2 I J).bind (fun r3 => some (r3.1, r3.2))) else (b_88_11 I J))) = some R := h
  refine Rn.pu (st' := [.int x1]) dk_88_0 L_88 rfl ?_
  by_cases c1 : x1 < 0
  · rw [if_pos c1] at h
    refine Rn.i1t (t := 11) dk_88_1 rfl (decide_eq_true c1) ?_
    exact Rn.wk [] rfl (p_88_11 hD _ _ _ h)
  · rw [if_neg c1] at h
    refine Rn.i1f (t := 11) dk_88_1 rfl (decide_eq_false c1) ?_
    refine Rn.pu (st' := [.int x1]) dk_88_4 L_88 rfl ?_
    refine Rn.sp dk_88_5 csp_256 ?_
    by_cases c2 : x1 < 256
    · rw [if_pos c2] at h
      refine Rn.i2t (t := 21) dk_88_8 rfl (decide_eq_true c2) ?_
      refine Rn.pu (st' := [.ref 0]) dk_88_21 L_88 rfl ?_
      refine Rn.gR (r := 3) dk_88_22 f_88_22.choose_spec sk_0 rfl ?_
      refine Rn.pu (st' := [.int x1, .ref 3]) dk_88_25 L_88 rfl ?_
      refine Rn.pu (st' := [.int x2, .int x1, .ref 3]) dk_88_26 L_88 rfl ?_
      obtain ⟨r3, e4, h⟩ := bindS h
      refine Rn.cvV (p := 3) (As := [.int x1, .int x2]) (rest := []) dk_88_27 ck_88_27.choose_spec rfl sk_3 rfl (x_89 (Nat.le_trans (Nat.le_of_ble_eq_true rfl) hD) e4) ?_
      cases h
      exact Rn.rv dk_88_30 R_88
    · rw [if_neg c2] at h
      refine Rn.i2f (t := 21) dk_88_8 rfl (decide_eq_false c2) ?_
      exact Rn.wk [] rfl (p_88_11 hD _ _ _ h)
def m_88 (x1 : Int32) (x2 : Int32) (I : dI) (J : dJ) : Option (dI × dJ) := b_88_0 x1 x2 I J
theorem x_88 {Q : Nat → Option Nat} {D : Nat} (hD : 3 ≤ D) {x1 : Int32} {x2 : Int32} {I : dI} {J : dJ} {R : (dI × dJ)} (h : m_88 x1 x2 I J = some R) : Ex Q D 88 I J [.ref 0, .int x1, .int x2] (none) R.1 R.2 := by
  obtain ⟨D, rfl⟩ : ∃ D', D = D' + 1 := ⟨D - 1, by omega⟩
  exact Ex.of (by decide) (by rw [L_88]; exact Nat.le_of_ble_eq_true rfl) (show xm_sub [(0, .ref 0), (1, .int x1), (2, .int x2)] [(0, .ref 0), (1, .int x1), (2, .int x2)] from xm_sub_of [0, 1, 2] [0, 1, 2] rfl rfl (by decide)) (p_88_0 (Nat.le_of_succ_le_succ hD) _ _ _ _ _ h)
-- ConditionDesk.ignore(II)I
theorem L_90 : tb_mL 90 = 5 := by decide +kernel
theorem R_90 : tb_mr 90 = some .int := by decide +kernel
theorem dk_90_0 : decode (tb_mb 90) 0 = .ok (.aload_n 0, 1) := by decide +kernel
theorem dk_90_1 : decode (tb_mb 90) 1 = .ok (.iload_n 1, 1) := by decide +kernel
theorem dk_90_2 : decode (tb_mb 90) 2 = .ok (.invokevirtual 49, 3) := by decide +kernel
theorem ck_90_2 : ∃ b, tb_cr (tb_oc 90) 49 = some (0, 40, b, 1) := ⟨_, rfl⟩
theorem dk_90_5 : decode (tb_mb 90) 5 = .ok (.astore_n 3, 1) := by decide +kernel
theorem dk_90_6 : decode (tb_mb 90) 6 = .ok (.aload_n 3, 1) := by decide +kernel
theorem dk_90_7 : decode (tb_mb 90) 7 = .ok (.ifnull (14), 3) := by decide +kernel
theorem dk_90_10 : decode (tb_mb 90) 10 = .ok (.iload_n 2, 1) := by decide +kernel
theorem dk_90_11 : decode (tb_mb 90) 11 = .ok (.ifCond .lt (10), 3) := by decide +kernel
theorem dk_90_14 : decode (tb_mb 90) 14 = .ok (.iload_n 2, 1) := by decide +kernel
theorem dk_90_15 : decode (tb_mb 90) 15 = .ok (.sipush (1000), 3) := by decide +kernel
theorem dk_90_18 : decode (tb_mb 90) 18 = .ok (.if_icmp .le (13), 3) := by decide +kernel
theorem dk_90_31 : decode (tb_mb 90) 31 = .ok (.aload_n 3, 1) := by decide +kernel
theorem dk_90_32 : decode (tb_mb 90) 32 = .ok (.getfield 75, 3) := by decide +kernel
theorem f_90_32 : ∃ b, tb_fr (tb_oc 90) 75 = some (1, 1, b) := ⟨_, rfl⟩
theorem dk_90_35 : decode (tb_mb 90) 35 = .ok (.ifCond .ne (13), 3) := by decide +kernel
theorem dk_90_48 : decode (tb_mb 90) 48 = .ok (.aload_n 3, 1) := by decide +kernel
theorem dk_90_49 : decode (tb_mb 90) 49 = .ok (.getfield 100, 3) := by decide +kernel
theorem f_90_49 : ∃ b, tb_fr (tb_oc 90) 100 = some (1, 2, b) := ⟨_, rfl⟩
theorem dk_90_52 : decode (tb_mb 90) 52 = .ok (.istore 4, 2) := by decide +kernel
theorem dk_90_54 : decode (tb_mb 90) 54 = .ok (.aload_n 3, 1) := by decide +kernel
theorem dk_90_55 : decode (tb_mb 90) 55 = .ok (.iload_n 2, 1) := by decide +kernel
theorem dk_90_56 : decode (tb_mb 90) 56 = .ok (.putfield 100, 3) := by decide +kernel
theorem f_90_56 : ∃ b, tb_fr (tb_oc 90) 100 = some (1, 2, b) ∧ xm_fin tb_cl (tb_ini 90) b 1 2 = true := ⟨_, rfl, rfl⟩
theorem dk_90_59 : decode (tb_mb 90) 59 = .ok (.iload 4, 2) := by decide +kernel
theorem dk_90_61 : decode (tb_mb 90) 61 = .ok (.ireturn, 1) := by decide +kernel
def b_90_21 (I : dI) (J : dJ) : Option (Int32 × dI × dJ) := none
theorem p_90_21 {Q : Nat → Option Nat} {D : Nat} (hD : 2 ≤ D) (hQ : ∀ j, j < 8 → Q j = some (20 + 9 * j)) (I : dI) (J : dJ) (R : (Int32 × dI × dJ)) (h : b_90_21 I J = some R) : Rn Q D 90 21 [] [] I J (some (.int R.1)) R.2.1 R.2.2 := by
  replace h : (none) = some R := h
  cases h
def b_90_0 (x1 : Int32) (x2 : Int32) (I : dI) (J : dJ) : Option (Int32 × dI × dJ) := (m_40 x1 I J).bind (fun r1 => match r1 with | none => (b_90_21 I J) | some c => (if x2 < 0 then (b_90_21 I J) else (if x2 ≤ 1000 then (if ¬ (I c 1) = 0 then (lt_ (sI I c 2 x2) (fun I6 => some ((I c 2), I6, J))) else (none)) else (b_90_21 I J))))
theorem p_90_0 {Q : Nat → Option Nat} {D : Nat} (hD : 2 ≤ D) (hQ : ∀ j, j < 8 → Q j = some (20 + 9 * j)) (x1 : Int32) (x2 : Int32) (I : dI) (J : dJ) (R : (Int32 × dI × dJ)) (h : b_90_0 x1 x2 I J = some R) : Rn Q D 90 0 [(0, .ref 0), (1, .int x1), (2, .int x2)] [] I J (some (.int R.1)) R.2.1 R.2.2 := by
  replace h : ((m_40 x1 I J).bind (fun r1 => match r1 with | none => (b_90_21 I J) | some c => (if x2 < 0 then (b_90_21 I J) else (if x2 ≤ 1000 then (if ¬ (I c 1) = 0 then (lt_ (sI I c 2 x2) (fun I6 => some ((I c 2), I6, J))) else (none)) else (b_90_21 I J))))) = some R := h
  refine Rn.pu (st' := [.ref 0]) dk_90_0 L_90 rfl ?_
  refine Rn.pu (st' := [.int x1, .ref 0]) dk_90_1 L_90 rfl ?_
  obtain ⟨r1, e2, h⟩ := bindS h
  cases r1 with
  | none =>
    dsimp only at h
    refine Rn.cvA (p := 0) (As := [.int x1]) (rest := []) dk_90_2 ck_90_2.choose_spec rfl sk_0 rfl (x_40 (Nat.le_trans (Nat.le_of_ble_eq_true rfl) hD) hQ e2) ?_
    refine Rn.pu (ls' := [(3, .null), (0, .ref 0), (1, .int x1), (2, .int x2)]) (st' := []) dk_90_5 L_90 rfl ?_
    refine Rn.pu (st' := [.null]) dk_90_6 L_90 rfl ?_
    refine Rn.sw (t := 21) (st' := []) dk_90_7 (fun _ _ => rfl) rfl ?_
    exact Rn.wk [] rfl (p_90_21 hD hQ _ _ _ h)
  | some c =>
    dsimp only at h
    have okc := ok_ca e2
    refine Rn.cvA (p := 0) (As := [.int x1]) (rest := []) dk_90_2 ck_90_2.choose_spec rfl sk_0 rfl (x_40 (Nat.le_trans (Nat.le_of_ble_eq_true rfl) hD) hQ e2) ?_
    refine Rn.pu (ls' := [(3, .ref c), (0, .ref 0), (1, .int x1), (2, .int x2)]) (st' := []) dk_90_5 L_90 rfl ?_
    refine Rn.pu (st' := [.ref c]) dk_90_6 L_90 rfl ?_
    refine Rn.sf (t := 21) (st' := []) dk_90_7 (fun _ _ => rfl) rfl ?_
    refine Rn.pu (st' := [.int x2]) dk_90_10 L_90 rfl ?_
    by_cases c3 : x2 < 0
    · rw [if_pos c3] at h
      refine Rn.i1t (t := 21) dk_90_11 rfl (decide_eq_true c3) ?_
      exact Rn.wk [] rfl (p_90_21 hD hQ _ _ _ h)
    · rw [if_neg c3] at h
      refine Rn.i1f (t := 21) dk_90_11 rfl (decide_eq_false c3) ?_
      refine Rn.pu (st' := [.int x2]) dk_90_14 L_90 rfl ?_
      refine Rn.sp dk_90_15 csp_1000 ?_
      by_cases c4 : x2 ≤ 1000
      · rw [if_pos c4] at h
        refine Rn.i2t (t := 31) dk_90_18 rfl (decide_eq_true c4) ?_
        refine Rn.pu (st' := [.ref c]) dk_90_31 L_90 rfl ?_
        refine Rn.gI dk_90_32 f_90_32.choose_spec okc.1 rfl ?_
        by_cases c5 : ¬ (I c 1) = 0
        · rw [if_pos c5] at h
          refine Rn.i1t (t := 48) dk_90_35 rfl (decide_eq_true c5) ?_
          refine Rn.pu (st' := [.ref c]) dk_90_48 L_90 rfl ?_
          refine Rn.gI dk_90_49 f_90_49.choose_spec okc.1 rfl ?_
          refine Rn.pu (ls' := [(4, .int (I c 2)), (3, .ref c), (0, .ref 0), (1, .int x1), (2, .int x2)]) (st' := []) dk_90_52 L_90 rfl ?_
          refine Rn.pu (st' := [.ref c]) dk_90_54 L_90 rfl ?_
          refine Rn.pu (st' := [.int x2, .ref c]) dk_90_55 L_90 rfl ?_
          obtain ⟨I6, eI6, h⟩ := letS h
          refine Rn.pI dk_90_56 f_90_56.choose_spec.1 okc.1 rfl f_90_56.choose_spec.2 rfl rfl ?_
          rw [← eI6]
          refine Rn.pu (st' := [.int (I c 2)]) dk_90_59 L_90 rfl ?_
          cases h
          exact Rn.ri dk_90_61 R_90 rfl
        · rw [if_neg c5] at h
          refine Rn.i1f (t := 48) dk_90_35 rfl (decide_eq_false c5) ?_
          cases h
      · rw [if_neg c4] at h
        refine Rn.i2f (t := 31) dk_90_18 rfl (decide_eq_false c4) ?_
        exact Rn.wk [] rfl (p_90_21 hD hQ _ _ _ h)
def m_90 (x1 : Int32) (x2 : Int32) (I : dI) (J : dJ) : Option (Int32 × dI × dJ) := b_90_0 x1 x2 I J
theorem x_90 {Q : Nat → Option Nat} {D : Nat} (hD : 3 ≤ D) (hQ : ∀ j, j < 8 → Q j = some (20 + 9 * j)) {x1 : Int32} {x2 : Int32} {I : dI} {J : dJ} {R : (Int32 × dI × dJ)} (h : m_90 x1 x2 I J = some R) : Ex Q D 90 I J [.ref 0, .int x1, .int x2] (some (.int R.1)) R.2.1 R.2.2 := by
  obtain ⟨D, rfl⟩ : ∃ D', D = D' + 1 := ⟨D - 1, by omega⟩
  exact Ex.of (by decide) (by rw [L_90]; exact Nat.le_of_ble_eq_true rfl) (show xm_sub [(0, .ref 0), (1, .int x1), (2, .int x2)] [(0, .ref 0), (1, .int x1), (2, .int x2)] from xm_sub_of [0, 1, 2] [0, 1, 2] rfl rfl (by decide)) (p_90_0 (Nat.le_of_succ_le_succ hD) hQ _ _ _ _ _ h)
-- ConditionDesk.ask(I)I
theorem L_91 : tb_mL 91 = 4 := by decide +kernel
theorem R_91 : tb_mr 91 = some .int := by decide +kernel
theorem dk_91_0 : decode (tb_mb 91) 0 = .ok (.aload_n 0, 1) := by decide +kernel
theorem dk_91_1 : decode (tb_mb 91) 1 = .ok (.iload_n 1, 1) := by decide +kernel
theorem dk_91_2 : decode (tb_mb 91) 2 = .ok (.invokevirtual 49, 3) := by decide +kernel
theorem ck_91_2 : ∃ b, tb_cr (tb_oc 91) 49 = some (0, 40, b, 1) := ⟨_, rfl⟩
theorem dk_91_5 : decode (tb_mb 91) 5 = .ok (.astore_n 2, 1) := by decide +kernel
theorem dk_91_6 : decode (tb_mb 91) 6 = .ok (.aload_n 2, 1) := by decide +kernel
theorem dk_91_7 : decode (tb_mb 91) 7 = .ok (.ifnonnull (13), 3) := by decide +kernel
theorem dk_91_20 : decode (tb_mb 91) 20 = .ok (.aload_n 2, 1) := by decide +kernel
theorem dk_91_21 : decode (tb_mb 91) 21 = .ok (.getfield 75, 3) := by decide +kernel
theorem f_91_21 : ∃ b, tb_fr (tb_oc 91) 75 = some (1, 1, b) := ⟨_, rfl⟩
theorem dk_91_24 : decode (tb_mb 91) 24 = .ok (.ifCond .ne (13), 3) := by decide +kernel
theorem dk_91_37 : decode (tb_mb 91) 37 = .ok (.aload_n 2, 1) := by decide +kernel
theorem dk_91_38 : decode (tb_mb 91) 38 = .ok (.invokevirtual 104, 3) := by decide +kernel
theorem ck_91_38 : ∃ b, tb_cr (tb_oc 91) 104 = some (0, 13, b, 0) := ⟨_, rfl⟩
theorem dk_91_41 : decode (tb_mb 91) 41 = .ok (.istore_n 3, 1) := by decide +kernel
theorem dk_91_42 : decode (tb_mb 91) 42 = .ok (.aload_n 0, 1) := by decide +kernel
theorem dk_91_43 : decode (tb_mb 91) 43 = .ok (.dup, 1) := by decide +kernel
theorem dk_91_44 : decode (tb_mb 91) 44 = .ok (.getfield 41, 3) := by decide +kernel
theorem f_91_44 : ∃ b, tb_fr (tb_oc 91) 41 = some (8, 4, b) := ⟨_, rfl⟩
theorem dk_91_47 : decode (tb_mb 91) 47 = .ok (.aload_n 2, 1) := by decide +kernel
theorem dk_91_48 : decode (tb_mb 91) 48 = .ok (.getfield 107, 3) := by decide +kernel
theorem f_91_48 : ∃ b, tb_fr (tb_oc 91) 107 = some (1, 6, b) := ⟨_, rfl⟩
theorem dk_91_51 : decode (tb_mb 91) 51 = .ok (.ladd, 1) := by decide +kernel
theorem dk_91_52 : decode (tb_mb 91) 52 = .ok (.putfield 41, 3) := by decide +kernel
theorem f_91_52 : ∃ b, tb_fr (tb_oc 91) 41 = some (8, 4, b) ∧ xm_fin tb_cl (tb_ini 91) b 8 4 = true := ⟨_, rfl, rfl⟩
theorem dk_91_55 : decode (tb_mb 91) 55 = .ok (.iload_n 3, 1) := by decide +kernel
theorem dk_91_56 : decode (tb_mb 91) 56 = .ok (.ireturn, 1) := by decide +kernel
def b_91_0 (x1 : Int32) (I : dI) (J : dJ) : Option (Int32 × dI × dJ) := (m_40 x1 I J).bind (fun r1 => match r1 with | none => (none) | some c => (if ¬ (I c 1) = 0 then ((m_13 c I J).bind (fun r4 => lt_ (sJ r4.2.2 0 4 ((r4.2.2 0 4) + (r4.2.2 c 6))) (fun J6 => some (r4.1, r4.2.1, J6)))) else (none)))
theorem p_91_0 {Q : Nat → Option Nat} {D : Nat} (hD : 128 ≤ D) (hQ : ∀ j, j < 8 → Q j = some (20 + 9 * j)) (x1 : Int32) (I : dI) (J : dJ) (R : (Int32 × dI × dJ)) (h : b_91_0 x1 I J = some R) : Rn Q D 91 0 [(0, .ref 0), (1, .int x1)] [] I J (some (.int R.1)) R.2.1 R.2.2 := by
  replace h : ((m_40 x1 I J).bind (fun r1 => match r1 with | none => (none) | some c => (if ¬ (I c 1) = 0 then ((m_13 c I J).bind (fun r4 => lt_ (sJ r4.2.2 0 4 ((r4.2.2 0 4) + (r4.2.2 c 6))) (fun J6 => some (r4.1, r4.2.1, J6)))) else (none)))) = some R := h
  refine Rn.pu (st' := [.ref 0]) dk_91_0 L_91 rfl ?_
  refine Rn.pu (st' := [.int x1, .ref 0]) dk_91_1 L_91 rfl ?_
  obtain ⟨r1, e2, h⟩ := bindS h
  cases r1 with
  | none =>
    dsimp only at h
    refine Rn.cvA (p := 0) (As := [.int x1]) (rest := []) dk_91_2 ck_91_2.choose_spec rfl sk_0 rfl (x_40 (Nat.le_trans (Nat.le_of_ble_eq_true rfl) hD) hQ e2) ?_
    refine Rn.pu (ls' := [(2, .null), (0, .ref 0), (1, .int x1)]) (st' := []) dk_91_5 L_91 rfl ?_
    refine Rn.pu (st' := [.null]) dk_91_6 L_91 rfl ?_
    refine Rn.sf (t := 20) (st' := []) dk_91_7 (fun _ _ => rfl) rfl ?_
    cases h
  | some c =>
    dsimp only at h
    have okc := ok_ca e2
    refine Rn.cvA (p := 0) (As := [.int x1]) (rest := []) dk_91_2 ck_91_2.choose_spec rfl sk_0 rfl (x_40 (Nat.le_trans (Nat.le_of_ble_eq_true rfl) hD) hQ e2) ?_
    refine Rn.pu (ls' := [(2, .ref c), (0, .ref 0), (1, .int x1)]) (st' := []) dk_91_5 L_91 rfl ?_
    refine Rn.pu (st' := [.ref c]) dk_91_6 L_91 rfl ?_
    refine Rn.sw (t := 20) (st' := []) dk_91_7 (fun _ _ => rfl) rfl ?_
    refine Rn.pu (st' := [.ref c]) dk_91_20 L_91 rfl ?_
    refine Rn.gI dk_91_21 f_91_21.choose_spec okc.1 rfl ?_
    by_cases c3 : ¬ (I c 1) = 0
    · rw [if_pos c3] at h
      refine Rn.i1t (t := 37) dk_91_24 rfl (decide_eq_true c3) ?_
      refine Rn.pu (st' := [.ref c]) dk_91_37 L_91 rfl ?_
      obtain ⟨r4, e5, h⟩ := bindS h
      refine Rn.cvI (p := c) (As := []) (rest := []) dk_91_38 ck_91_38.choose_spec rfl okc.1 rfl (x_13 (Nat.le_trans (Nat.le_of_ble_eq_true rfl) hD) okc e5) ?_
      refine Rn.pu (ls' := [(3, .int r4.1), (2, .ref c), (0, .ref 0), (1, .int x1)]) (st' := []) dk_91_41 L_91 rfl ?_
      refine Rn.pu (st' := [.ref 0]) dk_91_42 L_91 rfl ?_
      refine Rn.pu (st' := [.ref 0, .ref 0]) dk_91_43 L_91 rfl ?_
      refine Rn.gJ dk_91_44 f_91_44.choose_spec sk_0 rfl ?_
      refine Rn.pu (st' := [.ref c, .long (r4.2.2 0 4), .ref 0]) dk_91_47 L_91 rfl ?_
      refine Rn.gJ dk_91_48 f_91_48.choose_spec okc.1 rfl ?_
      refine Rn.pu (st' := [.long ((r4.2.2 0 4) + (r4.2.2 c 6)), .ref 0]) dk_91_51 L_91 rfl ?_
      obtain ⟨J6, eJ6, h⟩ := letS h
      refine Rn.pJ dk_91_52 f_91_52.choose_spec.1 sk_0 rfl f_91_52.choose_spec.2 rfl rfl ?_
      rw [← eJ6]
      refine Rn.pu (st' := [.int r4.1]) dk_91_55 L_91 rfl ?_
      cases h
      exact Rn.ri dk_91_56 R_91 rfl
    · rw [if_neg c3] at h
      refine Rn.i1f (t := 37) dk_91_24 rfl (decide_eq_false c3) ?_
      cases h
def m_91 (x1 : Int32) (I : dI) (J : dJ) : Option (Int32 × dI × dJ) := b_91_0 x1 I J
theorem x_91 {Q : Nat → Option Nat} {D : Nat} (hD : 129 ≤ D) (hQ : ∀ j, j < 8 → Q j = some (20 + 9 * j)) {x1 : Int32} {I : dI} {J : dJ} {R : (Int32 × dI × dJ)} (h : m_91 x1 I J = some R) : Ex Q D 91 I J [.ref 0, .int x1] (some (.int R.1)) R.2.1 R.2.2 := by
  obtain ⟨D, rfl⟩ : ∃ D', D = D' + 1 := ⟨D - 1, by omega⟩
  exact Ex.of (by decide) (by rw [L_91]; exact Nat.le_of_ble_eq_true rfl) (show xm_sub [(0, .ref 0), (1, .int x1)] [(0, .ref 0), (1, .int x1)] from xm_sub_of [0, 1] [0, 1] rfl rfl (by decide)) (p_91_0 (Nat.le_of_succ_le_succ hD) hQ _ _ _ _ h)
-- ConditionDesk$Condition.tell(I)J
theorem L_93 : tb_mL 93 = 2 := by decide +kernel
theorem R_93 : tb_mr 93 = some .long := by decide +kernel
theorem dk_93_0 : decode (tb_mb 93) 0 = .ok (.iload_n 1, 1) := by decide +kernel
theorem dk_93_1 : decode (tb_mb 93) 1 = .ok (.tableswitch (68) 0 4 #[35, 40, 45, 51, 56], 35) := by decide +kernel
theorem dk_93_36 : decode (tb_mb 93) 36 = .ok (.aload_n 0, 1) := by decide +kernel
theorem dk_93_37 : decode (tb_mb 93) 37 = .ok (.getfield 17, 3) := by decide +kernel
theorem f_93_37 : ∃ b, tb_fr (tb_oc 93) 17 = some (1, 3, b) := ⟨_, rfl⟩
theorem dk_93_40 : decode (tb_mb 93) 40 = .ok (.lreturn, 1) := by decide +kernel
theorem dk_93_41 : decode (tb_mb 93) 41 = .ok (.aload_n 0, 1) := by decide +kernel
theorem dk_93_42 : decode (tb_mb 93) 42 = .ok (.getfield 21, 3) := by decide +kernel
theorem f_93_42 : ∃ b, tb_fr (tb_oc 93) 21 = some (1, 4, b) := ⟨_, rfl⟩
theorem dk_93_45 : decode (tb_mb 93) 45 = .ok (.lreturn, 1) := by decide +kernel
theorem dk_93_46 : decode (tb_mb 93) 46 = .ok (.aload_n 0, 1) := by decide +kernel
theorem dk_93_47 : decode (tb_mb 93) 47 = .ok (.getfield 13, 3) := by decide +kernel
theorem f_93_47 : ∃ b, tb_fr (tb_oc 93) 13 = some (1, 2, b) := ⟨_, rfl⟩
theorem dk_93_50 : decode (tb_mb 93) 50 = .ok (.i2l, 1) := by decide +kernel
theorem dk_93_51 : decode (tb_mb 93) 51 = .ok (.lreturn, 1) := by decide +kernel
theorem dk_93_52 : decode (tb_mb 93) 52 = .ok (.aload_n 0, 1) := by decide +kernel
theorem dk_93_53 : decode (tb_mb 93) 53 = .ok (.getfield 27, 3) := by decide +kernel
theorem f_93_53 : ∃ b, tb_fr (tb_oc 93) 27 = some (1, 6, b) := ⟨_, rfl⟩
theorem dk_93_56 : decode (tb_mb 93) 56 = .ok (.lreturn, 1) := by decide +kernel
theorem dk_93_57 : decode (tb_mb 93) 57 = .ok (.aload_n 0, 1) := by decide +kernel
theorem dk_93_58 : decode (tb_mb 93) 58 = .ok (.getfield 35, 3) := by decide +kernel
theorem f_93_58 : ∃ b, tb_fr (tb_oc 93) 35 = some (1, 0, b) := ⟨_, rfl⟩
theorem dk_93_61 : decode (tb_mb 93) 61 = .ok (.getfield 52, 3) := by decide +kernel
theorem f_93_61 : ∃ b, tb_fr (tb_oc 93) 52 = some (7, 1, b) := ⟨_, rfl⟩
theorem dk_93_64 : decode (tb_mb 93) 64 = .ok (.getfield 56, 3) := by decide +kernel
theorem f_93_64 : ∃ b, tb_fr (tb_oc 93) 56 = some (4, 5, b) := ⟨_, rfl⟩
theorem dk_93_67 : decode (tb_mb 93) 67 = .ok (.i2l, 1) := by decide +kernel
theorem dk_93_68 : decode (tb_mb 93) 68 = .ok (.lreturn, 1) := by decide +kernel
theorem dk_93_69 : decode (tb_mb 93) 69 = .ok (.aload_n 0, 1) := by decide +kernel
theorem dk_93_70 : decode (tb_mb 93) 70 = .ok (.getfield 24, 3) := by decide +kernel
theorem f_93_70 : ∃ b, tb_fr (tb_oc 93) 24 = some (1, 5, b) := ⟨_, rfl⟩
theorem dk_93_73 : decode (tb_mb 93) 73 = .ok (.lreturn, 1) := by decide +kernel
def b_93_0 (p : Nat) (x1 : Int32) (I : dI) (J : dJ) : Option Int64 := if x1 = 0 then (some (J p 3)) else if x1 = 1 then (some (J p 4)) else if x1 = 2 then (some (Int32.toInt64 (I p 2))) else if x1 = 3 then (some (J p 6)) else if x1 = 4 then (some (Int32.toInt64 (I (p + 2) 5))) else (some (J p 5))
theorem p_93_0 {Q : Nat → Option Nat} {D : Nat} {p : Nat} (hD : 1 ≤ D) (okp : okC p) (x1 : Int32) (I : dI) (J : dJ) (R : Int64) (h : b_93_0 p x1 I J = some R) : Rn Q D 93 0 [(0, .ref p), (1, .int x1)] [] I J (some (.long R)) I J := by
  replace h : (if x1 = 0 then (some (J p 3)) else if x1 = 1 then (some (J p 4)) else if x1 = 2 then (some (Int32.toInt64 (I p 2))) else if x1 = 3 then (some (J p 6)) else if x1 = 4 then (some (Int32.toInt64 (I (p + 2) 5))) else (some (J p 5))) = some R := h
  refine Rn.pu (st' := [.int x1]) dk_93_0 L_93 rfl ?_
  by_cases c1 : x1 = 0
  · rw [if_pos c1] at h
    refine Rn.sw (t := 36) (st' := []) dk_93_1 (fun _ _ => rfl) (by rw [c1]; rfl) ?_
    refine Rn.pu (st' := [.ref p]) dk_93_36 L_93 rfl ?_
    refine Rn.gJ dk_93_37 f_93_37.choose_spec okp.1 rfl ?_
    cases h
    exact Rn.rl dk_93_40 R_93
  · rw [if_neg c1] at h
    by_cases c2 : x1 = 1
    · rw [if_pos c2] at h
      refine Rn.sw (t := 41) (st' := []) dk_93_1 (fun _ _ => rfl) (by rw [c2]; rfl) ?_
      refine Rn.pu (st' := [.ref p]) dk_93_41 L_93 rfl ?_
      refine Rn.gJ dk_93_42 f_93_42.choose_spec okp.1 rfl ?_
      cases h
      exact Rn.rl dk_93_45 R_93
    · rw [if_neg c2] at h
      by_cases c3 : x1 = 2
      · rw [if_pos c3] at h
        refine Rn.sw (t := 46) (st' := []) dk_93_1 (fun _ _ => rfl) (by rw [c3]; rfl) ?_
        refine Rn.pu (st' := [.ref p]) dk_93_46 L_93 rfl ?_
        refine Rn.gI dk_93_47 f_93_47.choose_spec okp.1 rfl ?_
        refine Rn.pu (st' := [.long (Int32.toInt64 (I p 2))]) dk_93_50 L_93 rfl ?_
        cases h
        exact Rn.rl dk_93_51 R_93
      · rw [if_neg c3] at h
        by_cases c4 : x1 = 3
        · rw [if_pos c4] at h
          refine Rn.sw (t := 52) (st' := []) dk_93_1 (fun _ _ => rfl) (by rw [c4]; rfl) ?_
          refine Rn.pu (st' := [.ref p]) dk_93_52 L_93 rfl ?_
          refine Rn.gJ dk_93_53 f_93_53.choose_spec okp.1 rfl ?_
          cases h
          exact Rn.rl dk_93_56 R_93
        · rw [if_neg c4] at h
          by_cases c5 : x1 = 4
          · rw [if_pos c5] at h
            refine Rn.sw (t := 57) (st' := []) dk_93_1 (fun _ _ => rfl) (by rw [c5]; rfl) ?_
            refine Rn.pu (st' := [.ref p]) dk_93_57 L_93 rfl ?_
            refine Rn.gR (r := (p + 1)) dk_93_58 f_93_58.choose_spec okp.1 rfl ?_
            refine Rn.gR (r := (p + 2)) dk_93_61 f_93_61.choose_spec okp.2.1 rfl ?_
            refine Rn.gI dk_93_64 f_93_64.choose_spec okp.2.2.1.1 rfl ?_
            refine Rn.pu (st' := [.long (Int32.toInt64 (I (p + 2) 5))]) dk_93_67 L_93 rfl ?_
            cases h
            exact Rn.rl dk_93_68 R_93
          · rw [if_neg c5] at h
            have q0 : xm_br (.tableswitch (68) 0 4 #[35, 40, 45, 51, 56]) 35 1 (.int x1 :: []) = some (true, 69, []) := by
              have q1 := i_ne c1 (z := 0) rfl
              have q2 := i_ne c2 (z := 1) rfl
              have q3 := i_ne c3 (z := 2) rfl
              have q4 := i_ne c4 (z := 3) rfl
              have q5 := i_ne c5 (z := 4) rfl
              exact ts_def (by omega) rfl
            refine Rn.sw dk_93_1 (fun _ _ => rfl) q0 ?_
            refine Rn.pu (st' := [.ref p]) dk_93_69 L_93 rfl ?_
            refine Rn.gJ dk_93_70 f_93_70.choose_spec okp.1 rfl ?_
            cases h
            exact Rn.rl dk_93_73 R_93
def m_93 (p : Nat) (x1 : Int32) (I : dI) (J : dJ) : Option Int64 := b_93_0 p x1 I J
theorem x_93 {Q : Nat → Option Nat} {D : Nat} {p : Nat} (hD : 2 ≤ D) (okp : okC p) {x1 : Int32} {I : dI} {J : dJ} {R : Int64} (h : m_93 p x1 I J = some R) : Ex Q D 93 I J [.ref p, .int x1] (some (.long R)) I J := by
  obtain ⟨D, rfl⟩ : ∃ D', D = D' + 1 := ⟨D - 1, by omega⟩
  exact Ex.of (by decide) (by rw [L_93]; exact Nat.le_of_ble_eq_true rfl) (show xm_sub [(0, .ref p), (1, .int x1)] [(0, .ref p), (1, .int x1)] from xm_sub_of [0, 1] [0, 1] rfl rfl (by decide)) (p_93_0 (Nat.le_of_succ_le_succ hD) okp _ _ _ _ h)
