/-! Printed by wip/whole/gen_dec.py: methods read back. -/
-- ConditionDeskModel.begin(II)V
theorem L_121 : tb_mL 121 = 3 := by decide +kernel
theorem R_121 : tb_mr 121 = none := by decide +kernel
theorem dk_121_0 : decode (tb_mb 121) 0 = .ok (.aload_n 0, 1) := by decide +kernel
theorem dk_121_1 : decode (tb_mb 121) 1 = .ok (.getfield 76, 3) := by decide +kernel
theorem f_121_1 : ∃ b, tb_fr (tb_oc 121) 76 = some (9, 36, b) := ⟨_, rfl⟩
theorem dk_121_4 : decode (tb_mb 121) 4 = .ok (.aload_n 0, 1) := by decide +kernel
theorem dk_121_5 : decode (tb_mb 121) 5 = .ok (.getfield 206, 3) := by decide +kernel
theorem f_121_5 : ∃ b, tb_fr (tb_oc 121) 206 = some (9, 32, b) := ⟨_, rfl⟩
theorem dk_121_8 : decode (tb_mb 121) 8 = .ok (.iload_n 1, 1) := by decide +kernel
theorem dk_121_9 : decode (tb_mb 121) 9 = .ok (.iastore, 1) := by decide +kernel
theorem dk_121_10 : decode (tb_mb 121) 10 = .ok (.aload_n 0, 1) := by decide +kernel
theorem dk_121_11 : decode (tb_mb 121) 11 = .ok (.getfield 79, 3) := by decide +kernel
theorem f_121_11 : ∃ b, tb_fr (tb_oc 121) 79 = some (9, 37, b) := ⟨_, rfl⟩
theorem dk_121_14 : decode (tb_mb 121) 14 = .ok (.aload_n 0, 1) := by decide +kernel
theorem dk_121_15 : decode (tb_mb 121) 15 = .ok (.getfield 206, 3) := by decide +kernel
theorem f_121_15 : ∃ b, tb_fr (tb_oc 121) 206 = some (9, 32, b) := ⟨_, rfl⟩
theorem dk_121_18 : decode (tb_mb 121) 18 = .ok (.iload_n 2, 1) := by decide +kernel
theorem dk_121_19 : decode (tb_mb 121) 19 = .ok (.iastore, 1) := by decide +kernel
theorem dk_121_20 : decode (tb_mb 121) 20 = .ok (.aload_n 0, 1) := by decide +kernel
theorem dk_121_21 : decode (tb_mb 121) 21 = .ok (.getfield 85, 3) := by decide +kernel
theorem f_121_21 : ∃ b, tb_fr (tb_oc 121) 85 = some (9, 39, b) := ⟨_, rfl⟩
theorem dk_121_24 : decode (tb_mb 121) 24 = .ok (.aload_n 0, 1) := by decide +kernel
theorem dk_121_25 : decode (tb_mb 121) 25 = .ok (.getfield 206, 3) := by decide +kernel
theorem f_121_25 : ∃ b, tb_fr (tb_oc 121) 206 = some (9, 32, b) := ⟨_, rfl⟩
theorem dk_121_28 : decode (tb_mb 121) 28 = .ok (.iconst (0), 1) := by decide +kernel
theorem dk_121_29 : decode (tb_mb 121) 29 = .ok (.iastore, 1) := by decide +kernel
theorem dk_121_30 : decode (tb_mb 121) 30 = .ok (.aload_n 0, 1) := by decide +kernel
theorem dk_121_31 : decode (tb_mb 121) 31 = .ok (.dup, 1) := by decide +kernel
theorem dk_121_32 : decode (tb_mb 121) 32 = .ok (.getfield 206, 3) := by decide +kernel
theorem f_121_32 : ∃ b, tb_fr (tb_oc 121) 206 = some (9, 32, b) := ⟨_, rfl⟩
theorem dk_121_35 : decode (tb_mb 121) 35 = .ok (.iconst (1), 1) := by decide +kernel
theorem dk_121_36 : decode (tb_mb 121) 36 = .ok (.iadd, 1) := by decide +kernel
theorem dk_121_37 : decode (tb_mb 121) 37 = .ok (.putfield 206, 3) := by decide +kernel
theorem f_121_37 : ∃ b, tb_fr (tb_oc 121) 206 = some (9, 32, b) ∧ xm_fin tb_cl (tb_ini 121) b 9 32 = true := ⟨_, rfl, rfl⟩
theorem dk_121_40 : decode (tb_mb 121) 40 = .ok (.return_, 1) := by decide +kernel
def b_121_0 (x1 : Int32) (x2 : Int32) (I : dI) (J : dJ) : Option (dI × dJ) := if ¬ ((I 92 32) < 0 ∨ 130 ≤ Int32.toNatClampNeg (I 92 32)) then lt_ (sI I 114 (Int32.toNatClampNeg (I 92 32)) x1) (fun I2 => if ¬ ((I2 92 32) < 0 ∨ 130 ≤ Int32.toNatClampNeg (I2 92 32)) then lt_ (sI I2 115 (Int32.toNatClampNeg (I2 92 32)) x2) (fun I4 => if ¬ ((I4 92 32) < 0 ∨ 130 ≤ Int32.toNatClampNeg (I4 92 32)) then lt_ (sI I4 117 (Int32.toNatClampNeg (I4 92 32)) 0) (fun I6 => lt_ (sI I6 92 32 ((I6 92 32) + 1)) (fun I7 => some (I7, J))) else none) else none) else none
theorem p_121_0 {Q : Nat → Option Nat} {D : Nat} (hD : 1 ≤ D) (x1 : Int32) (x2 : Int32) (I : dI) (J : dJ) (R : (dI × dJ)) (h : b_121_0 x1 x2 I J = some R) : Rn Q D 121 0 [(0, .ref 92), (1, .int x1), (2, .int x2)] [] I J (none) R.1 R.2 := by
  replace h : (if ¬ ((I 92 32) < 0 ∨ 130 ≤ Int32.toNatClampNeg (I 92 32)) then lt_ (sI I 114 (Int32.toNatClampNeg (I 92 32)) x1) (fun I2 => if ¬ ((I2 92 32) < 0 ∨ 130 ≤ Int32.toNatClampNeg (I2 92 32)) then lt_ (sI I2 115 (Int32.toNatClampNeg (I2 92 32)) x2) (fun I4 => if ¬ ((I4 92 32) < 0 ∨ 130 ≤ Int32.toNatClampNeg (I4 92 32)) then lt_ (sI I4 117 (Int32.toNatClampNeg (I4 92 32)) 0) (fun I6 => lt_ (sI I6 92 32 ((I6 92 32) + 1)) (fun I7 => some (I7, J))) else none) else none) else none) = some R := h
  refine Rn.pu (st' := [.ref 92]) dk_121_0 L_121 rfl ?_
  refine Rn.gR (r := 114) dk_121_1 f_121_1.choose_spec sk_92 rfl ?_
  refine Rn.pu (st' := [.ref 92, .ref 114]) dk_121_4 L_121 rfl ?_
  refine Rn.gI dk_121_5 f_121_5.choose_spec sk_92 rfl ?_
  refine Rn.pu (st' := [.int x1, .int (I 92 32), .ref 114]) dk_121_8 L_121 rfl ?_
  obtain ⟨c1, h⟩ := xm_if h
  obtain ⟨I2, eI2, h⟩ := letS h
  refine Rn.iast dk_121_9 sk_114 c1 ?_
  rw [← eI2]
  refine Rn.pu (st' := [.ref 92]) dk_121_10 L_121 rfl ?_
  refine Rn.gR (r := 115) dk_121_11 f_121_11.choose_spec sk_92 rfl ?_
  refine Rn.pu (st' := [.ref 92, .ref 115]) dk_121_14 L_121 rfl ?_
  refine Rn.gI dk_121_15 f_121_15.choose_spec sk_92 rfl ?_
  refine Rn.pu (st' := [.int x2, .int (I2 92 32), .ref 115]) dk_121_18 L_121 rfl ?_
  obtain ⟨c3, h⟩ := xm_if h
  obtain ⟨I4, eI4, h⟩ := letS h
  refine Rn.iast dk_121_19 sk_115 c3 ?_
  rw [← eI4]
  refine Rn.pu (st' := [.ref 92]) dk_121_20 L_121 rfl ?_
  refine Rn.gR (r := 117) dk_121_21 f_121_21.choose_spec sk_92 rfl ?_
  refine Rn.pu (st' := [.ref 92, .ref 117]) dk_121_24 L_121 rfl ?_
  refine Rn.gI dk_121_25 f_121_25.choose_spec sk_92 rfl ?_
  refine Rn.ic dk_121_28 cic_0 ?_
  obtain ⟨c5, h⟩ := xm_if h
  obtain ⟨I6, eI6, h⟩ := letS h
  refine Rn.iast dk_121_29 sk_117 c5 ?_
  rw [← eI6]
  refine Rn.pu (st' := [.ref 92]) dk_121_30 L_121 rfl ?_
  refine Rn.pu (st' := [.ref 92, .ref 92]) dk_121_31 L_121 rfl ?_
  refine Rn.gI dk_121_32 f_121_32.choose_spec sk_92 rfl ?_
  refine Rn.ic dk_121_35 cic_1 ?_
  refine Rn.pu (st' := [.int ((I6 92 32) + 1), .ref 92]) dk_121_36 L_121 rfl ?_
  obtain ⟨I7, eI7, h⟩ := letS h
  refine Rn.pI dk_121_37 f_121_37.choose_spec.1 sk_92 rfl f_121_37.choose_spec.2 rfl rfl ?_
  rw [← eI7]
  cases h
  exact Rn.rv dk_121_40 R_121
def m_121 (x1 : Int32) (x2 : Int32) (I : dI) (J : dJ) : Option (dI × dJ) := b_121_0 x1 x2 I J
theorem x_121 {Q : Nat → Option Nat} {D : Nat} (hD : 2 ≤ D) {x1 : Int32} {x2 : Int32} {I : dI} {J : dJ} {R : (dI × dJ)} (h : m_121 x1 x2 I J = some R) : Ex Q D 121 I J [.ref 92, .int x1, .int x2] (none) R.1 R.2 := by
  obtain ⟨D, rfl⟩ : ∃ D', D = D' + 1 := ⟨D - 1, by omega⟩
  exact Ex.of (by decide) (by rw [L_121]; exact Nat.le_of_ble_eq_true rfl) (show xm_sub [(0, .ref 92), (1, .int x1), (2, .int x2)] [(0, .ref 92), (1, .int x1), (2, .int x2)] from xm_sub_of [0, 1, 2] [0, 1, 2] rfl rfl (by decide)) (p_121_0 (Nat.le_of_succ_le_succ hD) _ _ _ _ _ h)
-- ConditionDeskModel.rank(I)I
theorem L_124 : tb_mL 124 = 1 := by decide +kernel
theorem R_124 : tb_mr 124 = some .int := by decide +kernel
theorem dk_124_0 : decode (tb_mb 124) 0 = .ok (.iload_n 0, 1) := by decide +kernel
theorem dk_124_1 : decode (tb_mb 124) 1 = .ok (.bipush (10), 2) := by decide +kernel
theorem dk_124_3 : decode (tb_mb 124) 3 = .ok (.if_icmp .ne (7), 3) := by decide +kernel
theorem dk_124_10 : decode (tb_mb 124) 10 = .ok (.iload_n 0, 1) := by decide +kernel
theorem dk_124_11 : decode (tb_mb 124) 11 = .ok (.bipush (11), 2) := by decide +kernel
theorem dk_124_13 : decode (tb_mb 124) 13 = .ok (.if_icmp .ne (7), 3) := by decide +kernel
theorem dk_124_20 : decode (tb_mb 124) 20 = .ok (.iload_n 0, 1) := by decide +kernel
theorem dk_124_21 : decode (tb_mb 124) 21 = .ok (.bipush (18), 2) := by decide +kernel
theorem dk_124_23 : decode (tb_mb 124) 23 = .ok (.if_icmp .ge (7), 3) := by decide +kernel
theorem dk_124_30 : decode (tb_mb 124) 30 = .ok (.iload_n 0, 1) := by decide +kernel
theorem dk_124_31 : decode (tb_mb 124) 31 = .ok (.bipush (18), 2) := by decide +kernel
theorem dk_124_33 : decode (tb_mb 124) 33 = .ok (.if_icmp .ne (7), 3) := by decide +kernel
theorem dk_124_40 : decode (tb_mb 124) 40 = .ok (.iload_n 0, 1) := by decide +kernel
theorem dk_124_41 : decode (tb_mb 124) 41 = .ok (.bipush (19), 2) := by decide +kernel
theorem dk_124_43 : decode (tb_mb 124) 43 = .ok (.if_icmp .ne (7), 3) := by decide +kernel
theorem dk_124_50 : decode (tb_mb 124) 50 = .ok (.iload_n 0, 1) := by decide +kernel
theorem dk_124_51 : decode (tb_mb 124) 51 = .ok (.bipush (20), 2) := by decide +kernel
theorem dk_124_53 : decode (tb_mb 124) 53 = .ok (.if_icmp .ne (7), 3) := by decide +kernel
theorem dk_124_60 : decode (tb_mb 124) 60 = .ok (.iload_n 0, 1) := by decide +kernel
theorem dk_124_61 : decode (tb_mb 124) 61 = .ok (.bipush (23), 2) := by decide +kernel
theorem dk_124_63 : decode (tb_mb 124) 63 = .ok (.if_icmp .ge (8), 3) := by decide +kernel
theorem dk_124_71 : decode (tb_mb 124) 71 = .ok (.iload_n 0, 1) := by decide +kernel
theorem dk_124_72 : decode (tb_mb 124) 72 = .ok (.bipush (25), 2) := by decide +kernel
theorem dk_124_74 : decode (tb_mb 124) 74 = .ok (.if_icmp .ge (8), 3) := by decide +kernel
theorem dk_124_82 : decode (tb_mb 124) 82 = .ok (.bipush (8), 2) := by decide +kernel
theorem dk_124_84 : decode (tb_mb 124) 84 = .ok (.ireturn, 1) := by decide +kernel
theorem dk_124_77 : decode (tb_mb 124) 77 = .ok (.bipush (7), 2) := by decide +kernel
theorem dk_124_79 : decode (tb_mb 124) 79 = .ok (.goto (5), 3) := by decide +kernel
theorem dk_124_66 : decode (tb_mb 124) 66 = .ok (.bipush (6), 2) := by decide +kernel
theorem dk_124_68 : decode (tb_mb 124) 68 = .ok (.goto (16), 3) := by decide +kernel
theorem dk_124_56 : decode (tb_mb 124) 56 = .ok (.iconst (5), 1) := by decide +kernel
theorem dk_124_57 : decode (tb_mb 124) 57 = .ok (.goto (27), 3) := by decide +kernel
theorem dk_124_46 : decode (tb_mb 124) 46 = .ok (.iconst (4), 1) := by decide +kernel
theorem dk_124_47 : decode (tb_mb 124) 47 = .ok (.goto (37), 3) := by decide +kernel
theorem dk_124_36 : decode (tb_mb 124) 36 = .ok (.iconst (3), 1) := by decide +kernel
theorem dk_124_37 : decode (tb_mb 124) 37 = .ok (.goto (47), 3) := by decide +kernel
theorem dk_124_26 : decode (tb_mb 124) 26 = .ok (.iconst (2), 1) := by decide +kernel
theorem dk_124_27 : decode (tb_mb 124) 27 = .ok (.goto (57), 3) := by decide +kernel
theorem dk_124_16 : decode (tb_mb 124) 16 = .ok (.iconst (1), 1) := by decide +kernel
theorem dk_124_17 : decode (tb_mb 124) 17 = .ok (.goto (67), 3) := by decide +kernel
theorem dk_124_6 : decode (tb_mb 124) 6 = .ok (.iconst (0), 1) := by decide +kernel
theorem dk_124_7 : decode (tb_mb 124) 7 = .ok (.goto (77), 3) := by decide +kernel
def b_124_0 (x0 : Int32) (I : dI) (J : dJ) : Option Int32 := if ¬ x0 = 10 then (if ¬ x0 = 11 then (if 18 ≤ x0 then (if ¬ x0 = 18 then (if ¬ x0 = 19 then (if ¬ x0 = 20 then (if 23 ≤ x0 then (if 25 ≤ x0 then (some 8) else (some 7)) else (some 6)) else (some 5)) else (some 4)) else (some 3)) else (some 2)) else (some 1)) else (some 0)
theorem p_124_0 {Q : Nat → Option Nat} {D : Nat} (hD : 1 ≤ D) (x0 : Int32) (I : dI) (J : dJ) (R : Int32) (h : b_124_0 x0 I J = some R) : Rn Q D 124 0 [(0, .int x0)] [] I J (some (.int R)) I J := by
  replace h : (if ¬ x0 = 10 then (if ¬ x0 = 11 then (if 18 ≤ x0 then (if ¬ x0 = 18 then (if ¬ x0 = 19 then (if ¬ x0 = 20 then (if 23 ≤ x0 then (if 25 ≤ x0 then (some 8) else (some 7)) else (some 6)) else (some 5)) else (some 4)) else (some 3)) else (some 2)) else (some 1)) else (some 0)) = some R := h
  refine Rn.pu (st' := [.int x0]) dk_124_0 L_124 rfl ?_
  refine Rn.bp dk_124_1 cbp_10 ?_
  by_cases c1 : ¬ x0 = 10
  · rw [if_pos c1] at h
    refine Rn.i2t (t := 10) dk_124_3 rfl (decide_eq_true c1) ?_
    refine Rn.pu (st' := [.int x0]) dk_124_10 L_124 rfl ?_
    refine Rn.bp dk_124_11 cbp_11 ?_
    by_cases c2 : ¬ x0 = 11
    · rw [if_pos c2] at h
      refine Rn.i2t (t := 20) dk_124_13 rfl (decide_eq_true c2) ?_
      refine Rn.pu (st' := [.int x0]) dk_124_20 L_124 rfl ?_
      refine Rn.bp dk_124_21 cbp_18 ?_
      by_cases c3 : 18 ≤ x0
      · rw [if_pos c3] at h
        refine Rn.i2t (t := 30) dk_124_23 rfl (decide_eq_true c3) ?_
        refine Rn.pu (st' := [.int x0]) dk_124_30 L_124 rfl ?_
        refine Rn.bp dk_124_31 cbp_18 ?_
        by_cases c4 : ¬ x0 = 18
        · rw [if_pos c4] at h
          refine Rn.i2t (t := 40) dk_124_33 rfl (decide_eq_true c4) ?_
          refine Rn.pu (st' := [.int x0]) dk_124_40 L_124 rfl ?_
          refine Rn.bp dk_124_41 cbp_19 ?_
          by_cases c5 : ¬ x0 = 19
          · rw [if_pos c5] at h
            refine Rn.i2t (t := 50) dk_124_43 rfl (decide_eq_true c5) ?_
            refine Rn.pu (st' := [.int x0]) dk_124_50 L_124 rfl ?_
            refine Rn.bp dk_124_51 cbp_20 ?_
            by_cases c6 : ¬ x0 = 20
            · rw [if_pos c6] at h
              refine Rn.i2t (t := 60) dk_124_53 rfl (decide_eq_true c6) ?_
              refine Rn.pu (st' := [.int x0]) dk_124_60 L_124 rfl ?_
              refine Rn.bp dk_124_61 cbp_23 ?_
              by_cases c7 : 23 ≤ x0
              · rw [if_pos c7] at h
                refine Rn.i2t (t := 71) dk_124_63 rfl (decide_eq_true c7) ?_
                refine Rn.pu (st' := [.int x0]) dk_124_71 L_124 rfl ?_
                refine Rn.bp dk_124_72 cbp_25 ?_
                by_cases c8 : 25 ≤ x0
                · rw [if_pos c8] at h
                  refine Rn.i2t (t := 82) dk_124_74 rfl (decide_eq_true c8) ?_
                  refine Rn.bp dk_124_82 cbp_8 ?_
                  cases h
                  exact Rn.ri dk_124_84 R_124 rfl
                · rw [if_neg c8] at h
                  refine Rn.i2f (t := 82) dk_124_74 rfl (decide_eq_false c8) ?_
                  refine Rn.bp dk_124_77 cbp_7 ?_
                  refine Rn.gt (t := 84) dk_124_79 rfl ?_
                  cases h
                  exact Rn.ri dk_124_84 R_124 rfl
              · rw [if_neg c7] at h
                refine Rn.i2f (t := 71) dk_124_63 rfl (decide_eq_false c7) ?_
                refine Rn.bp dk_124_66 cbp_6 ?_
                refine Rn.gt (t := 84) dk_124_68 rfl ?_
                cases h
                exact Rn.ri dk_124_84 R_124 rfl
            · rw [if_neg c6] at h
              refine Rn.i2f (t := 60) dk_124_53 rfl (decide_eq_false c6) ?_
              refine Rn.ic dk_124_56 cic_5 ?_
              refine Rn.gt (t := 84) dk_124_57 rfl ?_
              cases h
              exact Rn.ri dk_124_84 R_124 rfl
          · rw [if_neg c5] at h
            refine Rn.i2f (t := 50) dk_124_43 rfl (decide_eq_false c5) ?_
            refine Rn.ic dk_124_46 cic_4 ?_
            refine Rn.gt (t := 84) dk_124_47 rfl ?_
            cases h
            exact Rn.ri dk_124_84 R_124 rfl
        · rw [if_neg c4] at h
          refine Rn.i2f (t := 40) dk_124_33 rfl (decide_eq_false c4) ?_
          refine Rn.ic dk_124_36 cic_3 ?_
          refine Rn.gt (t := 84) dk_124_37 rfl ?_
          cases h
          exact Rn.ri dk_124_84 R_124 rfl
      · rw [if_neg c3] at h
        refine Rn.i2f (t := 30) dk_124_23 rfl (decide_eq_false c3) ?_
        refine Rn.ic dk_124_26 cic_2 ?_
        refine Rn.gt (t := 84) dk_124_27 rfl ?_
        cases h
        exact Rn.ri dk_124_84 R_124 rfl
    · rw [if_neg c2] at h
      refine Rn.i2f (t := 20) dk_124_13 rfl (decide_eq_false c2) ?_
      refine Rn.ic dk_124_16 cic_1 ?_
      refine Rn.gt (t := 84) dk_124_17 rfl ?_
      cases h
      exact Rn.ri dk_124_84 R_124 rfl
  · rw [if_neg c1] at h
    refine Rn.i2f (t := 10) dk_124_3 rfl (decide_eq_false c1) ?_
    refine Rn.ic dk_124_6 cic_0 ?_
    refine Rn.gt (t := 84) dk_124_7 rfl ?_
    cases h
    exact Rn.ri dk_124_84 R_124 rfl
def m_124 (x0 : Int32) (I : dI) (J : dJ) : Option Int32 := b_124_0 x0 I J
theorem x_124 {Q : Nat → Option Nat} {D : Nat} (hD : 2 ≤ D) {x0 : Int32} {I : dI} {J : dJ} {R : Int32} (h : m_124 x0 I J = some R) : Ex Q D 124 I J [.int x0] (some (.int R)) I J := by
  obtain ⟨D, rfl⟩ : ∃ D', D = D' + 1 := ⟨D - 1, by omega⟩
  exact Ex.of (by decide) (by rw [L_124]; exact Nat.le_of_ble_eq_true rfl) (show xm_sub [(0, .int x0)] [(0, .int x0)] from xm_sub_of [0] [0] rfl rfl (by decide)) (p_124_0 (Nat.le_of_succ_le_succ hD) _ _ _ _ h)
-- ConditionDeskModel.least(II)I
theorem L_123 : tb_mL 123 = 7 := by decide +kernel
theorem R_123 : tb_mr 123 = some .int := by decide +kernel
theorem dk_123_0 : decode (tb_mb 123) 0 = .ok (.iconst (-1), 1) := by decide +kernel
theorem dk_123_1 : decode (tb_mb 123) 1 = .ok (.istore_n 3, 1) := by decide +kernel
theorem dk_123_2 : decode (tb_mb 123) 2 = .ok (.iconst (0), 1) := by decide +kernel
theorem dk_123_3 : decode (tb_mb 123) 3 = .ok (.istore 4, 2) := by decide +kernel
theorem dk_123_5 : decode (tb_mb 123) 5 = .ok (.iload_n 1, 1) := by decide +kernel
theorem dk_123_6 : decode (tb_mb 123) 6 = .ok (.istore 5, 2) := by decide +kernel
theorem dk_123_8 : decode (tb_mb 123) 8 = .ok (.iload 5, 2) := by decide +kernel
theorem dk_123_10 : decode (tb_mb 123) 10 = .ok (.iload_n 2, 1) := by decide +kernel
theorem dk_123_11 : decode (tb_mb 123) 11 = .ok (.if_icmp .ge (98), 3) := by decide +kernel
theorem dk_123_109 : decode (tb_mb 123) 109 = .ok (.iload_n 3, 1) := by decide +kernel
theorem dk_123_110 : decode (tb_mb 123) 110 = .ok (.ireturn, 1) := by decide +kernel
theorem dk_123_14 : decode (tb_mb 123) 14 = .ok (.aload_n 0, 1) := by decide +kernel
theorem dk_123_15 : decode (tb_mb 123) 15 = .ok (.getfield 49, 3) := by decide +kernel
theorem f_123_15 : ∃ b, tb_fr (tb_oc 123) 49 = some (9, 15, b) := ⟨_, rfl⟩
theorem dk_123_18 : decode (tb_mb 123) 18 = .ok (.iload 5, 2) := by decide +kernel
theorem dk_123_20 : decode (tb_mb 123) 20 = .ok (.iaload, 1) := by decide +kernel
theorem dk_123_21 : decode (tb_mb 123) 21 = .ok (.istore 6, 2) := by decide +kernel
theorem dk_123_23 : decode (tb_mb 123) 23 = .ok (.iload 6, 2) := by decide +kernel
theorem dk_123_25 : decode (tb_mb 123) 25 = .ok (.bipush (30), 2) := by decide +kernel
theorem dk_123_27 : decode (tb_mb 123) 27 = .ok (.if_icmp .eq (10), 3) := by decide +kernel
theorem dk_123_37 : decode (tb_mb 123) 37 = .ok (.aload_n 0, 1) := by decide +kernel
theorem dk_123_38 : decode (tb_mb 123) 38 = .ok (.getfield 52, 3) := by decide +kernel
theorem f_123_38 : ∃ b, tb_fr (tb_oc 123) 52 = some (9, 16, b) := ⟨_, rfl⟩
theorem dk_123_41 : decode (tb_mb 123) 41 = .ok (.iload 5, 2) := by decide +kernel
theorem dk_123_43 : decode (tb_mb 123) 43 = .ok (.iaload, 1) := by decide +kernel
theorem dk_123_44 : decode (tb_mb 123) 44 = .ok (.istore 5, 2) := by decide +kernel
theorem dk_123_46 : decode (tb_mb 123) 46 = .ok (.iconst (1), 1) := by decide +kernel
theorem dk_123_47 : decode (tb_mb 123) 47 = .ok (.istore 4, 2) := by decide +kernel
theorem dk_123_49 : decode (tb_mb 123) 49 = .ok (.goto (54), 3) := by decide +kernel
theorem dk_123_103 : decode (tb_mb 123) 103 = .ok (.iinc 5 (1), 3) := by decide +kernel
theorem dk_123_106 : decode (tb_mb 123) 106 = .ok (.goto (-98), 3) := by decide +kernel
theorem dk_123_30 : decode (tb_mb 123) 30 = .ok (.iload 6, 2) := by decide +kernel
theorem dk_123_32 : decode (tb_mb 123) 32 = .ok (.bipush (32), 2) := by decide +kernel
theorem dk_123_34 : decode (tb_mb 123) 34 = .ok (.if_icmp .ne (18), 3) := by decide +kernel
theorem dk_123_52 : decode (tb_mb 123) 52 = .ok (.iload 4, 2) := by decide +kernel
theorem dk_123_54 : decode (tb_mb 123) 54 = .ok (.ifCond .eq (35), 3) := by decide +kernel
theorem dk_123_89 : decode (tb_mb 123) 89 = .ok (.iload 6, 2) := by decide +kernel
theorem dk_123_91 : decode (tb_mb 123) 91 = .ok (.bipush (10), 2) := by decide +kernel
theorem dk_123_93 : decode (tb_mb 123) 93 = .ok (.if_icmp .ge (7), 3) := by decide +kernel
theorem dk_123_100 : decode (tb_mb 123) 100 = .ok (.iconst (0), 1) := by decide +kernel
theorem dk_123_101 : decode (tb_mb 123) 101 = .ok (.istore 4, 2) := by decide +kernel
theorem dk_123_96 : decode (tb_mb 123) 96 = .ok (.iconst (1), 1) := by decide +kernel
theorem dk_123_97 : decode (tb_mb 123) 97 = .ok (.goto (4), 3) := by decide +kernel
theorem dk_123_57 : decode (tb_mb 123) 57 = .ok (.iload 6, 2) := by decide +kernel
theorem dk_123_59 : decode (tb_mb 123) 59 = .ok (.invokestatic 172, 3) := by decide +kernel
theorem ck_123_59 : ∃ b, tb_cr (tb_oc 123) 172 = some (1, 109, b, 1) := ⟨_, rfl⟩
theorem dk_123_62 : decode (tb_mb 123) 62 = .ok (.ifCond .eq (27), 3) := by decide +kernel
theorem dk_123_65 : decode (tb_mb 123) 65 = .ok (.iload_n 3, 1) := by decide +kernel
theorem dk_123_66 : decode (tb_mb 123) 66 = .ok (.ifCond .lt (20), 3) := by decide +kernel
theorem dk_123_86 : decode (tb_mb 123) 86 = .ok (.iload 5, 2) := by decide +kernel
theorem dk_123_88 : decode (tb_mb 123) 88 = .ok (.istore_n 3, 1) := by decide +kernel
theorem dk_123_69 : decode (tb_mb 123) 69 = .ok (.iload 6, 2) := by decide +kernel
theorem dk_123_71 : decode (tb_mb 123) 71 = .ok (.invokestatic 203, 3) := by decide +kernel
theorem ck_123_71 : ∃ b, tb_cr (tb_oc 123) 203 = some (1, 124, b, 1) := ⟨_, rfl⟩
theorem dk_123_74 : decode (tb_mb 123) 74 = .ok (.aload_n 0, 1) := by decide +kernel
theorem dk_123_75 : decode (tb_mb 123) 75 = .ok (.getfield 49, 3) := by decide +kernel
theorem f_123_75 : ∃ b, tb_fr (tb_oc 123) 49 = some (9, 15, b) := ⟨_, rfl⟩
theorem dk_123_78 : decode (tb_mb 123) 78 = .ok (.iload_n 3, 1) := by decide +kernel
theorem dk_123_79 : decode (tb_mb 123) 79 = .ok (.iaload, 1) := by decide +kernel
theorem dk_123_80 : decode (tb_mb 123) 80 = .ok (.invokestatic 203, 3) := by decide +kernel
theorem ck_123_80 : ∃ b, tb_cr (tb_oc 123) 203 = some (1, 124, b, 1) := ⟨_, rfl⟩
theorem dk_123_83 : decode (tb_mb 123) 83 = .ok (.if_icmp .gt (6), 3) := by decide +kernel
def b_123_103 (h8 : Int32 → Int32 → Int32 → Int32 → dI → dJ → Option Int32) (x2 : Int32) (x3 : Int32) (x4 : Int32) (x5 : Int32) (I : dI) (J : dJ) : Option Int32 := h8 x2 x3 x4 (x5 + 1) I J
theorem p_123_103 {Q : Nat → Option Nat} {D : Nat} (hD : 2 ≤ D) {h8 : Int32 → Int32 → Int32 → Int32 → dI → dJ → Option Int32} (H8 : ∀ (x2 : Int32) (x3 : Int32) (x4 : Int32) (x5 : Int32) (I : dI) (J : dJ) (R : Int32), h8 x2 x3 x4 x5 I J = some R → Rn Q D 123 8 [(0, .ref 92), (2, .int x2), (3, .int x3), (4, .int x4), (5, .int x5)] [] I J (some (.int R)) I J) (x2 : Int32) (x3 : Int32) (x4 : Int32) (x5 : Int32) (I : dI) (J : dJ) (R : Int32) (h : b_123_103 h8 x2 x3 x4 x5 I J = some R) : Rn Q D 123 103 [(0, .ref 92), (2, .int x2), (3, .int x3), (4, .int x4), (5, .int x5)] [] I J (some (.int R)) I J := by
  replace h : (h8 x2 x3 x4 (x5 + 1) I J) = some R := h
  refine Rn.inc (ls' := [(5, .int (x5 + 1)), (0, .ref 92), (2, .int x2), (3, .int x3), (4, .int x4)]) dk_123_103 L_123 (by decide) cic_1 rfl rfl ?_
  refine Rn.gt (t := 8) dk_123_106 rfl ?_
  exact Rn.wk [1, 2, 3, 4, 0] rfl (H8 _ _ _ _ _ _ _ h)
def b_123_37 (h8 : Int32 → Int32 → Int32 → Int32 → dI → dJ → Option Int32) (x2 : Int32) (x3 : Int32) (x5 : Int32) (I : dI) (J : dJ) : Option Int32 := if ¬ (x5 < 0 ∨ 960 ≤ Int32.toNatClampNeg x5) then (b_123_103 h8 x2 x3 1 (I 106 (Int32.toNatClampNeg x5)) I J) else none
theorem p_123_37 {Q : Nat → Option Nat} {D : Nat} (hD : 2 ≤ D) {h8 : Int32 → Int32 → Int32 → Int32 → dI → dJ → Option Int32} (H8 : ∀ (x2 : Int32) (x3 : Int32) (x4 : Int32) (x5 : Int32) (I : dI) (J : dJ) (R : Int32), h8 x2 x3 x4 x5 I J = some R → Rn Q D 123 8 [(0, .ref 92), (2, .int x2), (3, .int x3), (4, .int x4), (5, .int x5)] [] I J (some (.int R)) I J) (x2 : Int32) (x3 : Int32) (x5 : Int32) (I : dI) (J : dJ) (R : Int32) (h : b_123_37 h8 x2 x3 x5 I J = some R) : Rn Q D 123 37 [(0, .ref 92), (2, .int x2), (3, .int x3), (5, .int x5)] [] I J (some (.int R)) I J := by
  replace h : (if ¬ (x5 < 0 ∨ 960 ≤ Int32.toNatClampNeg x5) then (b_123_103 h8 x2 x3 1 (I 106 (Int32.toNatClampNeg x5)) I J) else none) = some R := h
  refine Rn.pu (st' := [.ref 92]) dk_123_37 L_123 rfl ?_
  refine Rn.gR (r := 106) dk_123_38 f_123_38.choose_spec sk_92 rfl ?_
  refine Rn.pu (st' := [.int x5, .ref 106]) dk_123_41 L_123 rfl ?_
  obtain ⟨c4, h⟩ := xm_if h
  refine Rn.iald dk_123_43 sk_106 c4 ?_
  refine Rn.pu (ls' := [(5, .int (I 106 (Int32.toNatClampNeg x5))), (0, .ref 92), (2, .int x2), (3, .int x3)]) (st' := []) dk_123_44 L_123 rfl ?_
  refine Rn.ic dk_123_46 cic_1 ?_
  refine Rn.pu (ls' := [(4, .int 1), (5, .int (I 106 (Int32.toNatClampNeg x5))), (0, .ref 92), (2, .int x2), (3, .int x3)]) (st' := []) dk_123_47 L_123 rfl ?_
  refine Rn.gt (t := 103) dk_123_49 rfl ?_
  exact Rn.wk [2, 3, 4, 0, 1] rfl (p_123_103 hD H8 _ _ _ _ _ _ _ h)
def b_123_101 (h8 : Int32 → Int32 → Int32 → Int32 → dI → dJ → Option Int32) (x2 : Int32) (x3 : Int32) (x5 : Int32) (s0 : Int32) (I : dI) (J : dJ) : Option Int32 := b_123_103 h8 x2 x3 s0 x5 I J
theorem p_123_101 {Q : Nat → Option Nat} {D : Nat} (hD : 2 ≤ D) {h8 : Int32 → Int32 → Int32 → Int32 → dI → dJ → Option Int32} (H8 : ∀ (x2 : Int32) (x3 : Int32) (x4 : Int32) (x5 : Int32) (I : dI) (J : dJ) (R : Int32), h8 x2 x3 x4 x5 I J = some R → Rn Q D 123 8 [(0, .ref 92), (2, .int x2), (3, .int x3), (4, .int x4), (5, .int x5)] [] I J (some (.int R)) I J) (x2 : Int32) (x3 : Int32) (x5 : Int32) (s0 : Int32) (I : dI) (J : dJ) (R : Int32) (h : b_123_101 h8 x2 x3 x5 s0 I J = some R) : Rn Q D 123 101 [(0, .ref 92), (2, .int x2), (3, .int x3), (5, .int x5)] [.int s0] I J (some (.int R)) I J := by
  replace h : (b_123_103 h8 x2 x3 s0 x5 I J) = some R := h
  refine Rn.pu (ls' := [(4, .int s0), (0, .ref 92), (2, .int x2), (3, .int x3), (5, .int x5)]) (st' := []) dk_123_101 L_123 rfl ?_
  exact Rn.wk [1, 2, 3, 0, 4] rfl (p_123_103 hD H8 _ _ _ _ _ _ _ h)
def b_123_89 (h8 : Int32 → Int32 → Int32 → Int32 → dI → dJ → Option Int32) (x2 : Int32) (x3 : Int32) (x5 : Int32) (x6 : Int32) (I : dI) (J : dJ) : Option Int32 := if 10 ≤ x6 then (b_123_101 h8 x2 x3 x5 0 I J) else (b_123_101 h8 x2 x3 x5 1 I J)
theorem p_123_89 {Q : Nat → Option Nat} {D : Nat} (hD : 2 ≤ D) {h8 : Int32 → Int32 → Int32 → Int32 → dI → dJ → Option Int32} (H8 : ∀ (x2 : Int32) (x3 : Int32) (x4 : Int32) (x5 : Int32) (I : dI) (J : dJ) (R : Int32), h8 x2 x3 x4 x5 I J = some R → Rn Q D 123 8 [(0, .ref 92), (2, .int x2), (3, .int x3), (4, .int x4), (5, .int x5)] [] I J (some (.int R)) I J) (x2 : Int32) (x3 : Int32) (x5 : Int32) (x6 : Int32) (I : dI) (J : dJ) (R : Int32) (h : b_123_89 h8 x2 x3 x5 x6 I J = some R) : Rn Q D 123 89 [(0, .ref 92), (2, .int x2), (3, .int x3), (5, .int x5), (6, .int x6)] [] I J (some (.int R)) I J := by
  replace h : (if 10 ≤ x6 then (b_123_101 h8 x2 x3 x5 0 I J) else (b_123_101 h8 x2 x3 x5 1 I J)) = some R := h
  refine Rn.pu (st' := [.int x6]) dk_123_89 L_123 rfl ?_
  refine Rn.bp dk_123_91 cbp_10 ?_
  by_cases c7 : 10 ≤ x6
  · rw [if_pos c7] at h
    refine Rn.i2t (t := 100) dk_123_93 rfl (decide_eq_true c7) ?_
    refine Rn.ic dk_123_100 cic_0 ?_
    exact Rn.wk [0, 1, 2, 3] rfl (p_123_101 hD H8 _ _ _ _ _ _ _ h)
  · rw [if_neg c7] at h
    refine Rn.i2f (t := 100) dk_123_93 rfl (decide_eq_false c7) ?_
    refine Rn.ic dk_123_96 cic_1 ?_
    refine Rn.gt (t := 101) dk_123_97 rfl ?_
    exact Rn.wk [0, 1, 2, 3] rfl (p_123_101 hD H8 _ _ _ _ _ _ _ h)
def b_123_86 (h8 : Int32 → Int32 → Int32 → Int32 → dI → dJ → Option Int32) (x2 : Int32) (x5 : Int32) (x6 : Int32) (I : dI) (J : dJ) : Option Int32 := b_123_89 h8 x2 x5 x5 x6 I J
theorem p_123_86 {Q : Nat → Option Nat} {D : Nat} (hD : 2 ≤ D) {h8 : Int32 → Int32 → Int32 → Int32 → dI → dJ → Option Int32} (H8 : ∀ (x2 : Int32) (x3 : Int32) (x4 : Int32) (x5 : Int32) (I : dI) (J : dJ) (R : Int32), h8 x2 x3 x4 x5 I J = some R → Rn Q D 123 8 [(0, .ref 92), (2, .int x2), (3, .int x3), (4, .int x4), (5, .int x5)] [] I J (some (.int R)) I J) (x2 : Int32) (x5 : Int32) (x6 : Int32) (I : dI) (J : dJ) (R : Int32) (h : b_123_86 h8 x2 x5 x6 I J = some R) : Rn Q D 123 86 [(0, .ref 92), (2, .int x2), (5, .int x5), (6, .int x6)] [] I J (some (.int R)) I J := by
  replace h : (b_123_89 h8 x2 x5 x5 x6 I J) = some R := h
  refine Rn.pu (st' := [.int x5]) dk_123_86 L_123 rfl ?_
  refine Rn.pu (ls' := [(3, .int x5), (0, .ref 92), (2, .int x2), (5, .int x5), (6, .int x6)]) (st' := []) dk_123_88 L_123 rfl ?_
  exact Rn.wk [1, 2, 0, 3, 4] rfl (p_123_89 hD H8 _ _ _ _ _ _ _ h)
def b_123_8 : Nat → Int32 → Int32 → Int32 → Int32 → dI → dJ → Option Int32
  | 0, _, _, _, _, _, _ => none
  | n + 1, x2, x3, x4, x5, I, J => if x2 ≤ x5 then (some x3) else (if ¬ (x5 < 0 ∨ 960 ≤ Int32.toNatClampNeg x5) then (if (I 105 (Int32.toNatClampNeg x5)) = 30 then (b_123_37 (b_123_8 n) x2 x3 x5 I J) else (if ¬ (I 105 (Int32.toNatClampNeg x5)) = 32 then (if x4 = 0 then (b_123_89 (b_123_8 n) x2 x3 x5 (I 105 (Int32.toNatClampNeg x5)) I J) else ((m_109 (I 105 (Int32.toNatClampNeg x5)) I J).bind (fun r6 => if r6 = 0 then (b_123_89 (b_123_8 n) x2 x3 x5 (I 105 (Int32.toNatClampNeg x5)) I J) else (if x3 < 0 then (b_123_86 (b_123_8 n) x2 x5 (I 105 (Int32.toNatClampNeg x5)) I J) else ((m_124 (I 105 (Int32.toNatClampNeg x5)) I J).bind (fun r10 => if ¬ (x3 < 0 ∨ 960 ≤ Int32.toNatClampNeg x3) then ((m_124 (I 105 (Int32.toNatClampNeg x3)) I J).bind (fun r13 => if r13 < r10 then (b_123_89 (b_123_8 n) x2 x3 x5 (I 105 (Int32.toNatClampNeg x5)) I J) else (b_123_86 (b_123_8 n) x2 x5 (I 105 (Int32.toNatClampNeg x5)) I J))) else none)))))) else (b_123_37 (b_123_8 n) x2 x3 x5 I J))) else none)
theorem p_123_8 {Q : Nat → Option Nat} {D : Nat} (hD : 2 ≤ D) : ∀ (n : Nat) (x2 : Int32) (x3 : Int32) (x4 : Int32) (x5 : Int32) (I : dI) (J : dJ) (R : Int32), b_123_8 n x2 x3 x4 x5 I J = some R → Rn Q D 123 8 [(0, .ref 92), (2, .int x2), (3, .int x3), (4, .int x4), (5, .int x5)] [] I J (some (.int R)) I J := by
  intro n
  induction n with
  | zero => intro x2 x3 x4 x5 I J R h; exact absurd h (by simp [b_123_8])
  | succ n ih =>
    intro x2 x3 x4 x5 I J R h
    replace h : (if x2 ≤ x5 then (some x3) else (if ¬ (x5 < 0 ∨ 960 ≤ Int32.toNatClampNeg x5) then (if (I 105 (Int32.toNatClampNeg x5)) = 30 then (b_123_37 (b_123_8 n) x2 x3 x5 I J) else (if ¬ (I 105 (Int32.toNatClampNeg x5)) = 32 then (if x4 = 0 then (b_123_89 (b_123_8 n) x2 x3 x5 (I 105 (Int32.toNatClampNeg x5)) I J) else ((m_109 (I 105 (Int32.toNatClampNeg x5)) I J).bind (fun r6 => if r6 = 0 then (b_123_89 (b_123_8 n) x2 x3 x5 (I 105 (Int32.toNatClampNeg x5)) I J) else (if x3 < 0 then (b_123_86 (b_123_8 n) x2 x5 (I 105 (Int32.toNatClampNeg x5)) I J) else ((m_124 (I 105 (Int32.toNatClampNeg x5)) I J).bind (fun r10 => if ¬ (x3 < 0 ∨ 960 ≤ Int32.toNatClampNeg x3) then ((m_124 (I 105 (Int32.toNatClampNeg x3)) I J).bind (fun r13 => if r13 < r10 then (b_123_89 (b_123_8 n) x2 x3 x5 (I 105 (Int32.toNatClampNeg x5)) I J) else (b_123_86 (b_123_8 n) x2 x5 (I 105 (Int32.toNatClampNeg x5)) I J))) else none)))))) else (b_123_37 (b_123_8 n) x2 x3 x5 I J))) else none)) = some R := h
    refine Rn.pu (st' := [.int x5]) dk_123_8 L_123 rfl ?_
    refine Rn.pu (st' := [.int x2, .int x5]) dk_123_10 L_123 rfl ?_
    by_cases c1 : x2 ≤ x5
    · rw [if_pos c1] at h
      refine Rn.i2t (t := 109) dk_123_11 rfl (decide_eq_true c1) ?_
      refine Rn.pu (st' := [.int x3]) dk_123_109 L_123 rfl ?_
      cases h
      exact Rn.ri dk_123_110 R_123 rfl
    · rw [if_neg c1] at h
      refine Rn.i2f (t := 109) dk_123_11 rfl (decide_eq_false c1) ?_
      refine Rn.pu (st' := [.ref 92]) dk_123_14 L_123 rfl ?_
      refine Rn.gR (r := 105) dk_123_15 f_123_15.choose_spec sk_92 rfl ?_
      refine Rn.pu (st' := [.int x5, .ref 105]) dk_123_18 L_123 rfl ?_
      obtain ⟨c2, h⟩ := xm_if h
      refine Rn.iald dk_123_20 sk_105 c2 ?_
      refine Rn.pu (ls' := [(6, .int (I 105 (Int32.toNatClampNeg x5))), (0, .ref 92), (2, .int x2), (3, .int x3), (4, .int x4), (5, .int x5)]) (st' := []) dk_123_21 L_123 rfl ?_
      refine Rn.pu (st' := [.int (I 105 (Int32.toNatClampNeg x5))]) dk_123_23 L_123 rfl ?_
      refine Rn.bp dk_123_25 cbp_30 ?_
      by_cases c3 : (I 105 (Int32.toNatClampNeg x5)) = 30
      · rw [if_pos c3] at h
        refine Rn.i2t (t := 37) dk_123_27 rfl (decide_eq_true c3) ?_
        exact Rn.wk [1, 2, 3, 5] rfl (p_123_37 hD ih _ _ _ _ _ _ h)
      · rw [if_neg c3] at h
        refine Rn.i2f (t := 37) dk_123_27 rfl (decide_eq_false c3) ?_
        refine Rn.pu (st' := [.int (I 105 (Int32.toNatClampNeg x5))]) dk_123_30 L_123 rfl ?_
        refine Rn.bp dk_123_32 cbp_32 ?_
        by_cases c4 : ¬ (I 105 (Int32.toNatClampNeg x5)) = 32
        · rw [if_pos c4] at h
          refine Rn.i2t (t := 52) dk_123_34 rfl (decide_eq_true c4) ?_
          refine Rn.pu (st' := [.int x4]) dk_123_52 L_123 rfl ?_
          by_cases c5 : x4 = 0
          · rw [if_pos c5] at h
            refine Rn.i1t (t := 89) dk_123_54 rfl (decide_eq_true c5) ?_
            exact Rn.wk [1, 2, 3, 5, 0] rfl (p_123_89 hD ih _ _ _ _ _ _ _ h)
          · rw [if_neg c5] at h
            refine Rn.i1f (t := 89) dk_123_54 rfl (decide_eq_false c5) ?_
            refine Rn.pu (st' := [.int (I 105 (Int32.toNatClampNeg x5))]) dk_123_57 L_123 rfl ?_
            obtain ⟨r6, e7, h⟩ := bindS h
            refine Rn.csI (As := [.int (I 105 (Int32.toNatClampNeg x5))]) (rest := []) dk_123_59 ck_123_59.choose_spec rfl (x_109 (Nat.le_trans (Nat.le_of_ble_eq_true rfl) hD) e7) ?_
            by_cases c8 : r6 = 0
            · rw [if_pos c8] at h
              refine Rn.i1t (t := 89) dk_123_62 rfl (decide_eq_true c8) ?_
              exact Rn.wk [1, 2, 3, 5, 0] rfl (p_123_89 hD ih _ _ _ _ _ _ _ h)
            · rw [if_neg c8] at h
              refine Rn.i1f (t := 89) dk_123_62 rfl (decide_eq_false c8) ?_
              refine Rn.pu (st' := [.int x3]) dk_123_65 L_123 rfl ?_
              by_cases c9 : x3 < 0
              · rw [if_pos c9] at h
                refine Rn.i1t (t := 86) dk_123_66 rfl (decide_eq_true c9) ?_
                exact Rn.wk [1, 2, 5, 0] rfl (p_123_86 hD ih _ _ _ _ _ _ h)
              · rw [if_neg c9] at h
                refine Rn.i1f (t := 86) dk_123_66 rfl (decide_eq_false c9) ?_
                refine Rn.pu (st' := [.int (I 105 (Int32.toNatClampNeg x5))]) dk_123_69 L_123 rfl ?_
                obtain ⟨r10, e11, h⟩ := bindS h
                refine Rn.csI (As := [.int (I 105 (Int32.toNatClampNeg x5))]) (rest := []) dk_123_71 ck_123_71.choose_spec rfl (x_124 (Nat.le_trans (Nat.le_of_ble_eq_true rfl) hD) e11) ?_
                refine Rn.pu (st' := [.ref 92, .int r10]) dk_123_74 L_123 rfl ?_
                refine Rn.gR (r := 105) dk_123_75 f_123_75.choose_spec sk_92 rfl ?_
                refine Rn.pu (st' := [.int x3, .ref 105, .int r10]) dk_123_78 L_123 rfl ?_
                obtain ⟨c12, h⟩ := xm_if h
                refine Rn.iald dk_123_79 sk_105 c12 ?_
                obtain ⟨r13, e14, h⟩ := bindS h
                refine Rn.csI (As := [.int (I 105 (Int32.toNatClampNeg x3))]) (rest := [.int r10]) dk_123_80 ck_123_80.choose_spec rfl (x_124 (Nat.le_trans (Nat.le_of_ble_eq_true rfl) hD) e14) ?_
                by_cases c15 : r13 < r10
                · rw [if_pos c15] at h
                  refine Rn.i2t (t := 89) dk_123_83 rfl (decide_eq_true c15) ?_
                  exact Rn.wk [1, 2, 3, 5, 0] rfl (p_123_89 hD ih _ _ _ _ _ _ _ h)
                · rw [if_neg c15] at h
                  refine Rn.i2f (t := 89) dk_123_83 rfl (decide_eq_false c15) ?_
                  exact Rn.wk [1, 2, 5, 0] rfl (p_123_86 hD ih _ _ _ _ _ _ h)
        · rw [if_neg c4] at h
          refine Rn.i2f (t := 52) dk_123_34 rfl (decide_eq_false c4) ?_
          exact Rn.wk [1, 2, 3, 5] rfl (p_123_37 hD ih _ _ _ _ _ _ h)
def b_123_0 (x1 : Int32) (x2 : Int32) (I : dI) (J : dJ) : Option Int32 := b_123_8 FU x2 (-1) 0 x1 I J
theorem p_123_0 {Q : Nat → Option Nat} {D : Nat} (hD : 2 ≤ D) (x1 : Int32) (x2 : Int32) (I : dI) (J : dJ) (R : Int32) (h : b_123_0 x1 x2 I J = some R) : Rn Q D 123 0 [(0, .ref 92), (1, .int x1), (2, .int x2)] [] I J (some (.int R)) I J := by
  replace h : (b_123_8 FU x2 (-1) 0 x1 I J) = some R := h
  refine Rn.ic dk_123_0 cic_m1 ?_
  refine Rn.pu (ls' := [(3, .int (-1)), (0, .ref 92), (1, .int x1), (2, .int x2)]) (st' := []) dk_123_1 L_123 rfl ?_
  refine Rn.ic dk_123_2 cic_0 ?_
  refine Rn.pu (ls' := [(4, .int 0), (3, .int (-1)), (0, .ref 92), (1, .int x1), (2, .int x2)]) (st' := []) dk_123_3 L_123 rfl ?_
  refine Rn.pu (st' := [.int x1]) dk_123_5 L_123 rfl ?_
  refine Rn.pu (ls' := [(5, .int x1), (4, .int 0), (3, .int (-1)), (0, .ref 92), (1, .int x1), (2, .int x2)]) (st' := []) dk_123_6 L_123 rfl ?_
  exact Rn.wk [3, 5, 2, 1, 0] rfl (p_123_8 hD FU _ _ _ _ _ _ _ h)
def m_123 (x1 : Int32) (x2 : Int32) (I : dI) (J : dJ) : Option Int32 := b_123_0 x1 x2 I J
theorem x_123 {Q : Nat → Option Nat} {D : Nat} (hD : 3 ≤ D) {x1 : Int32} {x2 : Int32} {I : dI} {J : dJ} {R : Int32} (h : m_123 x1 x2 I J = some R) : Ex Q D 123 I J [.ref 92, .int x1, .int x2] (some (.int R)) I J := by
  obtain ⟨D, rfl⟩ : ∃ D', D = D' + 1 := ⟨D - 1, by omega⟩
  exact Ex.of (by decide) (by rw [L_123]; exact Nat.le_of_ble_eq_true rfl) (show xm_sub [(0, .ref 92), (1, .int x1), (2, .int x2)] [(0, .ref 92), (1, .int x1), (2, .int x2)] from xm_sub_of [0, 1, 2] [0, 1, 2] rfl rfl (by decide)) (p_123_0 (Nat.le_of_succ_le_succ hD) _ _ _ _ _ h)
-- ConditionDeskModel.give(J)V
theorem L_125 : tb_mL 125 = 3 := by decide +kernel
theorem R_125 : tb_mr 125 = none := by decide +kernel
theorem dk_125_0 : decode (tb_mb 125) 0 = .ok (.aload_n 0, 1) := by decide +kernel
theorem dk_125_1 : decode (tb_mb 125) 1 = .ok (.dup, 1) := by decide +kernel
theorem dk_125_2 : decode (tb_mb 125) 2 = .ok (.getfield 206, 3) := by decide +kernel
theorem f_125_2 : ∃ b, tb_fr (tb_oc 125) 206 = some (9, 32, b) := ⟨_, rfl⟩
theorem dk_125_5 : decode (tb_mb 125) 5 = .ok (.iconst (1), 1) := by decide +kernel
theorem dk_125_6 : decode (tb_mb 125) 6 = .ok (.isub, 1) := by decide +kernel
theorem dk_125_7 : decode (tb_mb 125) 7 = .ok (.putfield 206, 3) := by decide +kernel
theorem f_125_7 : ∃ b, tb_fr (tb_oc 125) 206 = some (9, 32, b) ∧ xm_fin tb_cl (tb_ini 125) b 9 32 = true := ⟨_, rfl, rfl⟩
theorem dk_125_10 : decode (tb_mb 125) 10 = .ok (.aload_n 0, 1) := by decide +kernel
theorem dk_125_11 : decode (tb_mb 125) 11 = .ok (.lload_n 1, 1) := by decide +kernel
theorem dk_125_12 : decode (tb_mb 125) 12 = .ok (.putfield 209, 3) := by decide +kernel
theorem f_125_12 : ∃ b, tb_fr (tb_oc 125) 209 = some (9, 35, b) ∧ xm_fin tb_cl (tb_ini 125) b 9 35 = true := ⟨_, rfl, rfl⟩
theorem dk_125_15 : decode (tb_mb 125) 15 = .ok (.return_, 1) := by decide +kernel
def b_125_0 (x1 : Int64) (I : dI) (J : dJ) : Option (dI × dJ) := lt_ (sI I 92 32 ((I 92 32) - 1)) (fun I1 => lt_ (sJ J 92 35 x1) (fun J2 => some (I1, J2)))
theorem p_125_0 {Q : Nat → Option Nat} {D : Nat} (hD : 1 ≤ D) (x1 : Int64) (I : dI) (J : dJ) (R : (dI × dJ)) (h : b_125_0 x1 I J = some R) : Rn Q D 125 0 [(0, .ref 92), (1, .long x1)] [] I J (none) R.1 R.2 := by
  replace h : (lt_ (sI I 92 32 ((I 92 32) - 1)) (fun I1 => lt_ (sJ J 92 35 x1) (fun J2 => some (I1, J2)))) = some R := h
  refine Rn.pu (st' := [.ref 92]) dk_125_0 L_125 rfl ?_
  refine Rn.pu (st' := [.ref 92, .ref 92]) dk_125_1 L_125 rfl ?_
  refine Rn.gI dk_125_2 f_125_2.choose_spec sk_92 rfl ?_
  refine Rn.ic dk_125_5 cic_1 ?_
  refine Rn.pu (st' := [.int ((I 92 32) - 1), .ref 92]) dk_125_6 L_125 rfl ?_
  obtain ⟨I1, eI1, h⟩ := letS h
  refine Rn.pI dk_125_7 f_125_7.choose_spec.1 sk_92 rfl f_125_7.choose_spec.2 rfl rfl ?_
  rw [← eI1]
  refine Rn.pu (st' := [.ref 92]) dk_125_10 L_125 rfl ?_
  refine Rn.pu (st' := [.long x1, .ref 92]) dk_125_11 L_125 rfl ?_
  obtain ⟨J2, eJ2, h⟩ := letS h
  refine Rn.pJ dk_125_12 f_125_12.choose_spec.1 sk_92 rfl f_125_12.choose_spec.2 rfl rfl ?_
  rw [← eJ2]
  cases h
  exact Rn.rv dk_125_15 R_125
def m_125 (x1 : Int64) (I : dI) (J : dJ) : Option (dI × dJ) := b_125_0 x1 I J
theorem x_125 {Q : Nat → Option Nat} {D : Nat} (hD : 2 ≤ D) {x1 : Int64} {I : dI} {J : dJ} {R : (dI × dJ)} (h : m_125 x1 I J = some R) : Ex Q D 125 I J [.ref 92, .long x1] (none) R.1 R.2 := by
  obtain ⟨D, rfl⟩ : ∃ D', D = D' + 1 := ⟨D - 1, by omega⟩
  exact Ex.of (by decide) (by rw [L_125]; exact Nat.le_of_ble_eq_true rfl) (show xm_sub [(0, .ref 92), (1, .long x1)] [(0, .ref 92), (1, .long x1)] from xm_sub_of [0, 1] [0, 1] rfl rfl (by decide)) (p_125_0 (Nat.le_of_succ_le_succ hD) _ _ _ _ h)
