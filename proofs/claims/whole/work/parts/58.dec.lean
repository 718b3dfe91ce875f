/-! Printed by wip/whole/gen_dec.py: methods read back. -/
-- ConditionDeskModel.half(I)V
theorem L_126 : tb_mL 126 = 3 := by decide +kernel
theorem R_126 : tb_mr 126 = none := by decide +kernel
theorem dk_126_0 : decode (tb_mb 126) 0 = .ok (.aload_n 0, 1) := by decide +kernel
theorem dk_126_1 : decode (tb_mb 126) 1 = .ok (.getfield 49, 3) := by decide +kernel
theorem f_126_1 : ∃ b, tb_fr (tb_oc 126) 49 = some (9, 15, b) := ⟨_, rfl⟩
theorem dk_126_4 : decode (tb_mb 126) 4 = .ok (.aload_n 0, 1) := by decide +kernel
theorem dk_126_5 : decode (tb_mb 126) 5 = .ok (.getfield 82, 3) := by decide +kernel
theorem f_126_5 : ∃ b, tb_fr (tb_oc 126) 82 = some (9, 38, b) := ⟨_, rfl⟩
theorem dk_126_8 : decode (tb_mb 126) 8 = .ok (.iload_n 1, 1) := by decide +kernel
theorem dk_126_9 : decode (tb_mb 126) 9 = .ok (.iaload, 1) := by decide +kernel
theorem dk_126_10 : decode (tb_mb 126) 10 = .ok (.iaload, 1) := by decide +kernel
theorem dk_126_11 : decode (tb_mb 126) 11 = .ok (.istore_n 2, 1) := by decide +kernel
theorem dk_126_12 : decode (tb_mb 126) 12 = .ok (.aload_n 0, 1) := by decide +kernel
theorem dk_126_13 : decode (tb_mb 126) 13 = .ok (.getfield 88, 3) := by decide +kernel
theorem f_126_13 : ∃ b, tb_fr (tb_oc 126) 88 = some (9, 40, b) := ⟨_, rfl⟩
theorem dk_126_16 : decode (tb_mb 126) 16 = .ok (.iload_n 1, 1) := by decide +kernel
theorem dk_126_17 : decode (tb_mb 126) 17 = .ok (.aload_n 0, 1) := by decide +kernel
theorem dk_126_18 : decode (tb_mb 126) 18 = .ok (.getfield 209, 3) := by decide +kernel
theorem f_126_18 : ∃ b, tb_fr (tb_oc 126) 209 = some (9, 35, b) := ⟨_, rfl⟩
theorem dk_126_21 : decode (tb_mb 126) 21 = .ok (.lastore, 1) := by decide +kernel
theorem dk_126_22 : decode (tb_mb 126) 22 = .ok (.iload_n 2, 1) := by decide +kernel
theorem dk_126_23 : decode (tb_mb 126) 23 = .ok (.bipush (10), 2) := by decide +kernel
theorem dk_126_25 : decode (tb_mb 126) 25 = .ok (.if_icmp .ne (12), 3) := by decide +kernel
theorem dk_126_37 : decode (tb_mb 126) 37 = .ok (.iload_n 2, 1) := by decide +kernel
theorem dk_126_38 : decode (tb_mb 126) 38 = .ok (.bipush (11), 2) := by decide +kernel
theorem dk_126_40 : decode (tb_mb 126) 40 = .ok (.if_icmp .ne (28), 3) := by decide +kernel
theorem dk_126_68 : decode (tb_mb 126) 68 = .ok (.aload_n 0, 1) := by decide +kernel
theorem dk_126_69 : decode (tb_mb 126) 69 = .ok (.getfield 85, 3) := by decide +kernel
theorem f_126_69 : ∃ b, tb_fr (tb_oc 126) 85 = some (9, 39, b) := ⟨_, rfl⟩
theorem dk_126_72 : decode (tb_mb 126) 72 = .ok (.iload_n 1, 1) := by decide +kernel
theorem dk_126_73 : decode (tb_mb 126) 73 = .ok (.iconst (2), 1) := by decide +kernel
theorem dk_126_74 : decode (tb_mb 126) 74 = .ok (.iastore, 1) := by decide +kernel
theorem dk_126_75 : decode (tb_mb 126) 75 = .ok (.aload_n 0, 1) := by decide +kernel
theorem dk_126_76 : decode (tb_mb 126) 76 = .ok (.aload_n 0, 1) := by decide +kernel
theorem dk_126_77 : decode (tb_mb 126) 77 = .ok (.getfield 82, 3) := by decide +kernel
theorem f_126_77 : ∃ b, tb_fr (tb_oc 126) 82 = some (9, 38, b) := ⟨_, rfl⟩
theorem dk_126_80 : decode (tb_mb 126) 80 = .ok (.iload_n 1, 1) := by decide +kernel
theorem dk_126_81 : decode (tb_mb 126) 81 = .ok (.iaload, 1) := by decide +kernel
theorem dk_126_82 : decode (tb_mb 126) 82 = .ok (.iconst (1), 1) := by decide +kernel
theorem dk_126_83 : decode (tb_mb 126) 83 = .ok (.iadd, 1) := by decide +kernel
theorem dk_126_84 : decode (tb_mb 126) 84 = .ok (.aload_n 0, 1) := by decide +kernel
theorem dk_126_85 : decode (tb_mb 126) 85 = .ok (.getfield 79, 3) := by decide +kernel
theorem f_126_85 : ∃ b, tb_fr (tb_oc 126) 79 = some (9, 37, b) := ⟨_, rfl⟩
theorem dk_126_88 : decode (tb_mb 126) 88 = .ok (.iload_n 1, 1) := by decide +kernel
theorem dk_126_89 : decode (tb_mb 126) 89 = .ok (.iaload, 1) := by decide +kernel
theorem dk_126_90 : decode (tb_mb 126) 90 = .ok (.invokevirtual 215, 3) := by decide +kernel
theorem ck_126_90 : ∃ b, tb_cr (tb_oc 126) 215 = some (0, 121, b, 2) := ⟨_, rfl⟩
theorem dk_126_93 : decode (tb_mb 126) 93 = .ok (.return_, 1) := by decide +kernel
theorem dk_126_43 : decode (tb_mb 126) 43 = .ok (.aload_n 0, 1) := by decide +kernel
theorem dk_126_44 : decode (tb_mb 126) 44 = .ok (.getfield 209, 3) := by decide +kernel
theorem f_126_44 : ∃ b, tb_fr (tb_oc 126) 209 = some (9, 35, b) := ⟨_, rfl⟩
theorem dk_126_47 : decode (tb_mb 126) 47 = .ok (.lconst 0, 1) := by decide +kernel
theorem dk_126_48 : decode (tb_mb 126) 48 = .ok (.lcmp, 1) := by decide +kernel
theorem dk_126_49 : decode (tb_mb 126) 49 = .ok (.ifCond .ne (19), 3) := by decide +kernel
theorem dk_126_52 : decode (tb_mb 126) 52 = .ok (.aload_n 0, 1) := by decide +kernel
theorem dk_126_53 : decode (tb_mb 126) 53 = .ok (.iload_n 2, 1) := by decide +kernel
theorem dk_126_54 : decode (tb_mb 126) 54 = .ok (.bipush (10), 2) := by decide +kernel
theorem dk_126_56 : decode (tb_mb 126) 56 = .ok (.if_icmp .ne (7), 3) := by decide +kernel
theorem dk_126_63 : decode (tb_mb 126) 63 = .ok (.lconst 0, 1) := by decide +kernel
theorem dk_126_64 : decode (tb_mb 126) 64 = .ok (.invokevirtual 235, 3) := by decide +kernel
theorem ck_126_64 : ∃ b, tb_cr (tb_oc 126) 235 = some (0, 125, b, 1) := ⟨_, rfl⟩
theorem dk_126_67 : decode (tb_mb 126) 67 = .ok (.return_, 1) := by decide +kernel
theorem dk_126_59 : decode (tb_mb 126) 59 = .ok (.lconst 1, 1) := by decide +kernel
theorem dk_126_60 : decode (tb_mb 126) 60 = .ok (.goto (4), 3) := by decide +kernel
theorem dk_126_28 : decode (tb_mb 126) 28 = .ok (.aload_n 0, 1) := by decide +kernel
theorem dk_126_29 : decode (tb_mb 126) 29 = .ok (.getfield 209, 3) := by decide +kernel
theorem f_126_29 : ∃ b, tb_fr (tb_oc 126) 209 = some (9, 35, b) := ⟨_, rfl⟩
theorem dk_126_32 : decode (tb_mb 126) 32 = .ok (.lconst 0, 1) := by decide +kernel
theorem dk_126_33 : decode (tb_mb 126) 33 = .ok (.lcmp, 1) := by decide +kernel
theorem dk_126_34 : decode (tb_mb 126) 34 = .ok (.ifCond .ne (18), 3) := by decide +kernel
def b_126_68 (x1 : Int32) (I : dI) (J : dJ) : Option (dI × dJ) := if ¬ (x1 < 0 ∨ 130 ≤ Int32.toNatClampNeg x1) then lt_ (sI I 117 (Int32.toNatClampNeg x1) 2) (fun I8 => if ¬ (x1 < 0 ∨ 130 ≤ Int32.toNatClampNeg x1) then (if ¬ (x1 < 0 ∨ 130 ≤ Int32.toNatClampNeg x1) then ((m_121 ((I8 116 (Int32.toNatClampNeg x1)) + 1) (I8 115 (Int32.toNatClampNeg x1)) I8 J).bind (fun r11 => some (r11.1, r11.2))) else none) else none) else none
theorem p_126_68 {Q : Nat → Option Nat} {D : Nat} (hD : 2 ≤ D) (x1 : Int32) (I : dI) (J : dJ) (R : (dI × dJ)) (h : b_126_68 x1 I J = some R) : Rn Q D 126 68 [(0, .ref 92), (1, .int x1)] [] I J (none) R.1 R.2 := by
  replace h : (if ¬ (x1 < 0 ∨ 130 ≤ Int32.toNatClampNeg x1) then lt_ (sI I 117 (Int32.toNatClampNeg x1) 2) (fun I8 => if ¬ (x1 < 0 ∨ 130 ≤ Int32.toNatClampNeg x1) then (if ¬ (x1 < 0 ∨ 130 ≤ Int32.toNatClampNeg x1) then ((m_121 ((I8 116 (Int32.toNatClampNeg x1)) + 1) (I8 115 (Int32.toNatClampNeg x1)) I8 J).bind (fun r11 => some (r11.1, r11.2))) else none) else none) else none) = some R := h
  refine Rn.pu (st' := [.ref 92]) dk_126_68 L_126 rfl ?_
  refine Rn.gR (r := 117) dk_126_69 f_126_69.choose_spec sk_92 rfl ?_
  refine Rn.pu (st' := [.int x1, .ref 117]) dk_126_72 L_126 rfl ?_
  refine Rn.ic dk_126_73 cic_2 ?_
  obtain ⟨c7, h⟩ := xm_if h
  obtain ⟨I8, eI8, h⟩ := letS h
  refine Rn.iast dk_126_74 sk_117 c7 ?_
  rw [← eI8]
  refine Rn.pu (st' := [.ref 92]) dk_126_75 L_126 rfl ?_
  refine Rn.pu (st' := [.ref 92, .ref 92]) dk_126_76 L_126 rfl ?_
  refine Rn.gR (r := 116) dk_126_77 f_126_77.choose_spec sk_92 rfl ?_
  refine Rn.pu (st' := [.int x1, .ref 116, .ref 92]) dk_126_80 L_126 rfl ?_
  obtain ⟨c9, h⟩ := xm_if h
  refine Rn.iald dk_126_81 sk_116 c9 ?_
  refine Rn.ic dk_126_82 cic_1 ?_
  refine Rn.pu (st' := [.int ((I8 116 (Int32.toNatClampNeg x1)) + 1), .ref 92]) dk_126_83 L_126 rfl ?_
  refine Rn.pu (st' := [.ref 92, .int ((I8 116 (Int32.toNatClampNeg x1)) + 1), .ref 92]) dk_126_84 L_126 rfl ?_
  refine Rn.gR (r := 115) dk_126_85 f_126_85.choose_spec sk_92 rfl ?_
  refine Rn.pu (st' := [.int x1, .ref 115, .int ((I8 116 (Int32.toNatClampNeg x1)) + 1), .ref 92]) dk_126_88 L_126 rfl ?_
  obtain ⟨c10, h⟩ := xm_if h
  refine Rn.iald dk_126_89 sk_115 c10 ?_
  obtain ⟨r11, e12, h⟩ := bindS h
  refine Rn.cvV (p := 92) (As := [.int ((I8 116 (Int32.toNatClampNeg x1)) + 1), .int (I8 115 (Int32.toNatClampNeg x1))]) (rest := []) dk_126_90 ck_126_90.choose_spec rfl sk_92 rfl (x_121 (Nat.le_trans (Nat.le_of_ble_eq_true rfl) hD) e12) ?_
  cases h
  exact Rn.rv dk_126_93 R_126
def b_126_64 (s0 : Int64) (I : dI) (J : dJ) : Option (dI × dJ) := (m_125 s0 I J).bind (fun r15 => some (r15.1, r15.2))
theorem p_126_64 {Q : Nat → Option Nat} {D : Nat} (hD : 2 ≤ D) (s0 : Int64) (I : dI) (J : dJ) (R : (dI × dJ)) (h : b_126_64 s0 I J = some R) : Rn Q D 126 64 [] [.long s0, .ref 92] I J (none) R.1 R.2 := by
  replace h : ((m_125 s0 I J).bind (fun r15 => some (r15.1, r15.2))) = some R := h
  obtain ⟨r15, e16, h⟩ := bindS h
  refine Rn.cvV (p := 92) (As := [.long s0]) (rest := []) dk_126_64 ck_126_64.choose_spec rfl sk_92 rfl (x_125 (Nat.le_trans (Nat.le_of_ble_eq_true rfl) hD) e16) ?_
  cases h
  exact Rn.rv dk_126_67 R_126
def b_126_52 (x2 : Int32) (I : dI) (J : dJ) : Option (dI × dJ) := if ¬ x2 = 10 then (b_126_64 0 I J) else (b_126_64 1 I J)
theorem p_126_52 {Q : Nat → Option Nat} {D : Nat} (hD : 2 ≤ D) (x2 : Int32) (I : dI) (J : dJ) (R : (dI × dJ)) (h : b_126_52 x2 I J = some R) : Rn Q D 126 52 [(0, .ref 92), (2, .int x2)] [] I J (none) R.1 R.2 := by
  replace h : (if ¬ x2 = 10 then (b_126_64 0 I J) else (b_126_64 1 I J)) = some R := h
  refine Rn.pu (st' := [.ref 92]) dk_126_52 L_126 rfl ?_
  refine Rn.pu (st' := [.int x2, .ref 92]) dk_126_53 L_126 rfl ?_
  refine Rn.bp dk_126_54 cbp_10 ?_
  by_cases c14 : ¬ x2 = 10
  · rw [if_pos c14] at h
    refine Rn.i2t (t := 63) dk_126_56 rfl (decide_eq_true c14) ?_
    refine Rn.lc dk_126_63 clc_0 ?_
    exact Rn.wk [] rfl (p_126_64 hD _ _ _ _ h)
  · rw [if_neg c14] at h
    refine Rn.i2f (t := 63) dk_126_56 rfl (decide_eq_false c14) ?_
    refine Rn.lc dk_126_59 clc_1 ?_
    refine Rn.gt (t := 64) dk_126_60 rfl ?_
    exact Rn.wk [] rfl (p_126_64 hD _ _ _ _ h)
def b_126_37 (x1 : Int32) (x2 : Int32) (I : dI) (J : dJ) : Option (dI × dJ) := if ¬ x2 = 11 then (b_126_68 x1 I J) else (if ¬ (lg_cmp (J 92 35) 0) = 0 then (b_126_68 x1 I J) else (b_126_52 x2 I J))
theorem p_126_37 {Q : Nat → Option Nat} {D : Nat} (hD : 2 ≤ D) (x1 : Int32) (x2 : Int32) (I : dI) (J : dJ) (R : (dI × dJ)) (h : b_126_37 x1 x2 I J = some R) : Rn Q D 126 37 [(0, .ref 92), (1, .int x1), (2, .int x2)] [] I J (none) R.1 R.2 := by
  replace h : (if ¬ x2 = 11 then (b_126_68 x1 I J) else (if ¬ (lg_cmp (J 92 35) 0) = 0 then (b_126_68 x1 I J) else (b_126_52 x2 I J))) = some R := h
  refine Rn.pu (st' := [.int x2]) dk_126_37 L_126 rfl ?_
  refine Rn.bp dk_126_38 cbp_11 ?_
  by_cases c6 : ¬ x2 = 11
  · rw [if_pos c6] at h
    refine Rn.i2t (t := 68) dk_126_40 rfl (decide_eq_true c6) ?_
    exact Rn.wk [0, 1] rfl (p_126_68 hD _ _ _ _ h)
  · rw [if_neg c6] at h
    refine Rn.i2f (t := 68) dk_126_40 rfl (decide_eq_false c6) ?_
    refine Rn.pu (st' := [.ref 92]) dk_126_43 L_126 rfl ?_
    refine Rn.gJ dk_126_44 f_126_44.choose_spec sk_92 rfl ?_
    refine Rn.lc dk_126_47 clc_0 ?_
    refine Rn.pu (st' := [.int (lg_cmp (J 92 35) 0)]) dk_126_48 L_126 rfl ?_
    by_cases c7 : ¬ (lg_cmp (J 92 35) 0) = 0
    · rw [if_pos c7] at h
      refine Rn.i1t (t := 68) dk_126_49 rfl (decide_eq_true c7) ?_
      exact Rn.wk [0, 1] rfl (p_126_68 hD _ _ _ _ h)
    · rw [if_neg c7] at h
      refine Rn.i1f (t := 68) dk_126_49 rfl (decide_eq_false c7) ?_
      exact Rn.wk [0, 2] rfl (p_126_52 hD _ _ _ _ h)
def b_126_0 (x1 : Int32) (I : dI) (J : dJ) : Option (dI × dJ) := if ¬ (x1 < 0 ∨ 130 ≤ Int32.toNatClampNeg x1) then (if ¬ ((I 116 (Int32.toNatClampNeg x1)) < 0 ∨ 960 ≤ Int32.toNatClampNeg (I 116 (Int32.toNatClampNeg x1))) then (if ¬ (x1 < 0 ∨ 130 ≤ Int32.toNatClampNeg x1) then lt_ (sJ J 118 (Int32.toNatClampNeg x1) (J 92 35)) (fun J4 => if ¬ (I 105 (Int32.toNatClampNeg (I 116 (Int32.toNatClampNeg x1)))) = 10 then (b_126_37 x1 (I 105 (Int32.toNatClampNeg (I 116 (Int32.toNatClampNeg x1)))) I J4) else (if ¬ (lg_cmp (J4 92 35) 0) = 0 then (b_126_52 (I 105 (Int32.toNatClampNeg (I 116 (Int32.toNatClampNeg x1)))) I J4) else (b_126_37 x1 (I 105 (Int32.toNatClampNeg (I 116 (Int32.toNatClampNeg x1)))) I J4))) else none) else none) else none
theorem p_126_0 {Q : Nat → Option Nat} {D : Nat} (hD : 2 ≤ D) (x1 : Int32) (I : dI) (J : dJ) (R : (dI × dJ)) (h : b_126_0 x1 I J = some R) : Rn Q D 126 0 [(0, .ref 92), (1, .int x1)] [] I J (none) R.1 R.2 := by
  replace h : (if ¬ (x1 < 0 ∨ 130 ≤ Int32.toNatClampNeg x1) then (if ¬ ((I 116 (Int32.toNatClampNeg x1)) < 0 ∨ 960 ≤ Int32.toNatClampNeg (I 116 (Int32.toNatClampNeg x1))) then (if ¬ (x1 < 0 ∨ 130 ≤ Int32.toNatClampNeg x1) then lt_ (sJ J 118 (Int32.toNatClampNeg x1) (J 92 35)) (fun J4 => if ¬ (I 105 (Int32.toNatClampNeg (I 116 (Int32.toNatClampNeg x1)))) = 10 then (b_126_37 x1 (I 105 (Int32.toNatClampNeg (I 116 (Int32.toNatClampNeg x1)))) I J4) else (if ¬ (lg_cmp (J4 92 35) 0) = 0 then (b_126_52 (I 105 (Int32.toNatClampNeg (I 116 (Int32.toNatClampNeg x1)))) I J4) else (b_126_37 x1 (I 105 (Int32.toNatClampNeg (I 116 (Int32.toNatClampNeg x1)))) I J4))) else none) else none) else none) = some R := h
  refine Rn.pu (st' := [.ref 92]) dk_126_0 L_126 rfl ?_
  refine Rn.gR (r := 105) dk_126_1 f_126_1.choose_spec sk_92 rfl ?_
  refine Rn.pu (st' := [.ref 92, .ref 105]) dk_126_4 L_126 rfl ?_
  refine Rn.gR (r := 116) dk_126_5 f_126_5.choose_spec sk_92 rfl ?_
  refine Rn.pu (st' := [.int x1, .ref 116, .ref 105]) dk_126_8 L_126 rfl ?_
  obtain ⟨c1, h⟩ := xm_if h
  refine Rn.iald dk_126_9 sk_116 c1 ?_
  obtain ⟨c2, h⟩ := xm_if h
  refine Rn.iald dk_126_10 sk_105 c2 ?_
  refine Rn.pu (ls' := [(2, .int (I 105 (Int32.toNatClampNeg (I 116 (Int32.toNatClampNeg x1))))), (0, .ref 92), (1, .int x1)]) (st' := []) dk_126_11 L_126 rfl ?_
  refine Rn.pu (st' := [.ref 92]) dk_126_12 L_126 rfl ?_
  refine Rn.gR (r := 118) dk_126_13 f_126_13.choose_spec sk_92 rfl ?_
  refine Rn.pu (st' := [.int x1, .ref 118]) dk_126_16 L_126 rfl ?_
  refine Rn.pu (st' := [.ref 92, .int x1, .ref 118]) dk_126_17 L_126 rfl ?_
  refine Rn.gJ dk_126_18 f_126_18.choose_spec sk_92 rfl ?_
  obtain ⟨c3, h⟩ := xm_if h
  obtain ⟨J4, eJ4, h⟩ := letS h
  refine Rn.last dk_126_21 sk_118 c3 ?_
  rw [← eJ4]
  refine Rn.pu (st' := [.int (I 105 (Int32.toNatClampNeg (I 116 (Int32.toNatClampNeg x1))))]) dk_126_22 L_126 rfl ?_
  refine Rn.bp dk_126_23 cbp_10 ?_
  by_cases c5 : ¬ (I 105 (Int32.toNatClampNeg (I 116 (Int32.toNatClampNeg x1)))) = 10
  · rw [if_pos c5] at h
    refine Rn.i2t (t := 37) dk_126_25 rfl (decide_eq_true c5) ?_
    exact Rn.wk [1, 2, 0] rfl (p_126_37 hD _ _ _ _ _ h)
  · rw [if_neg c5] at h
    refine Rn.i2f (t := 37) dk_126_25 rfl (decide_eq_false c5) ?_
    refine Rn.pu (st' := [.ref 92]) dk_126_28 L_126 rfl ?_
    refine Rn.gJ dk_126_29 f_126_29.choose_spec sk_92 rfl ?_
    refine Rn.lc dk_126_32 clc_0 ?_
    refine Rn.pu (st' := [.int (lg_cmp (J4 92 35) 0)]) dk_126_33 L_126 rfl ?_
    by_cases c6 : ¬ (lg_cmp (J4 92 35) 0) = 0
    · rw [if_pos c6] at h
      refine Rn.i1t (t := 52) dk_126_34 rfl (decide_eq_true c6) ?_
      exact Rn.wk [1, 0] rfl (p_126_52 hD _ _ _ _ h)
    · rw [if_neg c6] at h
      refine Rn.i1f (t := 52) dk_126_34 rfl (decide_eq_false c6) ?_
      exact Rn.wk [1, 2, 0] rfl (p_126_37 hD _ _ _ _ _ h)
def m_126 (x1 : Int32) (I : dI) (J : dJ) : Option (dI × dJ) := b_126_0 x1 I J
theorem x_126 {Q : Nat → Option Nat} {D : Nat} (hD : 3 ≤ D) {x1 : Int32} {I : dI} {J : dJ} {R : (dI × dJ)} (h : m_126 x1 I J = some R) : Ex Q D 126 I J [.ref 92, .int x1] (none) R.1 R.2 := by
  obtain ⟨D, rfl⟩ : ∃ D', D = D' + 1 := ⟨D - 1, by omega⟩
  exact Ex.of (by decide) (by rw [L_126]; exact Nat.le_of_ble_eq_true rfl) (show xm_sub [(0, .ref 92), (1, .int x1)] [(0, .ref 92), (1, .int x1)] from xm_sub_of [0, 1] [0, 1] rfl rfl (by decide)) (p_126_0 (Nat.le_of_succ_le_succ hD) _ _ _ _ h)
-- ConditionDeskModel.truth(Z)J
theorem L_128 : tb_mL 128 = 1 := by decide +kernel
theorem R_128 : tb_mr 128 = some .long := by decide +kernel
theorem dk_128_0 : decode (tb_mb 128) 0 = .ok (.iload_n 0, 1) := by decide +kernel
theorem dk_128_1 : decode (tb_mb 128) 1 = .ok (.ifCond .eq (7), 3) := by decide +kernel
theorem dk_128_8 : decode (tb_mb 128) 8 = .ok (.lconst 0, 1) := by decide +kernel
theorem dk_128_9 : decode (tb_mb 128) 9 = .ok (.lreturn, 1) := by decide +kernel
theorem dk_128_4 : decode (tb_mb 128) 4 = .ok (.lconst 1, 1) := by decide +kernel
theorem dk_128_5 : decode (tb_mb 128) 5 = .ok (.goto (4), 3) := by decide +kernel
def b_128_0 (x0 : Int32) (I : dI) (J : dJ) : Option Int64 := if x0 = 0 then (some 0) else (some 1)
theorem p_128_0 {Q : Nat → Option Nat} {D : Nat} (hD : 1 ≤ D) (x0 : Int32) (I : dI) (J : dJ) (R : Int64) (h : b_128_0 x0 I J = some R) : Rn Q D 128 0 [(0, .int x0)] [] I J (some (.long R)) I J := by
  replace h : (if x0 = 0 then (some 0) else (some 1)) = some R := h
  refine Rn.pu (st' := [.int x0]) dk_128_0 L_128 rfl ?_
  by_cases c1 : x0 = 0
  · rw [if_pos c1] at h
    refine Rn.i1t (t := 8) dk_128_1 rfl (decide_eq_true c1) ?_
    refine Rn.lc dk_128_8 clc_0 ?_
    cases h
    exact Rn.rl dk_128_9 R_128
  · rw [if_neg c1] at h
    refine Rn.i1f (t := 8) dk_128_1 rfl (decide_eq_false c1) ?_
    refine Rn.lc dk_128_4 clc_1 ?_
    refine Rn.gt (t := 9) dk_128_5 rfl ?_
    cases h
    exact Rn.rl dk_128_9 R_128
def m_128 (x0 : Int32) (I : dI) (J : dJ) : Option Int64 := b_128_0 x0 I J
theorem x_128 {Q : Nat → Option Nat} {D : Nat} (hD : 2 ≤ D) {x0 : Int32} {I : dI} {J : dJ} {R : Int64} (h : m_128 x0 I J = some R) : Ex Q D 128 I J [.int x0] (some (.long R)) I J := by
  obtain ⟨D, rfl⟩ : ∃ D', D = D' + 1 := ⟨D - 1, by omega⟩
  exact Ex.of (by decide) (by rw [L_128]; exact Nat.le_of_ble_eq_true rfl) (show xm_sub [(0, .int x0)] [(0, .int x0)] from xm_sub_of [0] [0] rfl rfl (by decide)) (p_128_0 (Nat.le_of_succ_le_succ hD) _ _ _ _ h)
-- ConditionDeskModel.fail(I)V
theorem L_130 : tb_mL 130 = 2 := by decide +kernel
theorem R_130 : tb_mr 130 = none := by decide +kernel
theorem dk_130_0 : decode (tb_mb 130) 0 = .ok (.aload_n 0, 1) := by decide +kernel
theorem dk_130_1 : decode (tb_mb 130) 1 = .ok (.iload_n 1, 1) := by decide +kernel
theorem dk_130_2 : decode (tb_mb 130) 2 = .ok (.putfield 212, 3) := by decide +kernel
theorem f_130_2 : ∃ b, tb_fr (tb_oc 130) 212 = some (9, 34, b) ∧ xm_fin tb_cl (tb_ini 130) b 9 34 = true := ⟨_, rfl, rfl⟩
theorem dk_130_5 : decode (tb_mb 130) 5 = .ok (.aload_n 0, 1) := by decide +kernel
theorem dk_130_6 : decode (tb_mb 130) 6 = .ok (.iconst (0), 1) := by decide +kernel
theorem dk_130_7 : decode (tb_mb 130) 7 = .ok (.putfield 206, 3) := by decide +kernel
theorem f_130_7 : ∃ b, tb_fr (tb_oc 130) 206 = some (9, 32, b) ∧ xm_fin tb_cl (tb_ini 130) b 9 32 = true := ⟨_, rfl, rfl⟩
theorem dk_130_10 : decode (tb_mb 130) 10 = .ok (.aload_n 0, 1) := by decide +kernel
theorem dk_130_11 : decode (tb_mb 130) 11 = .ok (.lconst 0, 1) := by decide +kernel
theorem dk_130_12 : decode (tb_mb 130) 12 = .ok (.putfield 209, 3) := by decide +kernel
theorem f_130_12 : ∃ b, tb_fr (tb_oc 130) 209 = some (9, 35, b) ∧ xm_fin tb_cl (tb_ini 130) b 9 35 = true := ⟨_, rfl, rfl⟩
theorem dk_130_15 : decode (tb_mb 130) 15 = .ok (.return_, 1) := by decide +kernel
def b_130_0 (x1 : Int32) (I : dI) (J : dJ) : Option (dI × dJ) := lt_ (sI I 92 34 x1) (fun I1 => lt_ (sI I1 92 32 0) (fun I2 => lt_ (sJ J 92 35 0) (fun J3 => some (I2, J3))))
theorem p_130_0 {Q : Nat → Option Nat} {D : Nat} (hD : 1 ≤ D) (x1 : Int32) (I : dI) (J : dJ) (R : (dI × dJ)) (h : b_130_0 x1 I J = some R) : Rn Q D 130 0 [(0, .ref 92), (1, .int x1)] [] I J (none) R.1 R.2 := by
  replace h : (lt_ (sI I 92 34 x1) (fun I1 => lt_ (sI I1 92 32 0) (fun I2 => lt_ (sJ J 92 35 0) (fun J3 => some (I2, J3))))) = some R := h
  refine Rn.pu (st' := [.ref 92]) dk_130_0 L_130 rfl ?_
  refine Rn.pu (st' := [.int x1, .ref 92]) dk_130_1 L_130 rfl ?_
  obtain ⟨I1, eI1, h⟩ := letS h
  refine Rn.pI dk_130_2 f_130_2.choose_spec.1 sk_92 rfl f_130_2.choose_spec.2 rfl rfl ?_
  rw [← eI1]
  refine Rn.pu (st' := [.ref 92]) dk_130_5 L_130 rfl ?_
  refine Rn.ic dk_130_6 cic_0 ?_
  obtain ⟨I2, eI2, h⟩ := letS h
  refine Rn.pI dk_130_7 f_130_7.choose_spec.1 sk_92 rfl f_130_7.choose_spec.2 rfl rfl ?_
  rw [← eI2]
  refine Rn.pu (st' := [.ref 92]) dk_130_10 L_130 rfl ?_
  refine Rn.lc dk_130_11 clc_0 ?_
  obtain ⟨J3, eJ3, h⟩ := letS h
  refine Rn.pJ dk_130_12 f_130_12.choose_spec.1 sk_92 rfl f_130_12.choose_spec.2 rfl rfl ?_
  rw [← eJ3]
  cases h
  exact Rn.rv dk_130_15 R_130
def m_130 (x1 : Int32) (I : dI) (J : dJ) : Option (dI × dJ) := b_130_0 x1 I J
theorem x_130 {Q : Nat → Option Nat} {D : Nat} (hD : 2 ≤ D) {x1 : Int32} {I : dI} {J : dJ} {R : (dI × dJ)} (h : m_130 x1 I J = some R) : Ex Q D 130 I J [.ref 92, .int x1] (none) R.1 R.2 := by
  obtain ⟨D, rfl⟩ : ∃ D', D = D' + 1 := ⟨D - 1, by omega⟩
  exact Ex.of (by decide) (by rw [L_130]; exact Nat.le_of_ble_eq_true rfl) (show xm_sub [(0, .ref 92), (1, .int x1)] [(0, .ref 92), (1, .int x1)] from xm_sub_of [0, 1] [0, 1] rfl rfl (by decide)) (p_130_0 (Nat.le_of_succ_le_succ hD) _ _ _ _ h)
-- ConditionDeskModel.access(IJ)V
theorem L_129 : tb_mL 129 = 7 := by decide +kernel
theorem R_129 : tb_mr 129 = none := by decide +kernel
theorem dk_129_0 : decode (tb_mb 129) 0 = .ok (.iload_n 1, 1) := by decide +kernel
theorem dk_129_1 : decode (tb_mb 129) 1 = .ok (.bipush (32), 2) := by decide +kernel
theorem dk_129_3 : decode (tb_mb 129) 3 = .ok (.if_icmp .ne (7), 3) := by decide +kernel
theorem dk_129_10 : decode (tb_mb 129) 10 = .ok (.iload_n 1, 1) := by decide +kernel
theorem dk_129_11 : decode (tb_mb 129) 11 = .ok (.bipush (7), 2) := by decide +kernel
theorem dk_129_13 : decode (tb_mb 129) 13 = .ok (.if_icmp .ne (7), 3) := by decide +kernel
theorem dk_129_20 : decode (tb_mb 129) 20 = .ok (.iconst (1), 1) := by decide +kernel
theorem dk_129_21 : decode (tb_mb 129) 21 = .ok (.istore 4, 2) := by decide +kernel
theorem dk_129_23 : decode (tb_mb 129) 23 = .ok (.lload_n 2, 1) := by decide +kernel
theorem dk_129_24 : decode (tb_mb 129) 24 = .ok (.lconst 0, 1) := by decide +kernel
theorem dk_129_25 : decode (tb_mb 129) 25 = .ok (.ldc2_w 201, 3) := by decide +kernel
theorem kl_129_25 : tb_kl (tb_oc 129) 201 = some (255) := by decide +kernel
theorem dk_129_28 : decode (tb_mb 129) 28 = .ok (.invokestatic 184, 3) := by decide +kernel
theorem ck_129_28 : ∃ b, tb_cr (tb_oc 129) 184 = some (1, 98, b, 3) := ⟨_, rfl⟩
theorem dk_129_31 : decode (tb_mb 129) 31 = .ok (.ifCond .eq (13), 3) := by decide +kernel
theorem dk_129_44 : decode (tb_mb 129) 44 = .ok (.aload_n 0, 1) := by decide +kernel
theorem dk_129_45 : decode (tb_mb 129) 45 = .ok (.iconst (2), 1) := by decide +kernel
theorem dk_129_46 : decode (tb_mb 129) 46 = .ok (.invokevirtual 249, 3) := by decide +kernel
theorem ck_129_46 : ∃ b, tb_cr (tb_oc 129) 249 = some (0, 130, b, 1) := ⟨_, rfl⟩
theorem dk_129_49 : decode (tb_mb 129) 49 = .ok (.return_, 1) := by decide +kernel
theorem dk_129_34 : decode (tb_mb 129) 34 = .ok (.lload_n 2, 1) := by decide +kernel
theorem dk_129_35 : decode (tb_mb 129) 35 = .ok (.iload 4, 2) := by decide +kernel
theorem dk_129_37 : decode (tb_mb 129) 37 = .ok (.i2l, 1) := by decide +kernel
theorem dk_129_38 : decode (tb_mb 129) 38 = .ok (.lrem, 1) := by decide +kernel
theorem dk_129_39 : decode (tb_mb 129) 39 = .ok (.lconst 0, 1) := by decide +kernel
theorem dk_129_40 : decode (tb_mb 129) 40 = .ok (.lcmp, 1) := by decide +kernel
theorem dk_129_41 : decode (tb_mb 129) 41 = .ok (.ifCond .eq (9), 3) := by decide +kernel
theorem dk_129_50 : decode (tb_mb 129) 50 = .ok (.iconst (0), 1) := by decide +kernel
theorem dk_129_51 : decode (tb_mb 129) 51 = .ok (.istore 5, 2) := by decide +kernel
theorem dk_129_53 : decode (tb_mb 129) 53 = .ok (.iconst (0), 1) := by decide +kernel
theorem dk_129_54 : decode (tb_mb 129) 54 = .ok (.istore 6, 2) := by decide +kernel
theorem dk_129_56 : decode (tb_mb 129) 56 = .ok (.iload 6, 2) := by decide +kernel
theorem dk_129_58 : decode (tb_mb 129) 58 = .ok (.iload 4, 2) := by decide +kernel
theorem dk_129_60 : decode (tb_mb 129) 60 = .ok (.if_icmp .ge (30), 3) := by decide +kernel
theorem dk_129_90 : decode (tb_mb 129) 90 = .ok (.aload_n 0, 1) := by decide +kernel
theorem dk_129_91 : decode (tb_mb 129) 91 = .ok (.iload 4, 2) := by decide +kernel
theorem dk_129_93 : decode (tb_mb 129) 93 = .ok (.iconst (2), 1) := by decide +kernel
theorem dk_129_94 : decode (tb_mb 129) 94 = .ok (.if_icmp .ne (15), 3) := by decide +kernel
theorem dk_129_109 : decode (tb_mb 129) 109 = .ok (.iload 5, 2) := by decide +kernel
theorem dk_129_111 : decode (tb_mb 129) 111 = .ok (.i2l, 1) := by decide +kernel
theorem dk_129_112 : decode (tb_mb 129) 112 = .ok (.invokevirtual 235, 3) := by decide +kernel
theorem ck_129_112 : ∃ b, tb_cr (tb_oc 129) 235 = some (0, 125, b, 1) := ⟨_, rfl⟩
theorem dk_129_115 : decode (tb_mb 129) 115 = .ok (.return_, 1) := by decide +kernel
theorem dk_129_97 : decode (tb_mb 129) 97 = .ok (.iload 5, 2) := by decide +kernel
theorem dk_129_99 : decode (tb_mb 129) 99 = .ok (.bipush (16), 2) := by decide +kernel
theorem dk_129_101 : decode (tb_mb 129) 101 = .ok (.ishl, 1) := by decide +kernel
theorem dk_129_102 : decode (tb_mb 129) 102 = .ok (.bipush (16), 2) := by decide +kernel
theorem dk_129_104 : decode (tb_mb 129) 104 = .ok (.ishr, 1) := by decide +kernel
theorem dk_129_105 : decode (tb_mb 129) 105 = .ok (.i2l, 1) := by decide +kernel
theorem dk_129_106 : decode (tb_mb 129) 106 = .ok (.goto (6), 3) := by decide +kernel
theorem dk_129_63 : decode (tb_mb 129) 63 = .ok (.iload 5, 2) := by decide +kernel
theorem dk_129_65 : decode (tb_mb 129) 65 = .ok (.aload_n 0, 1) := by decide +kernel
theorem dk_129_66 : decode (tb_mb 129) 66 = .ok (.getfield 17, 3) := by decide +kernel
theorem f_129_66 : ∃ b, tb_fr (tb_oc 129) 17 = some (9, 4, b) := ⟨_, rfl⟩
theorem dk_129_69 : decode (tb_mb 129) 69 = .ok (.lload_n 2, 1) := by decide +kernel
theorem dk_129_70 : decode (tb_mb 129) 70 = .ok (.l2i, 1) := by decide +kernel
theorem dk_129_71 : decode (tb_mb 129) 71 = .ok (.iload 6, 2) := by decide +kernel
theorem dk_129_73 : decode (tb_mb 129) 73 = .ok (.iadd, 1) := by decide +kernel
theorem dk_129_74 : decode (tb_mb 129) 74 = .ok (.iaload, 1) := by decide +kernel
theorem dk_129_75 : decode (tb_mb 129) 75 = .ok (.bipush (8), 2) := by decide +kernel
theorem dk_129_77 : decode (tb_mb 129) 77 = .ok (.iload 6, 2) := by decide +kernel
theorem dk_129_79 : decode (tb_mb 129) 79 = .ok (.imul, 1) := by decide +kernel
theorem dk_129_80 : decode (tb_mb 129) 80 = .ok (.ishl, 1) := by decide +kernel
theorem dk_129_81 : decode (tb_mb 129) 81 = .ok (.ior, 1) := by decide +kernel
theorem dk_129_82 : decode (tb_mb 129) 82 = .ok (.istore 5, 2) := by decide +kernel
theorem dk_129_84 : decode (tb_mb 129) 84 = .ok (.iinc 6 (1), 3) := by decide +kernel
theorem dk_129_87 : decode (tb_mb 129) 87 = .ok (.goto (-31), 3) := by decide +kernel
theorem dk_129_16 : decode (tb_mb 129) 16 = .ok (.iconst (2), 1) := by decide +kernel
theorem dk_129_17 : decode (tb_mb 129) 17 = .ok (.goto (4), 3) := by decide +kernel
theorem dk_129_6 : decode (tb_mb 129) 6 = .ok (.iconst (4), 1) := by decide +kernel
theorem dk_129_7 : decode (tb_mb 129) 7 = .ok (.goto (14), 3) := by decide +kernel
def b_129_44 (I : dI) (J : dJ) : Option (dI × dJ) := (m_130 2 I J).bind (fun r6 => some (r6.1, r6.2))
theorem p_129_44 {Q : Nat → Option Nat} {D : Nat} (hD : 2 ≤ D) (I : dI) (J : dJ) (R : (dI × dJ)) (h : b_129_44 I J = some R) : Rn Q D 129 44 [(0, .ref 92)] [] I J (none) R.1 R.2 := by
  replace h : ((m_130 2 I J).bind (fun r6 => some (r6.1, r6.2))) = some R := h
  refine Rn.pu (st' := [.ref 92]) dk_129_44 L_129 rfl ?_
  refine Rn.ic dk_129_45 cic_2 ?_
  obtain ⟨r6, e7, h⟩ := bindS h
  refine Rn.cvV (p := 92) (As := [.int 2]) (rest := []) dk_129_46 ck_129_46.choose_spec rfl sk_92 rfl (x_130 (Nat.le_trans (Nat.le_of_ble_eq_true rfl) hD) e7) ?_
  cases h
  exact Rn.rv dk_129_49 R_129
def b_129_112 (s0 : Int64) (I : dI) (J : dJ) : Option (dI × dJ) := (m_125 s0 I J).bind (fun r12 => some (r12.1, r12.2))
theorem p_129_112 {Q : Nat → Option Nat} {D : Nat} (hD : 2 ≤ D) (s0 : Int64) (I : dI) (J : dJ) (R : (dI × dJ)) (h : b_129_112 s0 I J = some R) : Rn Q D 129 112 [] [.long s0, .ref 92] I J (none) R.1 R.2 := by
  replace h : ((m_125 s0 I J).bind (fun r12 => some (r12.1, r12.2))) = some R := h
  obtain ⟨r12, e13, h⟩ := bindS h
  refine Rn.cvV (p := 92) (As := [.long s0]) (rest := []) dk_129_112 ck_129_112.choose_spec rfl sk_92 rfl (x_125 (Nat.le_trans (Nat.le_of_ble_eq_true rfl) hD) e13) ?_
  cases h
  exact Rn.rv dk_129_115 R_129
def b_129_56 : Nat → Int64 → Int32 → Int32 → Int32 → dI → dJ → Option (dI × dJ)
  | 0, _, _, _, _, _, _ => none
  | n + 1, x2, x4, x5, x6, I, J => if x4 ≤ x6 then (if ¬ x4 = 2 then (b_129_112 (Int32.toInt64 x5) I J) else (b_129_112 (Int32.toInt64 ((x5 <<< (16 &&& 31)) >>> (16 &&& 31))) I J)) else (if ¬ (((Int64.toInt32 x2) + x6) < 0 ∨ 256 ≤ Int32.toNatClampNeg ((Int64.toInt32 x2) + x6)) then ((b_129_56 n) x2 x4 (x5 ||| ((I 95 (Int32.toNatClampNeg ((Int64.toInt32 x2) + x6))) <<< ((8 * x6) &&& 31))) (x6 + 1) I J) else none)
theorem p_129_56 {Q : Nat → Option Nat} {D : Nat} (hD : 2 ≤ D) : ∀ (n : Nat) (x2 : Int64) (x4 : Int32) (x5 : Int32) (x6 : Int32) (I : dI) (J : dJ) (R : (dI × dJ)), b_129_56 n x2 x4 x5 x6 I J = some R → Rn Q D 129 56 [(0, .ref 92), (2, .long x2), (4, .int x4), (5, .int x5), (6, .int x6)] [] I J (none) R.1 R.2 := by
  intro n
  induction n with
  | zero => intro x2 x4 x5 x6 I J R h; exact absurd h (by simp [b_129_56])
  | succ n ih =>
    intro x2 x4 x5 x6 I J R h
    replace h : (if x4 ≤ x6 then (if ¬ x4 = 2 then (b_129_112 (Int32.toInt64 x5) I J) else (b_129_112 (Int32.toInt64 ((x5 <<< (16 &&& 31)) >>> (16 &&& 31))) I J)) else (if ¬ (((Int64.toInt32 x2) + x6) < 0 ∨ 256 ≤ Int32.toNatClampNeg ((Int64.toInt32 x2) + x6)) then ((b_129_56 n) x2 x4 (x5 ||| ((I 95 (Int32.toNatClampNeg ((Int64.toInt32 x2) + x6))) <<< ((8 * x6) &&& 31))) (x6 + 1) I J) else none)) = some R := h
    refine Rn.pu (st' := [.int x6]) dk_129_56 L_129 rfl ?_
    refine Rn.pu (st' := [.int x4, .int x6]) dk_129_58 L_129 rfl ?_
    by_cases c10 : x4 ≤ x6
    · rw [if_pos c10] at h
      refine Rn.i2t (t := 90) dk_129_60 rfl (decide_eq_true c10) ?_
      refine Rn.pu (st' := [.ref 92]) dk_129_90 L_129 rfl ?_
      refine Rn.pu (st' := [.int x4, .ref 92]) dk_129_91 L_129 rfl ?_
      refine Rn.ic dk_129_93 cic_2 ?_
      by_cases c11 : ¬ x4 = 2
      · rw [if_pos c11] at h
        refine Rn.i2t (t := 109) dk_129_94 rfl (decide_eq_true c11) ?_
        refine Rn.pu (st' := [.int x5, .ref 92]) dk_129_109 L_129 rfl ?_
        refine Rn.pu (st' := [.long (Int32.toInt64 x5), .ref 92]) dk_129_111 L_129 rfl ?_
        exact Rn.wk [] rfl (p_129_112 hD _ _ _ _ h)
      · rw [if_neg c11] at h
        refine Rn.i2f (t := 109) dk_129_94 rfl (decide_eq_false c11) ?_
        refine Rn.pu (st' := [.int x5, .ref 92]) dk_129_97 L_129 rfl ?_
        refine Rn.bp dk_129_99 cbp_16 ?_
        refine Rn.pu (st' := [.int (x5 <<< (16 &&& 31)), .ref 92]) dk_129_101 L_129 rfl ?_
        refine Rn.bp dk_129_102 cbp_16 ?_
        refine Rn.pu (st' := [.int ((x5 <<< (16 &&& 31)) >>> (16 &&& 31)), .ref 92]) dk_129_104 L_129 rfl ?_
        refine Rn.pu (st' := [.long (Int32.toInt64 ((x5 <<< (16 &&& 31)) >>> (16 &&& 31))), .ref 92]) dk_129_105 L_129 rfl ?_
        refine Rn.gt (t := 112) dk_129_106 rfl ?_
        exact Rn.wk [] rfl (p_129_112 hD _ _ _ _ h)
    · rw [if_neg c10] at h
      refine Rn.i2f (t := 90) dk_129_60 rfl (decide_eq_false c10) ?_
      refine Rn.pu (st' := [.int x5]) dk_129_63 L_129 rfl ?_
      refine Rn.pu (st' := [.ref 92, .int x5]) dk_129_65 L_129 rfl ?_
      refine Rn.gR (r := 95) dk_129_66 f_129_66.choose_spec sk_92 rfl ?_
      refine Rn.pu (st' := [.long x2, .ref 95, .int x5]) dk_129_69 L_129 rfl ?_
      refine Rn.pu (st' := [.int (Int64.toInt32 x2), .ref 95, .int x5]) dk_129_70 L_129 rfl ?_
      refine Rn.pu (st' := [.int x6, .int (Int64.toInt32 x2), .ref 95, .int x5]) dk_129_71 L_129 rfl ?_
      refine Rn.pu (st' := [.int ((Int64.toInt32 x2) + x6), .ref 95, .int x5]) dk_129_73 L_129 rfl ?_
      obtain ⟨c12, h⟩ := xm_if h
      refine Rn.iald dk_129_74 sk_95 c12 ?_
      refine Rn.bp dk_129_75 cbp_8 ?_
      refine Rn.pu (st' := [.int x6, .int 8, .int (I 95 (Int32.toNatClampNeg ((Int64.toInt32 x2) + x6))), .int x5]) dk_129_77 L_129 rfl ?_
      refine Rn.pu (st' := [.int (8 * x6), .int (I 95 (Int32.toNatClampNeg ((Int64.toInt32 x2) + x6))), .int x5]) dk_129_79 L_129 rfl ?_
      refine Rn.pu (st' := [.int ((I 95 (Int32.toNatClampNeg ((Int64.toInt32 x2) + x6))) <<< ((8 * x6) &&& 31)), .int x5]) dk_129_80 L_129 rfl ?_
      refine Rn.pu (st' := [.int (x5 ||| ((I 95 (Int32.toNatClampNeg ((Int64.toInt32 x2) + x6))) <<< ((8 * x6) &&& 31)))]) dk_129_81 L_129 rfl ?_
      refine Rn.pu (ls' := [(5, .int (x5 ||| ((I 95 (Int32.toNatClampNeg ((Int64.toInt32 x2) + x6))) <<< ((8 * x6) &&& 31)))), (0, .ref 92), (2, .long x2), (4, .int x4), (6, .int x6)]) (st' := []) dk_129_82 L_129 rfl ?_
      refine Rn.inc (ls' := [(6, .int (x6 + 1)), (5, .int (x5 ||| ((I 95 (Int32.toNatClampNeg ((Int64.toInt32 x2) + x6))) <<< ((8 * x6) &&& 31)))), (0, .ref 92), (2, .long x2), (4, .int x4)]) dk_129_84 L_129 (by decide) cic_1 rfl rfl ?_
      refine Rn.gt (t := 56) dk_129_87 rfl ?_
      exact Rn.wk [2, 3, 4, 1, 0] rfl (ih _ _ _ _ _ _ _ h)
def b_129_21 (x2 : Int64) (s0 : Int32) (I : dI) (J : dJ) : Option (dI × dJ) := (m_98 x2 0 255 I J).bind (fun r3 => if r3 = 0 then (b_129_44 I J) else (if ¬ (Int32.toInt64 s0) = 0 then (if (lg_cmp (x2 - x2 / (Int32.toInt64 s0) * (Int32.toInt64 s0)) 0) = 0 then (b_129_56 FU x2 s0 0 0 I J) else (b_129_44 I J)) else none))
theorem p_129_21 {Q : Nat → Option Nat} {D : Nat} (hD : 2 ≤ D) (x2 : Int64) (s0 : Int32) (I : dI) (J : dJ) (R : (dI × dJ)) (h : b_129_21 x2 s0 I J = some R) : Rn Q D 129 21 [(0, .ref 92), (2, .long x2)] [.int s0] I J (none) R.1 R.2 := by
  replace h : ((m_98 x2 0 255 I J).bind (fun r3 => if r3 = 0 then (b_129_44 I J) else (if ¬ (Int32.toInt64 s0) = 0 then (if (lg_cmp (x2 - x2 / (Int32.toInt64 s0) * (Int32.toInt64 s0)) 0) = 0 then (b_129_56 FU x2 s0 0 0 I J) else (b_129_44 I J)) else none))) = some R := h
  refine Rn.pu (ls' := [(4, .int s0), (0, .ref 92), (2, .long x2)]) (st' := []) dk_129_21 L_129 rfl ?_
  refine Rn.pu (st' := [.long x2]) dk_129_23 L_129 rfl ?_
  refine Rn.lc dk_129_24 clc_0 ?_
  refine Rn.ldl dk_129_25 kl_129_25 ?_
  obtain ⟨r3, e4, h⟩ := bindS h
  refine Rn.csI (As := [.long x2, .long 0, .long 255]) (rest := []) dk_129_28 ck_129_28.choose_spec rfl (x_98 (Nat.le_trans (Nat.le_of_ble_eq_true rfl) hD) e4) ?_
  by_cases c5 : r3 = 0
  · rw [if_pos c5] at h
    refine Rn.i1t (t := 44) dk_129_31 rfl (decide_eq_true c5) ?_
    exact Rn.wk [1] rfl (p_129_44 hD _ _ _ h)
  · rw [if_neg c5] at h
    refine Rn.i1f (t := 44) dk_129_31 rfl (decide_eq_false c5) ?_
    refine Rn.pu (st' := [.long x2]) dk_129_34 L_129 rfl ?_
    refine Rn.pu (st' := [.int s0, .long x2]) dk_129_35 L_129 rfl ?_
    refine Rn.pu (st' := [.long (Int32.toInt64 s0), .long x2]) dk_129_37 L_129 rfl ?_
    obtain ⟨c6, h⟩ := xm_if h
    refine Rn.lrm dk_129_38 c6 ?_
    refine Rn.lc dk_129_39 clc_0 ?_
    refine Rn.pu (st' := [.int (lg_cmp (x2 - x2 / (Int32.toInt64 s0) * (Int32.toInt64 s0)) 0)]) dk_129_40 L_129 rfl ?_
    by_cases c7 : (lg_cmp (x2 - x2 / (Int32.toInt64 s0) * (Int32.toInt64 s0)) 0) = 0
    · rw [if_pos c7] at h
      refine Rn.i1t (t := 50) dk_129_41 rfl (decide_eq_true c7) ?_
      refine Rn.ic dk_129_50 cic_0 ?_
      refine Rn.pu (ls' := [(5, .int 0), (4, .int s0), (0, .ref 92), (2, .long x2)]) (st' := []) dk_129_51 L_129 rfl ?_
      refine Rn.ic dk_129_53 cic_0 ?_
      refine Rn.pu (ls' := [(6, .int 0), (5, .int 0), (4, .int s0), (0, .ref 92), (2, .long x2)]) (st' := []) dk_129_54 L_129 rfl ?_
      exact Rn.wk [3, 4, 2, 1, 0] rfl (p_129_56 hD FU _ _ _ _ _ _ _ h)
    · rw [if_neg c7] at h
      refine Rn.i1f (t := 50) dk_129_41 rfl (decide_eq_false c7) ?_
      exact Rn.wk [1] rfl (p_129_44 hD _ _ _ h)
def b_129_0 (x1 : Int32) (x2 : Int64) (I : dI) (J : dJ) : Option (dI × dJ) := if ¬ x1 = 32 then (if ¬ x1 = 7 then (b_129_21 x2 1 I J) else (b_129_21 x2 2 I J)) else (b_129_21 x2 4 I J)
theorem p_129_0 {Q : Nat → Option Nat} {D : Nat} (hD : 2 ≤ D) (x1 : Int32) (x2 : Int64) (I : dI) (J : dJ) (R : (dI × dJ)) (h : b_129_0 x1 x2 I J = some R) : Rn Q D 129 0 [(0, .ref 92), (1, .int x1), (2, .long x2)] [] I J (none) R.1 R.2 := by
  replace h : (if ¬ x1 = 32 then (if ¬ x1 = 7 then (b_129_21 x2 1 I J) else (b_129_21 x2 2 I J)) else (b_129_21 x2 4 I J)) = some R := h
  refine Rn.pu (st' := [.int x1]) dk_129_0 L_129 rfl ?_
  refine Rn.bp dk_129_1 cbp_32 ?_
  by_cases c1 : ¬ x1 = 32
  · rw [if_pos c1] at h
    refine Rn.i2t (t := 10) dk_129_3 rfl (decide_eq_true c1) ?_
    refine Rn.pu (st' := [.int x1]) dk_129_10 L_129 rfl ?_
    refine Rn.bp dk_129_11 cbp_7 ?_
    by_cases c2 : ¬ x1 = 7
    · rw [if_pos c2] at h
      refine Rn.i2t (t := 20) dk_129_13 rfl (decide_eq_true c2) ?_
      refine Rn.ic dk_129_20 cic_1 ?_
      exact Rn.wk [0, 2] rfl (p_129_21 hD _ _ _ _ _ h)
    · rw [if_neg c2] at h
      refine Rn.i2f (t := 20) dk_129_13 rfl (decide_eq_false c2) ?_
      refine Rn.ic dk_129_16 cic_2 ?_
      refine Rn.gt (t := 21) dk_129_17 rfl ?_
      exact Rn.wk [0, 2] rfl (p_129_21 hD _ _ _ _ _ h)
  · rw [if_neg c1] at h
    refine Rn.i2f (t := 10) dk_129_3 rfl (decide_eq_false c1) ?_
    refine Rn.ic dk_129_6 cic_4 ?_
    refine Rn.gt (t := 21) dk_129_7 rfl ?_
    exact Rn.wk [0, 2] rfl (p_129_21 hD _ _ _ _ _ h)
def m_129 (x1 : Int32) (x2 : Int64) (I : dI) (J : dJ) : Option (dI × dJ) := b_129_0 x1 x2 I J
theorem x_129 {Q : Nat → Option Nat} {D : Nat} (hD : 3 ≤ D) {x1 : Int32} {x2 : Int64} {I : dI} {J : dJ} {R : (dI × dJ)} (h : m_129 x1 x2 I J = some R) : Ex Q D 129 I J [.ref 92, .int x1, .long x2] (none) R.1 R.2 := by
  obtain ⟨D, rfl⟩ : ∃ D', D = D' + 1 := ⟨D - 1, by omega⟩
  exact Ex.of (by decide) (by rw [L_129]; exact Nat.le_of_ble_eq_true rfl) (show xm_sub [(0, .ref 92), (1, .int x1), (2, .long x2)] [(0, .ref 92), (1, .int x1), (2, .long x2)] from xm_sub_of [0, 1, 2] [0, 1, 2] rfl rfl (by decide)) (p_129_0 (Nat.le_of_succ_le_succ hD) _ _ _ _ _ h)
