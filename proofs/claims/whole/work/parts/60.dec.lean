/-! Printed by wip/whole/gen_dec.py: methods read back. -/
-- ConditionDeskModel.work(III)J
theorem L_120 : tb_mL 120 = 6 := by decide +kernel
theorem R_120 : tb_mr 120 = some .long := by decide +kernel
theorem dk_120_0 : decode (tb_mb 120) 0 = .ok (.aload_n 0, 1) := by decide +kernel
theorem dk_120_1 : decode (tb_mb 120) 1 = .ok (.aload_n 0, 1) := by decide +kernel
theorem dk_120_2 : decode (tb_mb 120) 2 = .ok (.iconst (0), 1) := by decide +kernel
theorem dk_120_3 : decode (tb_mb 120) 3 = .ok (.dup_x1, 1) := by decide +kernel
theorem dk_120_4 : decode (tb_mb 120) 4 = .ok (.putfield 212, 3) := by decide +kernel
theorem f_120_4 : ∃ b, tb_fr (tb_oc 120) 212 = some (9, 34, b) ∧ xm_fin tb_cl (tb_ini 120) b 9 34 = true := ⟨_, rfl, rfl⟩
theorem dk_120_7 : decode (tb_mb 120) 7 = .ok (.putfield 206, 3) := by decide +kernel
theorem f_120_7 : ∃ b, tb_fr (tb_oc 120) 206 = some (9, 32, b) ∧ xm_fin tb_cl (tb_ini 120) b 9 32 = true := ⟨_, rfl, rfl⟩
theorem dk_120_10 : decode (tb_mb 120) 10 = .ok (.aload_n 0, 1) := by decide +kernel
theorem dk_120_11 : decode (tb_mb 120) 11 = .ok (.iload_n 2, 1) := by decide +kernel
theorem dk_120_12 : decode (tb_mb 120) 12 = .ok (.iload_n 3, 1) := by decide +kernel
theorem dk_120_13 : decode (tb_mb 120) 13 = .ok (.invokevirtual 215, 3) := by decide +kernel
theorem ck_120_13 : ∃ b, tb_cr (tb_oc 120) 215 = some (0, 121, b, 2) := ⟨_, rfl⟩
theorem dk_120_16 : decode (tb_mb 120) 16 = .ok (.iconst (0), 1) := by decide +kernel
theorem dk_120_17 : decode (tb_mb 120) 17 = .ok (.istore 4, 2) := by decide +kernel
theorem dk_120_19 : decode (tb_mb 120) 19 = .ok (.iload 4, 2) := by decide +kernel
theorem dk_120_21 : decode (tb_mb 120) 21 = .ok (.sipush (2000), 3) := by decide +kernel
theorem dk_120_24 : decode (tb_mb 120) 24 = .ok (.if_icmp .ge (71), 3) := by decide +kernel
theorem dk_120_95 : decode (tb_mb 120) 95 = .ok (.aload_n 0, 1) := by decide +kernel
theorem dk_120_96 : decode (tb_mb 120) 96 = .ok (.getfield 209, 3) := by decide +kernel
theorem f_120_96 : ∃ b, tb_fr (tb_oc 120) 209 = some (9, 35, b) := ⟨_, rfl⟩
theorem dk_120_99 : decode (tb_mb 120) 99 = .ok (.lreturn, 1) := by decide +kernel
theorem dk_120_27 : decode (tb_mb 120) 27 = .ok (.aload_n 0, 1) := by decide +kernel
theorem dk_120_28 : decode (tb_mb 120) 28 = .ok (.getfield 206, 3) := by decide +kernel
theorem f_120_28 : ∃ b, tb_fr (tb_oc 120) 206 = some (9, 32, b) := ⟨_, rfl⟩
theorem dk_120_31 : decode (tb_mb 120) 31 = .ok (.ifCond .le (64), 3) := by decide +kernel
theorem dk_120_34 : decode (tb_mb 120) 34 = .ok (.aload_n 0, 1) := by decide +kernel
theorem dk_120_35 : decode (tb_mb 120) 35 = .ok (.getfield 206, 3) := by decide +kernel
theorem f_120_35 : ∃ b, tb_fr (tb_oc 120) 206 = some (9, 32, b) := ⟨_, rfl⟩
theorem dk_120_38 : decode (tb_mb 120) 38 = .ok (.iconst (1), 1) := by decide +kernel
theorem dk_120_39 : decode (tb_mb 120) 39 = .ok (.isub, 1) := by decide +kernel
theorem dk_120_40 : decode (tb_mb 120) 40 = .ok (.istore 5, 2) := by decide +kernel
theorem dk_120_42 : decode (tb_mb 120) 42 = .ok (.aload_n 0, 1) := by decide +kernel
theorem dk_120_43 : decode (tb_mb 120) 43 = .ok (.getfield 85, 3) := by decide +kernel
theorem f_120_43 : ∃ b, tb_fr (tb_oc 120) 85 = some (9, 39, b) := ⟨_, rfl⟩
theorem dk_120_46 : decode (tb_mb 120) 46 = .ok (.iload 5, 2) := by decide +kernel
theorem dk_120_48 : decode (tb_mb 120) 48 = .ok (.iaload, 1) := by decide +kernel
theorem dk_120_49 : decode (tb_mb 120) 49 = .ok (.ifCond .ne (13), 3) := by decide +kernel
theorem dk_120_62 : decode (tb_mb 120) 62 = .ok (.aload_n 0, 1) := by decide +kernel
theorem dk_120_63 : decode (tb_mb 120) 63 = .ok (.getfield 85, 3) := by decide +kernel
theorem f_120_63 : ∃ b, tb_fr (tb_oc 120) 85 = some (9, 39, b) := ⟨_, rfl⟩
theorem dk_120_66 : decode (tb_mb 120) 66 = .ok (.iload 5, 2) := by decide +kernel
theorem dk_120_68 : decode (tb_mb 120) 68 = .ok (.iaload, 1) := by decide +kernel
theorem dk_120_69 : decode (tb_mb 120) 69 = .ok (.iconst (1), 1) := by decide +kernel
theorem dk_120_70 : decode (tb_mb 120) 70 = .ok (.if_icmp .ne (12), 3) := by decide +kernel
theorem dk_120_82 : decode (tb_mb 120) 82 = .ok (.aload_n 0, 1) := by decide +kernel
theorem dk_120_83 : decode (tb_mb 120) 83 = .ok (.iload_n 1, 1) := by decide +kernel
theorem dk_120_84 : decode (tb_mb 120) 84 = .ok (.iload 5, 2) := by decide +kernel
theorem dk_120_86 : decode (tb_mb 120) 86 = .ok (.invokevirtual 225, 3) := by decide +kernel
theorem ck_120_86 : ∃ b, tb_cr (tb_oc 120) 225 = some (0, 127, b, 2) := ⟨_, rfl⟩
theorem dk_120_89 : decode (tb_mb 120) 89 = .ok (.iinc 4 (1), 3) := by decide +kernel
theorem dk_120_92 : decode (tb_mb 120) 92 = .ok (.goto (-73), 3) := by decide +kernel
theorem dk_120_73 : decode (tb_mb 120) 73 = .ok (.aload_n 0, 1) := by decide +kernel
theorem dk_120_74 : decode (tb_mb 120) 74 = .ok (.iload 5, 2) := by decide +kernel
theorem dk_120_76 : decode (tb_mb 120) 76 = .ok (.invokevirtual 221, 3) := by decide +kernel
theorem ck_120_76 : ∃ b, tb_cr (tb_oc 120) 221 = some (0, 126, b, 1) := ⟨_, rfl⟩
theorem dk_120_79 : decode (tb_mb 120) 79 = .ok (.goto (10), 3) := by decide +kernel
theorem dk_120_52 : decode (tb_mb 120) 52 = .ok (.aload_n 0, 1) := by decide +kernel
theorem dk_120_53 : decode (tb_mb 120) 53 = .ok (.iload_n 1, 1) := by decide +kernel
theorem dk_120_54 : decode (tb_mb 120) 54 = .ok (.iload 5, 2) := by decide +kernel
theorem dk_120_56 : decode (tb_mb 120) 56 = .ok (.invokevirtual 218, 3) := by decide +kernel
theorem ck_120_56 : ∃ b, tb_cr (tb_oc 120) 218 = some (0, 122, b, 2) := ⟨_, rfl⟩
theorem dk_120_59 : decode (tb_mb 120) 59 = .ok (.goto (30), 3) := by decide +kernel
def b_120_89 (h19 : Int32 → Int32 → dI → dJ → Option (Int64 × dI × dJ)) (x1 : Int32) (x4 : Int32) (I : dI) (J : dJ) : Option (Int64 × dI × dJ) := h19 x1 (x4 + 1) I J
theorem p_120_89 {Q : Nat → Option Nat} {D : Nat} (hD : 4 ≤ D) {h19 : Int32 → Int32 → dI → dJ → Option (Int64 × dI × dJ)} (H19 : ∀ (x1 : Int32) (x4 : Int32) (I : dI) (J : dJ) (R : (Int64 × dI × dJ)), h19 x1 x4 I J = some R → Rn Q D 120 19 [(0, .ref 92), (1, .int x1), (4, .int x4)] [] I J (some (.long R.1)) R.2.1 R.2.2) (x1 : Int32) (x4 : Int32) (I : dI) (J : dJ) (R : (Int64 × dI × dJ)) (h : b_120_89 h19 x1 x4 I J = some R) : Rn Q D 120 89 [(0, .ref 92), (1, .int x1), (4, .int x4)] [] I J (some (.long R.1)) R.2.1 R.2.2 := by
  replace h : (h19 x1 (x4 + 1) I J) = some R := h
  refine Rn.inc (ls' := [(4, .int (x4 + 1)), (0, .ref 92), (1, .int x1)]) dk_120_89 L_120 (by decide) cic_1 rfl rfl ?_
  refine Rn.gt (t := 19) dk_120_92 rfl ?_
  exact Rn.wk [1, 2, 0] rfl (H19 _ _ _ _ _ h)
def b_120_19 : Nat → Int32 → Int32 → dI → dJ → Option (Int64 × dI × dJ)
  | 0, _, _, _, _ => none
  | n + 1, x1, x4, I, J => if 2000 ≤ x4 then (some ((J 92 35), I, J)) else (if (I 92 32) ≤ 0 then (some ((J 92 35), I, J)) else (if ¬ (((I 92 32) - 1) < 0 ∨ 130 ≤ Int32.toNatClampNeg ((I 92 32) - 1)) then (if ¬ (I 117 (Int32.toNatClampNeg ((I 92 32) - 1))) = 0 then (if ¬ (((I 92 32) - 1) < 0 ∨ 130 ≤ Int32.toNatClampNeg ((I 92 32) - 1)) then (if ¬ (I 117 (Int32.toNatClampNeg ((I 92 32) - 1))) = 1 then ((m_127 x1 ((I 92 32) - 1) I J).bind (fun r11 => b_120_89 (b_120_19 n) x1 x4 r11.1 r11.2)) else ((m_126 ((I 92 32) - 1) I J).bind (fun r13 => b_120_89 (b_120_19 n) x1 x4 r13.1 r13.2))) else none) else ((m_122 x1 ((I 92 32) - 1) I J).bind (fun r15 => b_120_89 (b_120_19 n) x1 x4 r15.1 r15.2))) else none))
theorem p_120_19 {Q : Nat → Option Nat} {D : Nat} (hD : 4 ≤ D) : ∀ (n : Nat) (x1 : Int32) (x4 : Int32) (I : dI) (J : dJ) (R : (Int64 × dI × dJ)), b_120_19 n x1 x4 I J = some R → Rn Q D 120 19 [(0, .ref 92), (1, .int x1), (4, .int x4)] [] I J (some (.long R.1)) R.2.1 R.2.2 := by
  intro n
  induction n with
  | zero => intro x1 x4 I J R h; exact absurd h (by simp [b_120_19])
  | succ n ih =>
    intro x1 x4 I J R h
    replace h : (if 2000 ≤ x4 then (some ((J 92 35), I, J)) else (if (I 92 32) ≤ 0 then (some ((J 92 35), I, J)) else (if ¬ (((I 92 32) - 1) < 0 ∨ 130 ≤ Int32.toNatClampNeg ((I 92 32) - 1)) then (if ¬ (I 117 (Int32.toNatClampNeg ((I 92 32) - 1))) = 0 then (if ¬ (((I 92 32) - 1) < 0 ∨ 130 ≤ Int32.toNatClampNeg ((I 92 32) - 1)) then (if ¬ (I 117 (Int32.toNatClampNeg ((I 92 32) - 1))) = 1 then ((m_127 x1 ((I 92 32) - 1) I J).bind (fun r11 => b_120_89 (b_120_19 n) x1 x4 r11.1 r11.2)) else ((m_126 ((I 92 32) - 1) I J).bind (fun r13 => b_120_89 (b_120_19 n) x1 x4 r13.1 r13.2))) else none) else ((m_122 x1 ((I 92 32) - 1) I J).bind (fun r15 => b_120_89 (b_120_19 n) x1 x4 r15.1 r15.2))) else none))) = some R := h
    refine Rn.pu (st' := [.int x4]) dk_120_19 L_120 rfl ?_
    refine Rn.sp dk_120_21 csp_2000 ?_
    by_cases c5 : 2000 ≤ x4
    · rw [if_pos c5] at h
      refine Rn.i2t (t := 95) dk_120_24 rfl (decide_eq_true c5) ?_
      refine Rn.pu (st' := [.ref 92]) dk_120_95 L_120 rfl ?_
      refine Rn.gJ dk_120_96 f_120_96.choose_spec sk_92 rfl ?_
      cases h
      exact Rn.rl dk_120_99 R_120
    · rw [if_neg c5] at h
      refine Rn.i2f (t := 95) dk_120_24 rfl (decide_eq_false c5) ?_
      refine Rn.pu (st' := [.ref 92]) dk_120_27 L_120 rfl ?_
      refine Rn.gI dk_120_28 f_120_28.choose_spec sk_92 rfl ?_
      by_cases c6 : (I 92 32) ≤ 0
      · rw [if_pos c6] at h
        refine Rn.i1t (t := 95) dk_120_31 rfl (decide_eq_true c6) ?_
        refine Rn.pu (st' := [.ref 92]) dk_120_95 L_120 rfl ?_
        refine Rn.gJ dk_120_96 f_120_96.choose_spec sk_92 rfl ?_
        cases h
        exact Rn.rl dk_120_99 R_120
      · rw [if_neg c6] at h
        refine Rn.i1f (t := 95) dk_120_31 rfl (decide_eq_false c6) ?_
        refine Rn.pu (st' := [.ref 92]) dk_120_34 L_120 rfl ?_
        refine Rn.gI dk_120_35 f_120_35.choose_spec sk_92 rfl ?_
        refine Rn.ic dk_120_38 cic_1 ?_
        refine Rn.pu (st' := [.int ((I 92 32) - 1)]) dk_120_39 L_120 rfl ?_
        refine Rn.pu (ls' := [(5, .int ((I 92 32) - 1)), (0, .ref 92), (1, .int x1), (4, .int x4)]) (st' := []) dk_120_40 L_120 rfl ?_
        refine Rn.pu (st' := [.ref 92]) dk_120_42 L_120 rfl ?_
        refine Rn.gR (r := 117) dk_120_43 f_120_43.choose_spec sk_92 rfl ?_
        refine Rn.pu (st' := [.int ((I 92 32) - 1), .ref 117]) dk_120_46 L_120 rfl ?_
        obtain ⟨c7, h⟩ := xm_if h
        refine Rn.iald dk_120_48 sk_117 c7 ?_
        by_cases c8 : ¬ (I 117 (Int32.toNatClampNeg ((I 92 32) - 1))) = 0
        · rw [if_pos c8] at h
          refine Rn.i1t (t := 62) dk_120_49 rfl (decide_eq_true c8) ?_
          refine Rn.pu (st' := [.ref 92]) dk_120_62 L_120 rfl ?_
          refine Rn.gR (r := 117) dk_120_63 f_120_63.choose_spec sk_92 rfl ?_
          refine Rn.pu (st' := [.int ((I 92 32) - 1), .ref 117]) dk_120_66 L_120 rfl ?_
          obtain ⟨c9, h⟩ := xm_if h
          refine Rn.iald dk_120_68 sk_117 c9 ?_
          refine Rn.ic dk_120_69 cic_1 ?_
          by_cases c10 : ¬ (I 117 (Int32.toNatClampNeg ((I 92 32) - 1))) = 1
          · rw [if_pos c10] at h
            refine Rn.i2t (t := 82) dk_120_70 rfl (decide_eq_true c10) ?_
            refine Rn.pu (st' := [.ref 92]) dk_120_82 L_120 rfl ?_
            refine Rn.pu (st' := [.int x1, .ref 92]) dk_120_83 L_120 rfl ?_
            refine Rn.pu (st' := [.int ((I 92 32) - 1), .int x1, .ref 92]) dk_120_84 L_120 rfl ?_
            obtain ⟨r11, e12, h⟩ := bindS h
            refine Rn.cvV (p := 92) (As := [.int x1, .int ((I 92 32) - 1)]) (rest := []) dk_120_86 ck_120_86.choose_spec rfl sk_92 rfl (x_127 (Nat.le_trans (Nat.le_of_ble_eq_true rfl) hD) e12) ?_
            exact Rn.wk [1, 2, 3] rfl (p_120_89 hD ih _ _ _ _ _ h)
          · rw [if_neg c10] at h
            refine Rn.i2f (t := 82) dk_120_70 rfl (decide_eq_false c10) ?_
            refine Rn.pu (st' := [.ref 92]) dk_120_73 L_120 rfl ?_
            refine Rn.pu (st' := [.int ((I 92 32) - 1), .ref 92]) dk_120_74 L_120 rfl ?_
            obtain ⟨r13, e14, h⟩ := bindS h
            refine Rn.cvV (p := 92) (As := [.int ((I 92 32) - 1)]) (rest := []) dk_120_76 ck_120_76.choose_spec rfl sk_92 rfl (x_126 (Nat.le_trans (Nat.le_of_ble_eq_true rfl) hD) e14) ?_
            refine Rn.gt (t := 89) dk_120_79 rfl ?_
            exact Rn.wk [1, 2, 3] rfl (p_120_89 hD ih _ _ _ _ _ h)
        · rw [if_neg c8] at h
          refine Rn.i1f (t := 62) dk_120_49 rfl (decide_eq_false c8) ?_
          refine Rn.pu (st' := [.ref 92]) dk_120_52 L_120 rfl ?_
          refine Rn.pu (st' := [.int x1, .ref 92]) dk_120_53 L_120 rfl ?_
          refine Rn.pu (st' := [.int ((I 92 32) - 1), .int x1, .ref 92]) dk_120_54 L_120 rfl ?_
          obtain ⟨r15, e16, h⟩ := bindS h
          refine Rn.cvV (p := 92) (As := [.int x1, .int ((I 92 32) - 1)]) (rest := []) dk_120_56 ck_120_56.choose_spec rfl sk_92 rfl (x_122 (Nat.le_trans (Nat.le_of_ble_eq_true rfl) hD) e16) ?_
          refine Rn.gt (t := 89) dk_120_59 rfl ?_
          exact Rn.wk [1, 2, 3] rfl (p_120_89 hD ih _ _ _ _ _ h)
def b_120_0 (x1 : Int32) (x2 : Int32) (x3 : Int32) (I : dI) (J : dJ) : Option (Int64 × dI × dJ) := lt_ (sI I 92 34 0) (fun I1 => lt_ (sI I1 92 32 0) (fun I2 => (m_121 x2 x3 I2 J).bind (fun r3 => b_120_19 FU x1 0 r3.1 r3.2)))
theorem p_120_0 {Q : Nat → Option Nat} {D : Nat} (hD : 4 ≤ D) (x1 : Int32) (x2 : Int32) (x3 : Int32) (I : dI) (J : dJ) (R : (Int64 × dI × dJ)) (h : b_120_0 x1 x2 x3 I J = some R) : Rn Q D 120 0 [(0, .ref 92), (1, .int x1), (2, .int x2), (3, .int x3)] [] I J (some (.long R.1)) R.2.1 R.2.2 := by
  replace h : (lt_ (sI I 92 34 0) (fun I1 => lt_ (sI I1 92 32 0) (fun I2 => (m_121 x2 x3 I2 J).bind (fun r3 => b_120_19 FU x1 0 r3.1 r3.2)))) = some R := h
  refine Rn.pu (st' := [.ref 92]) dk_120_0 L_120 rfl ?_
  refine Rn.pu (st' := [.ref 92, .ref 92]) dk_120_1 L_120 rfl ?_
  refine Rn.ic dk_120_2 cic_0 ?_
  refine Rn.pu (st' := [.int 0, .ref 92, .int 0, .ref 92]) dk_120_3 L_120 rfl ?_
  obtain ⟨I1, eI1, h⟩ := letS h
  refine Rn.pI dk_120_4 f_120_4.choose_spec.1 sk_92 rfl f_120_4.choose_spec.2 rfl rfl ?_
  rw [← eI1]
  obtain ⟨I2, eI2, h⟩ := letS h
  refine Rn.pI dk_120_7 f_120_7.choose_spec.1 sk_92 rfl f_120_7.choose_spec.2 rfl rfl ?_
  rw [← eI2]
  refine Rn.pu (st' := [.ref 92]) dk_120_10 L_120 rfl ?_
  refine Rn.pu (st' := [.int x2, .ref 92]) dk_120_11 L_120 rfl ?_
  refine Rn.pu (st' := [.int x3, .int x2, .ref 92]) dk_120_12 L_120 rfl ?_
  obtain ⟨r3, e4, h⟩ := bindS h
  refine Rn.cvV (p := 92) (As := [.int x2, .int x3]) (rest := []) dk_120_13 ck_120_13.choose_spec rfl sk_92 rfl (x_121 (Nat.le_trans (Nat.le_of_ble_eq_true rfl) hD) e4) ?_
  refine Rn.ic dk_120_16 cic_0 ?_
  refine Rn.pu (ls' := [(4, .int 0), (0, .ref 92), (1, .int x1), (2, .int x2), (3, .int x3)]) (st' := []) dk_120_17 L_120 rfl ?_
  exact Rn.wk [1, 2, 0] rfl (p_120_19 hD FU _ _ _ _ _ h)
def m_120 (x1 : Int32) (x2 : Int32) (x3 : Int32) (I : dI) (J : dJ) : Option (Int64 × dI × dJ) := b_120_0 x1 x2 x3 I J
theorem x_120 {Q : Nat → Option Nat} {D : Nat} (hD : 5 ≤ D) {x1 : Int32} {x2 : Int32} {x3 : Int32} {I : dI} {J : dJ} {R : (Int64 × dI × dJ)} (h : m_120 x1 x2 x3 I J = some R) : Ex Q D 120 I J [.ref 92, .int x1, .int x2, .int x3] (some (.long R.1)) R.2.1 R.2.2 := by
  obtain ⟨D, rfl⟩ : ∃ D', D = D' + 1 := ⟨D - 1, by omega⟩
  exact Ex.of (by decide) (by rw [L_120]; exact Nat.le_of_ble_eq_true rfl) (show xm_sub [(0, .ref 92), (1, .int x1), (2, .int x2), (3, .int x3)] [(0, .ref 92), (1, .int x1), (2, .int x2), (3, .int x3)] from xm_sub_of [0, 1, 2, 3] [0, 1, 2, 3] rfl rfl (by decide)) (p_120_0 (Nat.le_of_succ_le_succ hD) _ _ _ _ _ _ h)
-- ConditionDeskModel.remember(I)V
theorem L_132 : tb_mL 132 = 4 := by decide +kernel
theorem R_132 : tb_mr 132 = none := by decide +kernel
theorem dk_132_0 : decode (tb_mb 132) 0 = .ok (.bipush (120), 2) := by decide +kernel
theorem dk_132_2 : decode (tb_mb 132) 2 = .ok (.iload_n 1, 1) := by decide +kernel
theorem dk_132_3 : decode (tb_mb 132) 3 = .ok (.imul, 1) := by decide +kernel
theorem dk_132_4 : decode (tb_mb 132) 4 = .ok (.istore_n 2, 1) := by decide +kernel
theorem dk_132_5 : decode (tb_mb 132) 5 = .ok (.iconst (0), 1) := by decide +kernel
theorem dk_132_6 : decode (tb_mb 132) 6 = .ok (.istore_n 3, 1) := by decide +kernel
theorem dk_132_7 : decode (tb_mb 132) 7 = .ok (.iload_n 3, 1) := by decide +kernel
theorem dk_132_8 : decode (tb_mb 132) 8 = .ok (.aload_n 0, 1) := by decide +kernel
theorem dk_132_9 : decode (tb_mb 132) 9 = .ok (.getfield 27, 3) := by decide +kernel
theorem f_132_9 : ∃ b, tb_fr (tb_oc 132) 27 = some (9, 8, b) := ⟨_, rfl⟩
theorem dk_132_12 : decode (tb_mb 132) 12 = .ok (.iload_n 1, 1) := by decide +kernel
theorem dk_132_13 : decode (tb_mb 132) 13 = .ok (.iaload, 1) := by decide +kernel
theorem dk_132_14 : decode (tb_mb 132) 14 = .ok (.if_icmp .ge (61), 3) := by decide +kernel
theorem dk_132_75 : decode (tb_mb 132) 75 = .ok (.iconst (0), 1) := by decide +kernel
theorem dk_132_76 : decode (tb_mb 132) 76 = .ok (.istore_n 3, 1) := by decide +kernel
theorem dk_132_77 : decode (tb_mb 132) 77 = .ok (.iload_n 3, 1) := by decide +kernel
theorem dk_132_78 : decode (tb_mb 132) 78 = .ok (.aload_n 0, 1) := by decide +kernel
theorem dk_132_79 : decode (tb_mb 132) 79 = .ok (.getfield 27, 3) := by decide +kernel
theorem f_132_79 : ∃ b, tb_fr (tb_oc 132) 27 = some (9, 8, b) := ⟨_, rfl⟩
theorem dk_132_82 : decode (tb_mb 132) 82 = .ok (.iload_n 1, 1) := by decide +kernel
theorem dk_132_83 : decode (tb_mb 132) 83 = .ok (.iaload, 1) := by decide +kernel
theorem dk_132_84 : decode (tb_mb 132) 84 = .ok (.if_icmp .ge (23), 3) := by decide +kernel
theorem dk_132_107 : decode (tb_mb 132) 107 = .ok (.aload_n 0, 1) := by decide +kernel
theorem dk_132_108 : decode (tb_mb 132) 108 = .ok (.getfield 24, 3) := by decide +kernel
theorem f_132_108 : ∃ b, tb_fr (tb_oc 132) 24 = some (9, 7, b) := ⟨_, rfl⟩
theorem dk_132_111 : decode (tb_mb 132) 111 = .ok (.iload_n 1, 1) := by decide +kernel
theorem dk_132_112 : decode (tb_mb 132) 112 = .ok (.iconst (1), 1) := by decide +kernel
theorem dk_132_113 : decode (tb_mb 132) 113 = .ok (.bastore, 1) := by decide +kernel
theorem dk_132_114 : decode (tb_mb 132) 114 = .ok (.return_, 1) := by decide +kernel
theorem dk_132_87 : decode (tb_mb 132) 87 = .ok (.aload_n 0, 1) := by decide +kernel
theorem dk_132_88 : decode (tb_mb 132) 88 = .ok (.getfield 58, 3) := by decide +kernel
theorem f_132_88 : ∃ b, tb_fr (tb_oc 132) 58 = some (9, 18, b) := ⟨_, rfl⟩
theorem dk_132_91 : decode (tb_mb 132) 91 = .ok (.iload_n 2, 1) := by decide +kernel
theorem dk_132_92 : decode (tb_mb 132) 92 = .ok (.iload_n 3, 1) := by decide +kernel
theorem dk_132_93 : decode (tb_mb 132) 93 = .ok (.iadd, 1) := by decide +kernel
theorem dk_132_94 : decode (tb_mb 132) 94 = .ok (.aload_n 0, 1) := by decide +kernel
theorem dk_132_95 : decode (tb_mb 132) 95 = .ok (.getfield 61, 3) := by decide +kernel
theorem f_132_95 : ∃ b, tb_fr (tb_oc 132) 61 = some (9, 19, b) := ⟨_, rfl⟩
theorem dk_132_98 : decode (tb_mb 132) 98 = .ok (.iload_n 3, 1) := by decide +kernel
theorem dk_132_99 : decode (tb_mb 132) 99 = .ok (.laload, 1) := by decide +kernel
theorem dk_132_100 : decode (tb_mb 132) 100 = .ok (.lastore, 1) := by decide +kernel
theorem dk_132_101 : decode (tb_mb 132) 101 = .ok (.iinc 3 (1), 3) := by decide +kernel
theorem dk_132_104 : decode (tb_mb 132) 104 = .ok (.goto (-27), 3) := by decide +kernel
theorem dk_132_17 : decode (tb_mb 132) 17 = .ok (.aload_n 0, 1) := by decide +kernel
theorem dk_132_18 : decode (tb_mb 132) 18 = .ok (.getfield 49, 3) := by decide +kernel
theorem f_132_18 : ∃ b, tb_fr (tb_oc 132) 49 = some (9, 15, b) := ⟨_, rfl⟩
theorem dk_132_21 : decode (tb_mb 132) 21 = .ok (.iload_n 2, 1) := by decide +kernel
theorem dk_132_22 : decode (tb_mb 132) 22 = .ok (.iload_n 3, 1) := by decide +kernel
theorem dk_132_23 : decode (tb_mb 132) 23 = .ok (.iadd, 1) := by decide +kernel
theorem dk_132_24 : decode (tb_mb 132) 24 = .ok (.iaload, 1) := by decide +kernel
theorem dk_132_25 : decode (tb_mb 132) 25 = .ok (.bipush (8), 2) := by decide +kernel
theorem dk_132_27 : decode (tb_mb 132) 27 = .ok (.if_icmp .eq (16), 3) := by decide +kernel
theorem dk_132_43 : decode (tb_mb 132) 43 = .ok (.aload_n 0, 1) := by decide +kernel
theorem dk_132_44 : decode (tb_mb 132) 44 = .ok (.getfield 61, 3) := by decide +kernel
theorem f_132_44 : ∃ b, tb_fr (tb_oc 132) 61 = some (9, 19, b) := ⟨_, rfl⟩
theorem dk_132_47 : decode (tb_mb 132) 47 = .ok (.iload_n 3, 1) := by decide +kernel
theorem dk_132_48 : decode (tb_mb 132) 48 = .ok (.aload_n 0, 1) := by decide +kernel
theorem dk_132_49 : decode (tb_mb 132) 49 = .ok (.iload_n 1, 1) := by decide +kernel
theorem dk_132_50 : decode (tb_mb 132) 50 = .ok (.iload_n 2, 1) := by decide +kernel
theorem dk_132_51 : decode (tb_mb 132) 51 = .ok (.iload_n 3, 1) := by decide +kernel
theorem dk_132_52 : decode (tb_mb 132) 52 = .ok (.iadd, 1) := by decide +kernel
theorem dk_132_53 : decode (tb_mb 132) 53 = .ok (.iconst (2), 1) := by decide +kernel
theorem dk_132_54 : decode (tb_mb 132) 54 = .ok (.iadd, 1) := by decide +kernel
theorem dk_132_55 : decode (tb_mb 132) 55 = .ok (.aload_n 0, 1) := by decide +kernel
theorem dk_132_56 : decode (tb_mb 132) 56 = .ok (.getfield 52, 3) := by decide +kernel
theorem f_132_56 : ∃ b, tb_fr (tb_oc 132) 52 = some (9, 16, b) := ⟨_, rfl⟩
theorem dk_132_59 : decode (tb_mb 132) 59 = .ok (.iload_n 2, 1) := by decide +kernel
theorem dk_132_60 : decode (tb_mb 132) 60 = .ok (.iload_n 3, 1) := by decide +kernel
theorem dk_132_61 : decode (tb_mb 132) 61 = .ok (.iadd, 1) := by decide +kernel
theorem dk_132_62 : decode (tb_mb 132) 62 = .ok (.iconst (1), 1) := by decide +kernel
theorem dk_132_63 : decode (tb_mb 132) 63 = .ok (.iadd, 1) := by decide +kernel
theorem dk_132_64 : decode (tb_mb 132) 64 = .ok (.iaload, 1) := by decide +kernel
theorem dk_132_65 : decode (tb_mb 132) 65 = .ok (.invokevirtual 258, 3) := by decide +kernel
theorem ck_132_65 : ∃ b, tb_cr (tb_oc 132) 258 = some (0, 120, b, 3) := ⟨_, rfl⟩
theorem dk_132_68 : decode (tb_mb 132) 68 = .ok (.lastore, 1) := by decide +kernel
theorem dk_132_69 : decode (tb_mb 132) 69 = .ok (.iinc 3 (1), 3) := by decide +kernel
theorem dk_132_72 : decode (tb_mb 132) 72 = .ok (.goto (-65), 3) := by decide +kernel
theorem dk_132_30 : decode (tb_mb 132) 30 = .ok (.aload_n 0, 1) := by decide +kernel
theorem dk_132_31 : decode (tb_mb 132) 31 = .ok (.getfield 49, 3) := by decide +kernel
theorem f_132_31 : ∃ b, tb_fr (tb_oc 132) 49 = some (9, 15, b) := ⟨_, rfl⟩
theorem dk_132_34 : decode (tb_mb 132) 34 = .ok (.iload_n 2, 1) := by decide +kernel
theorem dk_132_35 : decode (tb_mb 132) 35 = .ok (.iload_n 3, 1) := by decide +kernel
theorem dk_132_36 : decode (tb_mb 132) 36 = .ok (.iadd, 1) := by decide +kernel
theorem dk_132_37 : decode (tb_mb 132) 37 = .ok (.iaload, 1) := by decide +kernel
theorem dk_132_38 : decode (tb_mb 132) 38 = .ok (.bipush (9), 2) := by decide +kernel
theorem dk_132_40 : decode (tb_mb 132) 40 = .ok (.if_icmp .ne (29), 3) := by decide +kernel
def b_132_77 : Nat → Int32 → Int32 → Int32 → dI → dJ → Option (dI × dJ)
  | 0, _, _, _, _, _ => none
  | n + 1, x1, x2, x3, I, J => if ¬ (x1 < 0 ∨ 8 ≤ Int32.toNatClampNeg x1) then (if (I 98 (Int32.toNatClampNeg x1)) ≤ x3 then (if ¬ (x1 < 0 ∨ 8 ≤ Int32.toNatClampNeg x1) then lt_ (sI I 97 (Int32.toNatClampNeg x1) (vp_nar .boolean 1)) (fun I6 => some (I6, J)) else none) else (if ¬ (x3 < 0 ∨ 120 ≤ Int32.toNatClampNeg x3) then (if ¬ ((x2 + x3) < 0 ∨ 960 ≤ Int32.toNatClampNeg (x2 + x3)) then lt_ (sJ J 108 (Int32.toNatClampNeg (x2 + x3)) (J 109 (Int32.toNatClampNeg x3))) (fun J9 => (b_132_77 n) x1 x2 (x3 + 1) I J9) else none) else none)) else none
theorem p_132_77 {Q : Nat → Option Nat} {D : Nat} (hD : 5 ≤ D) : ∀ (n : Nat) (x1 : Int32) (x2 : Int32) (x3 : Int32) (I : dI) (J : dJ) (R : (dI × dJ)), b_132_77 n x1 x2 x3 I J = some R → Rn Q D 132 77 [(0, .ref 92), (1, .int x1), (2, .int x2), (3, .int x3)] [] I J (none) R.1 R.2 := by
  intro n
  induction n with
  | zero => intro x1 x2 x3 I J R h; exact absurd h (by simp [b_132_77])
  | succ n ih =>
    intro x1 x2 x3 I J R h
    replace h : (if ¬ (x1 < 0 ∨ 8 ≤ Int32.toNatClampNeg x1) then (if (I 98 (Int32.toNatClampNeg x1)) ≤ x3 then (if ¬ (x1 < 0 ∨ 8 ≤ Int32.toNatClampNeg x1) then lt_ (sI I 97 (Int32.toNatClampNeg x1) (vp_nar .boolean 1)) (fun I6 => some (I6, J)) else none) else (if ¬ (x3 < 0 ∨ 120 ≤ Int32.toNatClampNeg x3) then (if ¬ ((x2 + x3) < 0 ∨ 960 ≤ Int32.toNatClampNeg (x2 + x3)) then lt_ (sJ J 108 (Int32.toNatClampNeg (x2 + x3)) (J 109 (Int32.toNatClampNeg x3))) (fun J9 => (b_132_77 n) x1 x2 (x3 + 1) I J9) else none) else none)) else none) = some R := h
    refine Rn.pu (st' := [.int x3]) dk_132_77 L_132 rfl ?_
    refine Rn.pu (st' := [.ref 92, .int x3]) dk_132_78 L_132 rfl ?_
    refine Rn.gR (r := 98) dk_132_79 f_132_79.choose_spec sk_92 rfl ?_
    refine Rn.pu (st' := [.int x1, .ref 98, .int x3]) dk_132_82 L_132 rfl ?_
    obtain ⟨c3, h⟩ := xm_if h
    refine Rn.iald dk_132_83 sk_98 c3 ?_
    by_cases c4 : (I 98 (Int32.toNatClampNeg x1)) ≤ x3
    · rw [if_pos c4] at h
      refine Rn.i2t (t := 107) dk_132_84 rfl (decide_eq_true c4) ?_
      refine Rn.pu (st' := [.ref 92]) dk_132_107 L_132 rfl ?_
      refine Rn.gR (r := 97) dk_132_108 f_132_108.choose_spec sk_92 rfl ?_
      refine Rn.pu (st' := [.int x1, .ref 97]) dk_132_111 L_132 rfl ?_
      refine Rn.ic dk_132_112 cic_1 ?_
      obtain ⟨c5, h⟩ := xm_if h
      obtain ⟨I6, eI6, h⟩ := letS h
      refine Rn.bast dk_132_113 sk_97 c5 ?_
      rw [← eI6]
      cases h
      exact Rn.rv dk_132_114 R_132
    · rw [if_neg c4] at h
      refine Rn.i2f (t := 107) dk_132_84 rfl (decide_eq_false c4) ?_
      refine Rn.pu (st' := [.ref 92]) dk_132_87 L_132 rfl ?_
      refine Rn.gR (r := 108) dk_132_88 f_132_88.choose_spec sk_92 rfl ?_
      refine Rn.pu (st' := [.int x2, .ref 108]) dk_132_91 L_132 rfl ?_
      refine Rn.pu (st' := [.int x3, .int x2, .ref 108]) dk_132_92 L_132 rfl ?_
      refine Rn.pu (st' := [.int (x2 + x3), .ref 108]) dk_132_93 L_132 rfl ?_
      refine Rn.pu (st' := [.ref 92, .int (x2 + x3), .ref 108]) dk_132_94 L_132 rfl ?_
      refine Rn.gR (r := 109) dk_132_95 f_132_95.choose_spec sk_92 rfl ?_
      refine Rn.pu (st' := [.int x3, .ref 109, .int (x2 + x3), .ref 108]) dk_132_98 L_132 rfl ?_
      obtain ⟨c7, h⟩ := xm_if h
      refine Rn.lald dk_132_99 sk_109 c7 ?_
      obtain ⟨c8, h⟩ := xm_if h
      obtain ⟨J9, eJ9, h⟩ := letS h
      refine Rn.last dk_132_100 sk_108 c8 ?_
      rw [← eJ9]
      refine Rn.inc (ls' := [(3, .int (x3 + 1)), (0, .ref 92), (1, .int x1), (2, .int x2)]) dk_132_101 L_132 (by decide) cic_1 rfl rfl ?_
      refine Rn.gt (t := 77) dk_132_104 rfl ?_
      exact Rn.wk [1, 2, 3, 0] rfl (ih _ _ _ _ _ _ h)
def b_132_69 (h7 : Int32 → Int32 → Int32 → dI → dJ → Option (dI × dJ)) (x1 : Int32) (x2 : Int32) (x3 : Int32) (I : dI) (J : dJ) : Option (dI × dJ) := h7 x1 x2 (x3 + 1) I J
theorem p_132_69 {Q : Nat → Option Nat} {D : Nat} (hD : 5 ≤ D) {h7 : Int32 → Int32 → Int32 → dI → dJ → Option (dI × dJ)} (H7 : ∀ (x1 : Int32) (x2 : Int32) (x3 : Int32) (I : dI) (J : dJ) (R : (dI × dJ)), h7 x1 x2 x3 I J = some R → Rn Q D 132 7 [(0, .ref 92), (1, .int x1), (2, .int x2), (3, .int x3)] [] I J (none) R.1 R.2) (x1 : Int32) (x2 : Int32) (x3 : Int32) (I : dI) (J : dJ) (R : (dI × dJ)) (h : b_132_69 h7 x1 x2 x3 I J = some R) : Rn Q D 132 69 [(0, .ref 92), (1, .int x1), (2, .int x2), (3, .int x3)] [] I J (none) R.1 R.2 := by
  replace h : (h7 x1 x2 (x3 + 1) I J) = some R := h
  refine Rn.inc (ls' := [(3, .int (x3 + 1)), (0, .ref 92), (1, .int x1), (2, .int x2)]) dk_132_69 L_132 (by decide) cic_1 rfl rfl ?_
  refine Rn.gt (t := 7) dk_132_72 rfl ?_
  exact Rn.wk [1, 2, 3, 0] rfl (H7 _ _ _ _ _ _ h)
def b_132_43 (h7 : Int32 → Int32 → Int32 → dI → dJ → Option (dI × dJ)) (x1 : Int32) (x2 : Int32) (x3 : Int32) (I : dI) (J : dJ) : Option (dI × dJ) := if ¬ (((x2 + x3) + 1) < 0 ∨ 960 ≤ Int32.toNatClampNeg ((x2 + x3) + 1)) then ((m_120 x1 ((x2 + x3) + 2) (I 106 (Int32.toNatClampNeg ((x2 + x3) + 1))) I J).bind (fun r13 => if ¬ (x3 < 0 ∨ 120 ≤ Int32.toNatClampNeg x3) then lt_ (sJ r13.2.2 109 (Int32.toNatClampNeg x3) r13.1) (fun J16 => b_132_69 h7 x1 x2 x3 r13.2.1 J16) else none)) else none
theorem p_132_43 {Q : Nat → Option Nat} {D : Nat} (hD : 5 ≤ D) {h7 : Int32 → Int32 → Int32 → dI → dJ → Option (dI × dJ)} (H7 : ∀ (x1 : Int32) (x2 : Int32) (x3 : Int32) (I : dI) (J : dJ) (R : (dI × dJ)), h7 x1 x2 x3 I J = some R → Rn Q D 132 7 [(0, .ref 92), (1, .int x1), (2, .int x2), (3, .int x3)] [] I J (none) R.1 R.2) (x1 : Int32) (x2 : Int32) (x3 : Int32) (I : dI) (J : dJ) (R : (dI × dJ)) (h : b_132_43 h7 x1 x2 x3 I J = some R) : Rn Q D 132 43 [(0, .ref 92), (1, .int x1), (2, .int x2), (3, .int x3)] [] I J (none) R.1 R.2 := by
  replace h : (if ¬ (((x2 + x3) + 1) < 0 ∨ 960 ≤ Int32.toNatClampNeg ((x2 + x3) + 1)) then ((m_120 x1 ((x2 + x3) + 2) (I 106 (Int32.toNatClampNeg ((x2 + x3) + 1))) I J).bind (fun r13 => if ¬ (x3 < 0 ∨ 120 ≤ Int32.toNatClampNeg x3) then lt_ (sJ r13.2.2 109 (Int32.toNatClampNeg x3) r13.1) (fun J16 => b_132_69 h7 x1 x2 x3 r13.2.1 J16) else none)) else none) = some R := h
  refine Rn.pu (st' := [.ref 92]) dk_132_43 L_132 rfl ?_
  refine Rn.gR (r := 109) dk_132_44 f_132_44.choose_spec sk_92 rfl ?_
  refine Rn.pu (st' := [.int x3, .ref 109]) dk_132_47 L_132 rfl ?_
  refine Rn.pu (st' := [.ref 92, .int x3, .ref 109]) dk_132_48 L_132 rfl ?_
  refine Rn.pu (st' := [.int x1, .ref 92, .int x3, .ref 109]) dk_132_49 L_132 rfl ?_
  refine Rn.pu (st' := [.int x2, .int x1, .ref 92, .int x3, .ref 109]) dk_132_50 L_132 rfl ?_
  refine Rn.pu (st' := [.int x3, .int x2, .int x1, .ref 92, .int x3, .ref 109]) dk_132_51 L_132 rfl ?_
  refine Rn.pu (st' := [.int (x2 + x3), .int x1, .ref 92, .int x3, .ref 109]) dk_132_52 L_132 rfl ?_
  refine Rn.ic dk_132_53 cic_2 ?_
  refine Rn.pu (st' := [.int ((x2 + x3) + 2), .int x1, .ref 92, .int x3, .ref 109]) dk_132_54 L_132 rfl ?_
  refine Rn.pu (st' := [.ref 92, .int ((x2 + x3) + 2), .int x1, .ref 92, .int x3, .ref 109]) dk_132_55 L_132 rfl ?_
  refine Rn.gR (r := 106) dk_132_56 f_132_56.choose_spec sk_92 rfl ?_
  refine Rn.pu (st' := [.int x2, .ref 106, .int ((x2 + x3) + 2), .int x1, .ref 92, .int x3, .ref 109]) dk_132_59 L_132 rfl ?_
  refine Rn.pu (st' := [.int x3, .int x2, .ref 106, .int ((x2 + x3) + 2), .int x1, .ref 92, .int x3, .ref 109]) dk_132_60 L_132 rfl ?_
  refine Rn.pu (st' := [.int (x2 + x3), .ref 106, .int ((x2 + x3) + 2), .int x1, .ref 92, .int x3, .ref 109]) dk_132_61 L_132 rfl ?_
  refine Rn.ic dk_132_62 cic_1 ?_
  refine Rn.pu (st' := [.int ((x2 + x3) + 1), .ref 106, .int ((x2 + x3) + 2), .int x1, .ref 92, .int x3, .ref 109]) dk_132_63 L_132 rfl ?_
  obtain ⟨c12, h⟩ := xm_if h
  refine Rn.iald dk_132_64 sk_106 c12 ?_
  obtain ⟨r13, e14, h⟩ := bindS h
  refine Rn.cvJ (p := 92) (As := [.int x1, .int ((x2 + x3) + 2), .int (I 106 (Int32.toNatClampNeg ((x2 + x3) + 1)))]) (rest := [.int x3, .ref 109]) dk_132_65 ck_132_65.choose_spec rfl sk_92 rfl (x_120 (Nat.le_trans (Nat.le_of_ble_eq_true rfl) hD) e14) ?_
  obtain ⟨c15, h⟩ := xm_if h
  obtain ⟨J16, eJ16, h⟩ := letS h
  refine Rn.last dk_132_68 sk_109 c15 ?_
  rw [← eJ16]
  exact Rn.wk [0, 1, 2, 3] rfl (p_132_69 hD H7 _ _ _ _ _ _ h)
def b_132_7 : Nat → Int32 → Int32 → Int32 → dI → dJ → Option (dI × dJ)
  | 0, _, _, _, _, _ => none
  | n + 1, x1, x2, x3, I, J => if ¬ (x1 < 0 ∨ 8 ≤ Int32.toNatClampNeg x1) then (if (I 98 (Int32.toNatClampNeg x1)) ≤ x3 then (b_132_77 FU x1 x2 0 I J) else (if ¬ ((x2 + x3) < 0 ∨ 960 ≤ Int32.toNatClampNeg (x2 + x3)) then (if (I 105 (Int32.toNatClampNeg (x2 + x3))) = 8 then (b_132_43 (b_132_7 n) x1 x2 x3 I J) else (if ¬ ((x2 + x3) < 0 ∨ 960 ≤ Int32.toNatClampNeg (x2 + x3)) then (if ¬ (I 105 (Int32.toNatClampNeg (x2 + x3))) = 9 then (b_132_69 (b_132_7 n) x1 x2 x3 I J) else (b_132_43 (b_132_7 n) x1 x2 x3 I J)) else none)) else none)) else none
theorem p_132_7 {Q : Nat → Option Nat} {D : Nat} (hD : 5 ≤ D) : ∀ (n : Nat) (x1 : Int32) (x2 : Int32) (x3 : Int32) (I : dI) (J : dJ) (R : (dI × dJ)), b_132_7 n x1 x2 x3 I J = some R → Rn Q D 132 7 [(0, .ref 92), (1, .int x1), (2, .int x2), (3, .int x3)] [] I J (none) R.1 R.2 := by
  intro n
  induction n with
  | zero => intro x1 x2 x3 I J R h; exact absurd h (by simp [b_132_7])
  | succ n ih =>
    intro x1 x2 x3 I J R h
    replace h : (if ¬ (x1 < 0 ∨ 8 ≤ Int32.toNatClampNeg x1) then (if (I 98 (Int32.toNatClampNeg x1)) ≤ x3 then (b_132_77 FU x1 x2 0 I J) else (if ¬ ((x2 + x3) < 0 ∨ 960 ≤ Int32.toNatClampNeg (x2 + x3)) then (if (I 105 (Int32.toNatClampNeg (x2 + x3))) = 8 then (b_132_43 (b_132_7 n) x1 x2 x3 I J) else (if ¬ ((x2 + x3) < 0 ∨ 960 ≤ Int32.toNatClampNeg (x2 + x3)) then (if ¬ (I 105 (Int32.toNatClampNeg (x2 + x3))) = 9 then (b_132_69 (b_132_7 n) x1 x2 x3 I J) else (b_132_43 (b_132_7 n) x1 x2 x3 I J)) else none)) else none)) else none) = some R := h
    refine Rn.pu (st' := [.int x3]) dk_132_7 L_132 rfl ?_
    refine Rn.pu (st' := [.ref 92, .int x3]) dk_132_8 L_132 rfl ?_
    refine Rn.gR (r := 98) dk_132_9 f_132_9.choose_spec sk_92 rfl ?_
    refine Rn.pu (st' := [.int x1, .ref 98, .int x3]) dk_132_12 L_132 rfl ?_
    obtain ⟨c1, h⟩ := xm_if h
    refine Rn.iald dk_132_13 sk_98 c1 ?_
    by_cases c2 : (I 98 (Int32.toNatClampNeg x1)) ≤ x3
    · rw [if_pos c2] at h
      refine Rn.i2t (t := 75) dk_132_14 rfl (decide_eq_true c2) ?_
      refine Rn.ic dk_132_75 cic_0 ?_
      refine Rn.pu (ls' := [(3, .int 0), (0, .ref 92), (1, .int x1), (2, .int x2)]) (st' := []) dk_132_76 L_132 rfl ?_
      exact Rn.wk [1, 2, 3, 0] rfl (p_132_77 hD FU _ _ _ _ _ _ h)
    · rw [if_neg c2] at h
      refine Rn.i2f (t := 75) dk_132_14 rfl (decide_eq_false c2) ?_
      refine Rn.pu (st' := [.ref 92]) dk_132_17 L_132 rfl ?_
      refine Rn.gR (r := 105) dk_132_18 f_132_18.choose_spec sk_92 rfl ?_
      refine Rn.pu (st' := [.int x2, .ref 105]) dk_132_21 L_132 rfl ?_
      refine Rn.pu (st' := [.int x3, .int x2, .ref 105]) dk_132_22 L_132 rfl ?_
      refine Rn.pu (st' := [.int (x2 + x3), .ref 105]) dk_132_23 L_132 rfl ?_
      obtain ⟨c3, h⟩ := xm_if h
      refine Rn.iald dk_132_24 sk_105 c3 ?_
      refine Rn.bp dk_132_25 cbp_8 ?_
      by_cases c4 : (I 105 (Int32.toNatClampNeg (x2 + x3))) = 8
      · rw [if_pos c4] at h
        refine Rn.i2t (t := 43) dk_132_27 rfl (decide_eq_true c4) ?_
        exact Rn.wk [0, 1, 2, 3] rfl (p_132_43 hD ih _ _ _ _ _ _ h)
      · rw [if_neg c4] at h
        refine Rn.i2f (t := 43) dk_132_27 rfl (decide_eq_false c4) ?_
        refine Rn.pu (st' := [.ref 92]) dk_132_30 L_132 rfl ?_
        refine Rn.gR (r := 105) dk_132_31 f_132_31.choose_spec sk_92 rfl ?_
        refine Rn.pu (st' := [.int x2, .ref 105]) dk_132_34 L_132 rfl ?_
        refine Rn.pu (st' := [.int x3, .int x2, .ref 105]) dk_132_35 L_132 rfl ?_
        refine Rn.pu (st' := [.int (x2 + x3), .ref 105]) dk_132_36 L_132 rfl ?_
        obtain ⟨c5, h⟩ := xm_if h
        refine Rn.iald dk_132_37 sk_105 c5 ?_
        refine Rn.bp dk_132_38 cbp_9 ?_
        by_cases c6 : ¬ (I 105 (Int32.toNatClampNeg (x2 + x3))) = 9
        · rw [if_pos c6] at h
          refine Rn.i2t (t := 69) dk_132_40 rfl (decide_eq_true c6) ?_
          exact Rn.wk [0, 1, 2, 3] rfl (p_132_69 hD ih _ _ _ _ _ _ h)
        · rw [if_neg c6] at h
          refine Rn.i2f (t := 69) dk_132_40 rfl (decide_eq_false c6) ?_
          exact Rn.wk [0, 1, 2, 3] rfl (p_132_43 hD ih _ _ _ _ _ _ h)
def b_132_0 (x1 : Int32) (I : dI) (J : dJ) : Option (dI × dJ) := b_132_7 FU x1 (120 * x1) 0 I J
theorem p_132_0 {Q : Nat → Option Nat} {D : Nat} (hD : 5 ≤ D) (x1 : Int32) (I : dI) (J : dJ) (R : (dI × dJ)) (h : b_132_0 x1 I J = some R) : Rn Q D 132 0 [(0, .ref 92), (1, .int x1)] [] I J (none) R.1 R.2 := by
  replace h : (b_132_7 FU x1 (120 * x1) 0 I J) = some R := h
  refine Rn.bp dk_132_0 cbp_120 ?_
  refine Rn.pu (st' := [.int x1, .int 120]) dk_132_2 L_132 rfl ?_
  refine Rn.pu (st' := [.int (120 * x1)]) dk_132_3 L_132 rfl ?_
  refine Rn.pu (ls' := [(2, .int (120 * x1)), (0, .ref 92), (1, .int x1)]) (st' := []) dk_132_4 L_132 rfl ?_
  refine Rn.ic dk_132_5 cic_0 ?_
  refine Rn.pu (ls' := [(3, .int 0), (2, .int (120 * x1)), (0, .ref 92), (1, .int x1)]) (st' := []) dk_132_6 L_132 rfl ?_
  exact Rn.wk [2, 3, 1, 0] rfl (p_132_7 hD FU _ _ _ _ _ _ h)
def m_132 (x1 : Int32) (I : dI) (J : dJ) : Option (dI × dJ) := b_132_0 x1 I J
theorem x_132 {Q : Nat → Option Nat} {D : Nat} (hD : 6 ≤ D) {x1 : Int32} {I : dI} {J : dJ} {R : (dI × dJ)} (h : m_132 x1 I J = some R) : Ex Q D 132 I J [.ref 92, .int x1] (none) R.1 R.2 := by
  obtain ⟨D, rfl⟩ : ∃ D', D = D' + 1 := ⟨D - 1, by omega⟩
  exact Ex.of (by decide) (by rw [L_132]; exact Nat.le_of_ble_eq_true rfl) (show xm_sub [(0, .ref 92), (1, .int x1)] [(0, .ref 92), (1, .int x1)] from xm_sub_of [0, 1] [0, 1] rfl rfl (by decide)) (p_132_0 (Nat.le_of_succ_le_succ hD) _ _ _ _ h)
-- ConditionDeskModel.asking(I)I
theorem L_119 : tb_mL 119 = 5 := by decide +kernel
theorem R_119 : tb_mr 119 = some .int := by decide +kernel
theorem dk_119_0 : decode (tb_mb 119) 0 = .ok (.aload_n 0, 1) := by decide +kernel
theorem dk_119_1 : decode (tb_mb 119) 1 = .ok (.iconst (0), 1) := by decide +kernel
theorem dk_119_2 : decode (tb_mb 119) 2 = .ok (.putfield 228, 3) := by decide +kernel
theorem f_119_2 : ∃ b, tb_fr (tb_oc 119) 228 = some (9, 33, b) ∧ xm_fin tb_cl (tb_ini 119) b 9 33 = true := ⟨_, rfl, rfl⟩
theorem dk_119_5 : decode (tb_mb 119) 5 = .ok (.aload_n 0, 1) := by decide +kernel
theorem dk_119_6 : decode (tb_mb 119) 6 = .ok (.iload_n 1, 1) := by decide +kernel
theorem dk_119_7 : decode (tb_mb 119) 7 = .ok (.bipush (120), 2) := by decide +kernel
theorem dk_119_9 : decode (tb_mb 119) 9 = .ok (.iload_n 1, 1) := by decide +kernel
theorem dk_119_10 : decode (tb_mb 119) 10 = .ok (.imul, 1) := by decide +kernel
theorem dk_119_11 : decode (tb_mb 119) 11 = .ok (.bipush (120), 2) := by decide +kernel
theorem dk_119_13 : decode (tb_mb 119) 13 = .ok (.iload_n 1, 1) := by decide +kernel
theorem dk_119_14 : decode (tb_mb 119) 14 = .ok (.imul, 1) := by decide +kernel
theorem dk_119_15 : decode (tb_mb 119) 15 = .ok (.aload_n 0, 1) := by decide +kernel
theorem dk_119_16 : decode (tb_mb 119) 16 = .ok (.getfield 27, 3) := by decide +kernel
theorem f_119_16 : ∃ b, tb_fr (tb_oc 119) 27 = some (9, 8, b) := ⟨_, rfl⟩
theorem dk_119_19 : decode (tb_mb 119) 19 = .ok (.iload_n 1, 1) := by decide +kernel
theorem dk_119_20 : decode (tb_mb 119) 20 = .ok (.iaload, 1) := by decide +kernel
theorem dk_119_21 : decode (tb_mb 119) 21 = .ok (.iadd, 1) := by decide +kernel
theorem dk_119_22 : decode (tb_mb 119) 22 = .ok (.invokevirtual 258, 3) := by decide +kernel
theorem ck_119_22 : ∃ b, tb_cr (tb_oc 119) 258 = some (0, 120, b, 3) := ⟨_, rfl⟩
theorem dk_119_25 : decode (tb_mb 119) 25 = .ok (.lstore_n 2, 1) := by decide +kernel
theorem dk_119_26 : decode (tb_mb 119) 26 = .ok (.aload_n 0, 1) := by decide +kernel
theorem dk_119_27 : decode (tb_mb 119) 27 = .ok (.getfield 212, 3) := by decide +kernel
theorem f_119_27 : ∃ b, tb_fr (tb_oc 119) 212 = some (9, 34, b) := ⟨_, rfl⟩
theorem dk_119_30 : decode (tb_mb 119) 30 = .ok (.istore 4, 2) := by decide +kernel
theorem dk_119_32 : decode (tb_mb 119) 32 = .ok (.aload_n 0, 1) := by decide +kernel
theorem dk_119_33 : decode (tb_mb 119) 33 = .ok (.getfield 39, 3) := by decide +kernel
theorem f_119_33 : ∃ b, tb_fr (tb_oc 119) 39 = some (9, 12, b) := ⟨_, rfl⟩
theorem dk_119_36 : decode (tb_mb 119) 36 = .ok (.iload_n 1, 1) := by decide +kernel
theorem dk_119_37 : decode (tb_mb 119) 37 = .ok (.aload_n 0, 1) := by decide +kernel
theorem dk_119_38 : decode (tb_mb 119) 38 = .ok (.getfield 228, 3) := by decide +kernel
theorem f_119_38 : ∃ b, tb_fr (tb_oc 119) 228 = some (9, 33, b) := ⟨_, rfl⟩
theorem dk_119_41 : decode (tb_mb 119) 41 = .ok (.iastore, 1) := by decide +kernel
theorem dk_119_42 : decode (tb_mb 119) 42 = .ok (.aload_n 0, 1) := by decide +kernel
theorem dk_119_43 : decode (tb_mb 119) 43 = .ok (.dup, 1) := by decide +kernel
theorem dk_119_44 : decode (tb_mb 119) 44 = .ok (.getfield 264, 3) := by decide +kernel
theorem f_119_44 : ∃ b, tb_fr (tb_oc 119) 264 = some (9, 20, b) := ⟨_, rfl⟩
theorem dk_119_47 : decode (tb_mb 119) 47 = .ok (.aload_n 0, 1) := by decide +kernel
theorem dk_119_48 : decode (tb_mb 119) 48 = .ok (.getfield 228, 3) := by decide +kernel
theorem f_119_48 : ∃ b, tb_fr (tb_oc 119) 228 = some (9, 33, b) := ⟨_, rfl⟩
theorem dk_119_51 : decode (tb_mb 119) 51 = .ok (.i2l, 1) := by decide +kernel
theorem dk_119_52 : decode (tb_mb 119) 52 = .ok (.ladd, 1) := by decide +kernel
theorem dk_119_53 : decode (tb_mb 119) 53 = .ok (.putfield 264, 3) := by decide +kernel
theorem f_119_53 : ∃ b, tb_fr (tb_oc 119) 264 = some (9, 20, b) ∧ xm_fin tb_cl (tb_ini 119) b 9 20 = true := ⟨_, rfl, rfl⟩
theorem dk_119_56 : decode (tb_mb 119) 56 = .ok (.aload_n 0, 1) := by decide +kernel
theorem dk_119_57 : decode (tb_mb 119) 57 = .ok (.getfield 42, 3) := by decide +kernel
theorem f_119_57 : ∃ b, tb_fr (tb_oc 119) 42 = some (9, 13, b) := ⟨_, rfl⟩
theorem dk_119_60 : decode (tb_mb 119) 60 = .ok (.iload_n 1, 1) := by decide +kernel
theorem dk_119_61 : decode (tb_mb 119) 61 = .ok (.iload 4, 2) := by decide +kernel
theorem dk_119_63 : decode (tb_mb 119) 63 = .ok (.ifCond .le (7), 3) := by decide +kernel
theorem dk_119_70 : decode (tb_mb 119) 70 = .ok (.lload_n 2, 1) := by decide +kernel
theorem dk_119_71 : decode (tb_mb 119) 71 = .ok (.lastore, 1) := by decide +kernel
theorem dk_119_72 : decode (tb_mb 119) 72 = .ok (.aload_n 0, 1) := by decide +kernel
theorem dk_119_73 : decode (tb_mb 119) 73 = .ok (.iload_n 1, 1) := by decide +kernel
theorem dk_119_74 : decode (tb_mb 119) 74 = .ok (.invokevirtual 267, 3) := by decide +kernel
theorem ck_119_74 : ∃ b, tb_cr (tb_oc 119) 267 = some (0, 132, b, 1) := ⟨_, rfl⟩
theorem dk_119_77 : decode (tb_mb 119) 77 = .ok (.iload 4, 2) := by decide +kernel
theorem dk_119_79 : decode (tb_mb 119) 79 = .ok (.ifCond .le (13), 3) := by decide +kernel
theorem dk_119_92 : decode (tb_mb 119) 92 = .ok (.iload 4, 2) := by decide +kernel
theorem dk_119_94 : decode (tb_mb 119) 94 = .ok (.ifCond .gt (9), 3) := by decide +kernel
theorem dk_119_103 : decode (tb_mb 119) 103 = .ok (.iload 4, 2) := by decide +kernel
theorem dk_119_105 : decode (tb_mb 119) 105 = .ok (.ineg, 1) := by decide +kernel
theorem dk_119_106 : decode (tb_mb 119) 106 = .ok (.ireturn, 1) := by decide +kernel
theorem dk_119_97 : decode (tb_mb 119) 97 = .ok (.lload_n 2, 1) := by decide +kernel
theorem dk_119_98 : decode (tb_mb 119) 98 = .ok (.lconst 0, 1) := by decide +kernel
theorem dk_119_99 : decode (tb_mb 119) 99 = .ok (.lcmp, 1) := by decide +kernel
theorem dk_119_100 : decode (tb_mb 119) 100 = .ok (.ifCond .ne (7), 3) := by decide +kernel
theorem dk_119_107 : decode (tb_mb 119) 107 = .ok (.aload_n 0, 1) := by decide +kernel
theorem dk_119_108 : decode (tb_mb 119) 108 = .ok (.getfield 33, 3) := by decide +kernel
theorem f_119_108 : ∃ b, tb_fr (tb_oc 119) 33 = some (9, 10, b) := ⟨_, rfl⟩
theorem dk_119_111 : decode (tb_mb 119) 111 = .ok (.iload_n 1, 1) := by decide +kernel
theorem dk_119_112 : decode (tb_mb 119) 112 = .ok (.iaload, 1) := by decide +kernel
theorem dk_119_113 : decode (tb_mb 119) 113 = .ok (.ifCond .le (15), 3) := by decide +kernel
theorem dk_119_128 : decode (tb_mb 119) 128 = .ok (.aload_n 0, 1) := by decide +kernel
theorem dk_119_129 : decode (tb_mb 119) 129 = .ok (.getfield 46, 3) := by decide +kernel
theorem f_119_129 : ∃ b, tb_fr (tb_oc 119) 46 = some (9, 14, b) := ⟨_, rfl⟩
theorem dk_119_132 : decode (tb_mb 119) 132 = .ok (.iload_n 1, 1) := by decide +kernel
theorem dk_119_133 : decode (tb_mb 119) 133 = .ok (.dup2, 1) := by decide +kernel
theorem dk_119_134 : decode (tb_mb 119) 134 = .ok (.laload, 1) := by decide +kernel
theorem dk_119_135 : decode (tb_mb 119) 135 = .ok (.lconst 1, 1) := by decide +kernel
theorem dk_119_136 : decode (tb_mb 119) 136 = .ok (.ladd, 1) := by decide +kernel
theorem dk_119_137 : decode (tb_mb 119) 137 = .ok (.lastore, 1) := by decide +kernel
theorem dk_119_138 : decode (tb_mb 119) 138 = .ok (.iconst (1), 1) := by decide +kernel
theorem dk_119_139 : decode (tb_mb 119) 139 = .ok (.ireturn, 1) := by decide +kernel
theorem dk_119_116 : decode (tb_mb 119) 116 = .ok (.aload_n 0, 1) := by decide +kernel
theorem dk_119_117 : decode (tb_mb 119) 117 = .ok (.getfield 33, 3) := by decide +kernel
theorem f_119_117 : ∃ b, tb_fr (tb_oc 119) 33 = some (9, 10, b) := ⟨_, rfl⟩
theorem dk_119_120 : decode (tb_mb 119) 120 = .ok (.iload_n 1, 1) := by decide +kernel
theorem dk_119_121 : decode (tb_mb 119) 121 = .ok (.dup2, 1) := by decide +kernel
theorem dk_119_122 : decode (tb_mb 119) 122 = .ok (.iaload, 1) := by decide +kernel
theorem dk_119_123 : decode (tb_mb 119) 123 = .ok (.iconst (1), 1) := by decide +kernel
theorem dk_119_124 : decode (tb_mb 119) 124 = .ok (.isub, 1) := by decide +kernel
theorem dk_119_125 : decode (tb_mb 119) 125 = .ok (.iastore, 1) := by decide +kernel
theorem dk_119_126 : decode (tb_mb 119) 126 = .ok (.iconst (0), 1) := by decide +kernel
theorem dk_119_127 : decode (tb_mb 119) 127 = .ok (.ireturn, 1) := by decide +kernel
theorem dk_119_82 : decode (tb_mb 119) 82 = .ok (.aload_n 0, 1) := by decide +kernel
theorem dk_119_83 : decode (tb_mb 119) 83 = .ok (.getfield 36, 3) := by decide +kernel
theorem f_119_83 : ∃ b, tb_fr (tb_oc 119) 36 = some (9, 11, b) := ⟨_, rfl⟩
theorem dk_119_86 : decode (tb_mb 119) 86 = .ok (.iload_n 1, 1) := by decide +kernel
theorem dk_119_87 : decode (tb_mb 119) 87 = .ok (.dup2, 1) := by decide +kernel
theorem dk_119_88 : decode (tb_mb 119) 88 = .ok (.iaload, 1) := by decide +kernel
theorem dk_119_89 : decode (tb_mb 119) 89 = .ok (.iconst (1), 1) := by decide +kernel
theorem dk_119_90 : decode (tb_mb 119) 90 = .ok (.iadd, 1) := by decide +kernel
theorem dk_119_91 : decode (tb_mb 119) 91 = .ok (.iastore, 1) := by decide +kernel
theorem dk_119_66 : decode (tb_mb 119) 66 = .ok (.lconst 0, 1) := by decide +kernel
theorem dk_119_67 : decode (tb_mb 119) 67 = .ok (.goto (4), 3) := by decide +kernel
def b_119_92 (x1 : Int32) (x2 : Int64) (x4 : Int32) (I : dI) (J : dJ) : Option (Int32 × dI × dJ) := if 0 < x4 then (some ((-x4), I, J)) else (if ¬ (lg_cmp x2 0) = 0 then (if ¬ (x1 < 0 ∨ 8 ≤ Int32.toNatClampNeg x1) then (if (I 100 (Int32.toNatClampNeg x1)) ≤ 0 then (if ¬ (x1 < 0 ∨ 8 ≤ Int32.toNatClampNeg x1) then (if ¬ (x1 < 0 ∨ 8 ≤ Int32.toNatClampNeg x1) then lt_ (sJ J 104 (Int32.toNatClampNeg x1) ((J 104 (Int32.toNatClampNeg x1)) + 1)) (fun J20 => some (1, I, J20)) else none) else none) else (if ¬ (x1 < 0 ∨ 8 ≤ Int32.toNatClampNeg x1) then (if ¬ (x1 < 0 ∨ 8 ≤ Int32.toNatClampNeg x1) then lt_ (sI I 100 (Int32.toNatClampNeg x1) ((I 100 (Int32.toNatClampNeg x1)) - 1)) (fun I23 => some (0, I23, J)) else none) else none)) else none) else (some ((-x4), I, J)))
theorem p_119_92 {Q : Nat → Option Nat} {D : Nat} (hD : 6 ≤ D) (x1 : Int32) (x2 : Int64) (x4 : Int32) (I : dI) (J : dJ) (R : (Int32 × dI × dJ)) (h : b_119_92 x1 x2 x4 I J = some R) : Rn Q D 119 92 [(0, .ref 92), (1, .int x1), (2, .long x2), (4, .int x4)] [] I J (some (.int R.1)) R.2.1 R.2.2 := by
  replace h : (if 0 < x4 then (some ((-x4), I, J)) else (if ¬ (lg_cmp x2 0) = 0 then (if ¬ (x1 < 0 ∨ 8 ≤ Int32.toNatClampNeg x1) then (if (I 100 (Int32.toNatClampNeg x1)) ≤ 0 then (if ¬ (x1 < 0 ∨ 8 ≤ Int32.toNatClampNeg x1) then (if ¬ (x1 < 0 ∨ 8 ≤ Int32.toNatClampNeg x1) then lt_ (sJ J 104 (Int32.toNatClampNeg x1) ((J 104 (Int32.toNatClampNeg x1)) + 1)) (fun J20 => some (1, I, J20)) else none) else none) else (if ¬ (x1 < 0 ∨ 8 ≤ Int32.toNatClampNeg x1) then (if ¬ (x1 < 0 ∨ 8 ≤ Int32.toNatClampNeg x1) then lt_ (sI I 100 (Int32.toNatClampNeg x1) ((I 100 (Int32.toNatClampNeg x1)) - 1)) (fun I23 => some (0, I23, J)) else none) else none)) else none) else (some ((-x4), I, J)))) = some R := h
  refine Rn.pu (st' := [.int x4]) dk_119_92 L_119 rfl ?_
  by_cases c14 : 0 < x4
  · rw [if_pos c14] at h
    refine Rn.i1t (t := 103) dk_119_94 rfl (decide_eq_true c14) ?_
    refine Rn.pu (st' := [.int x4]) dk_119_103 L_119 rfl ?_
    refine Rn.pu (st' := [.int (-x4)]) dk_119_105 L_119 rfl ?_
    cases h
    exact Rn.ri dk_119_106 R_119 rfl
  · rw [if_neg c14] at h
    refine Rn.i1f (t := 103) dk_119_94 rfl (decide_eq_false c14) ?_
    refine Rn.pu (st' := [.long x2]) dk_119_97 L_119 rfl ?_
    refine Rn.lc dk_119_98 clc_0 ?_
    refine Rn.pu (st' := [.int (lg_cmp x2 0)]) dk_119_99 L_119 rfl ?_
    by_cases c15 : ¬ (lg_cmp x2 0) = 0
    · rw [if_pos c15] at h
      refine Rn.i1t (t := 107) dk_119_100 rfl (decide_eq_true c15) ?_
      refine Rn.pu (st' := [.ref 92]) dk_119_107 L_119 rfl ?_
      refine Rn.gR (r := 100) dk_119_108 f_119_108.choose_spec sk_92 rfl ?_
      refine Rn.pu (st' := [.int x1, .ref 100]) dk_119_111 L_119 rfl ?_
      obtain ⟨c16, h⟩ := xm_if h
      refine Rn.iald dk_119_112 sk_100 c16 ?_
      by_cases c17 : (I 100 (Int32.toNatClampNeg x1)) ≤ 0
      · rw [if_pos c17] at h
        refine Rn.i1t (t := 128) dk_119_113 rfl (decide_eq_true c17) ?_
        refine Rn.pu (st' := [.ref 92]) dk_119_128 L_119 rfl ?_
        refine Rn.gR (r := 104) dk_119_129 f_119_129.choose_spec sk_92 rfl ?_
        refine Rn.pu (st' := [.int x1, .ref 104]) dk_119_132 L_119 rfl ?_
        refine Rn.pu (st' := [.int x1, .ref 104, .int x1, .ref 104]) dk_119_133 L_119 rfl ?_
        obtain ⟨c18, h⟩ := xm_if h
        refine Rn.lald dk_119_134 sk_104 c18 ?_
        refine Rn.lc dk_119_135 clc_1 ?_
        refine Rn.pu (st' := [.long ((J 104 (Int32.toNatClampNeg x1)) + 1), .int x1, .ref 104]) dk_119_136 L_119 rfl ?_
        obtain ⟨c19, h⟩ := xm_if h
        obtain ⟨J20, eJ20, h⟩ := letS h
        refine Rn.last dk_119_137 sk_104 c19 ?_
        rw [← eJ20]
        refine Rn.ic dk_119_138 cic_1 ?_
        cases h
        exact Rn.ri dk_119_139 R_119 rfl
      · rw [if_neg c17] at h
        refine Rn.i1f (t := 128) dk_119_113 rfl (decide_eq_false c17) ?_
        refine Rn.pu (st' := [.ref 92]) dk_119_116 L_119 rfl ?_
        refine Rn.gR (r := 100) dk_119_117 f_119_117.choose_spec sk_92 rfl ?_
        refine Rn.pu (st' := [.int x1, .ref 100]) dk_119_120 L_119 rfl ?_
        refine Rn.pu (st' := [.int x1, .ref 100, .int x1, .ref 100]) dk_119_121 L_119 rfl ?_
        obtain ⟨c21, h⟩ := xm_if h
        refine Rn.iald dk_119_122 sk_100 c21 ?_
        refine Rn.ic dk_119_123 cic_1 ?_
        refine Rn.pu (st' := [.int ((I 100 (Int32.toNatClampNeg x1)) - 1), .int x1, .ref 100]) dk_119_124 L_119 rfl ?_
        obtain ⟨c22, h⟩ := xm_if h
        obtain ⟨I23, eI23, h⟩ := letS h
        refine Rn.iast dk_119_125 sk_100 c22 ?_
        rw [← eI23]
        refine Rn.ic dk_119_126 cic_0 ?_
        cases h
        exact Rn.ri dk_119_127 R_119 rfl
    · rw [if_neg c15] at h
      refine Rn.i1f (t := 107) dk_119_100 rfl (decide_eq_false c15) ?_
      refine Rn.pu (st' := [.int x4]) dk_119_103 L_119 rfl ?_
      refine Rn.pu (st' := [.int (-x4)]) dk_119_105 L_119 rfl ?_
      cases h
      exact Rn.ri dk_119_106 R_119 rfl
def b_119_71 (x1 : Int32) (x2 : Int64) (x4 : Int32) (s0 : Int64) (s1 : Int32) (I : dI) (J : dJ) : Option (Int32 × dI × dJ) := if ¬ (s1 < 0 ∨ 8 ≤ Int32.toNatClampNeg s1) then lt_ (sJ J 103 (Int32.toNatClampNeg s1) s0) (fun J10 => (m_132 x1 I J10).bind (fun r11 => if x4 ≤ 0 then (b_119_92 x1 x2 x4 r11.1 r11.2) else (if ¬ (x1 < 0 ∨ 8 ≤ Int32.toNatClampNeg x1) then (if ¬ (x1 < 0 ∨ 8 ≤ Int32.toNatClampNeg x1) then lt_ (sI r11.1 101 (Int32.toNatClampNeg x1) ((r11.1 101 (Int32.toNatClampNeg x1)) + 1)) (fun I16 => b_119_92 x1 x2 x4 I16 r11.2) else none) else none))) else none
theorem p_119_71 {Q : Nat → Option Nat} {D : Nat} (hD : 6 ≤ D) (x1 : Int32) (x2 : Int64) (x4 : Int32) (s0 : Int64) (s1 : Int32) (I : dI) (J : dJ) (R : (Int32 × dI × dJ)) (h : b_119_71 x1 x2 x4 s0 s1 I J = some R) : Rn Q D 119 71 [(0, .ref 92), (1, .int x1), (2, .long x2), (4, .int x4)] [.long s0, .int s1, .ref 103] I J (some (.int R.1)) R.2.1 R.2.2 := by
  replace h : (if ¬ (s1 < 0 ∨ 8 ≤ Int32.toNatClampNeg s1) then lt_ (sJ J 103 (Int32.toNatClampNeg s1) s0) (fun J10 => (m_132 x1 I J10).bind (fun r11 => if x4 ≤ 0 then (b_119_92 x1 x2 x4 r11.1 r11.2) else (if ¬ (x1 < 0 ∨ 8 ≤ Int32.toNatClampNeg x1) then (if ¬ (x1 < 0 ∨ 8 ≤ Int32.toNatClampNeg x1) then lt_ (sI r11.1 101 (Int32.toNatClampNeg x1) ((r11.1 101 (Int32.toNatClampNeg x1)) + 1)) (fun I16 => b_119_92 x1 x2 x4 I16 r11.2) else none) else none))) else none) = some R := h
  obtain ⟨c9, h⟩ := xm_if h
  obtain ⟨J10, eJ10, h⟩ := letS h
  refine Rn.last dk_119_71 sk_103 c9 ?_
  rw [← eJ10]
  refine Rn.pu (st' := [.ref 92]) dk_119_72 L_119 rfl ?_
  refine Rn.pu (st' := [.int x1, .ref 92]) dk_119_73 L_119 rfl ?_
  obtain ⟨r11, e12, h⟩ := bindS h
  refine Rn.cvV (p := 92) (As := [.int x1]) (rest := []) dk_119_74 ck_119_74.choose_spec rfl sk_92 rfl (x_132 (Nat.le_trans (Nat.le_of_ble_eq_true rfl) hD) e12) ?_
  refine Rn.pu (st' := [.int x4]) dk_119_77 L_119 rfl ?_
  by_cases c13 : x4 ≤ 0
  · rw [if_pos c13] at h
    refine Rn.i1t (t := 92) dk_119_79 rfl (decide_eq_true c13) ?_
    exact Rn.wk [0, 1, 2, 3] rfl (p_119_92 hD _ _ _ _ _ _ h)
  · rw [if_neg c13] at h
    refine Rn.i1f (t := 92) dk_119_79 rfl (decide_eq_false c13) ?_
    refine Rn.pu (st' := [.ref 92]) dk_119_82 L_119 rfl ?_
    refine Rn.gR (r := 101) dk_119_83 f_119_83.choose_spec sk_92 rfl ?_
    refine Rn.pu (st' := [.int x1, .ref 101]) dk_119_86 L_119 rfl ?_
    refine Rn.pu (st' := [.int x1, .ref 101, .int x1, .ref 101]) dk_119_87 L_119 rfl ?_
    obtain ⟨c14, h⟩ := xm_if h
    refine Rn.iald dk_119_88 sk_101 c14 ?_
    refine Rn.ic dk_119_89 cic_1 ?_
    refine Rn.pu (st' := [.int ((r11.1 101 (Int32.toNatClampNeg x1)) + 1), .int x1, .ref 101]) dk_119_90 L_119 rfl ?_
    obtain ⟨c15, h⟩ := xm_if h
    obtain ⟨I16, eI16, h⟩ := letS h
    refine Rn.iast dk_119_91 sk_101 c15 ?_
    rw [← eI16]
    exact Rn.wk [0, 1, 2, 3] rfl (p_119_92 hD _ _ _ _ _ _ h)
def b_119_0 (x1 : Int32) (I : dI) (J : dJ) : Option (Int32 × dI × dJ) := lt_ (sI I 92 33 0) (fun I1 => if ¬ (x1 < 0 ∨ 8 ≤ Int32.toNatClampNeg x1) then ((m_120 x1 (120 * x1) ((120 * x1) + (I1 98 (Int32.toNatClampNeg x1))) I1 J).bind (fun r3 => if ¬ (x1 < 0 ∨ 8 ≤ Int32.toNatClampNeg x1) then lt_ (sI r3.2.1 102 (Int32.toNatClampNeg x1) (r3.2.1 92 33)) (fun I6 => lt_ (sJ r3.2.2 92 20 ((r3.2.2 92 20) + (Int32.toInt64 (I6 92 33)))) (fun J7 => if (r3.2.1 92 34) ≤ 0 then (b_119_71 x1 r3.1 (r3.2.1 92 34) r3.1 x1 I6 J7) else (b_119_71 x1 r3.1 (r3.2.1 92 34) 0 x1 I6 J7))) else none)) else none)
theorem p_119_0 {Q : Nat → Option Nat} {D : Nat} (hD : 6 ≤ D) (x1 : Int32) (I : dI) (J : dJ) (R : (Int32 × dI × dJ)) (h : b_119_0 x1 I J = some R) : Rn Q D 119 0 [(0, .ref 92), (1, .int x1)] [] I J (some (.int R.1)) R.2.1 R.2.2 := by
  replace h : (lt_ (sI I 92 33 0) (fun I1 => if ¬ (x1 < 0 ∨ 8 ≤ Int32.toNatClampNeg x1) then ((m_120 x1 (120 * x1) ((120 * x1) + (I1 98 (Int32.toNatClampNeg x1))) I1 J).bind (fun r3 => if ¬ (x1 < 0 ∨ 8 ≤ Int32.toNatClampNeg x1) then lt_ (sI r3.2.1 102 (Int32.toNatClampNeg x1) (r3.2.1 92 33)) (fun I6 => lt_ (sJ r3.2.2 92 20 ((r3.2.2 92 20) + (Int32.toInt64 (I6 92 33)))) (fun J7 => if (r3.2.1 92 34) ≤ 0 then (b_119_71 x1 r3.1 (r3.2.1 92 34) r3.1 x1 I6 J7) else (b_119_71 x1 r3.1 (r3.2.1 92 34) 0 x1 I6 J7))) else none)) else none)) = some R := h
  refine Rn.pu (st' := [.ref 92]) dk_119_0 L_119 rfl ?_
  refine Rn.ic dk_119_1 cic_0 ?_
  obtain ⟨I1, eI1, h⟩ := letS h
  refine Rn.pI dk_119_2 f_119_2.choose_spec.1 sk_92 rfl f_119_2.choose_spec.2 rfl rfl ?_
  rw [← eI1]
  refine Rn.pu (st' := [.ref 92]) dk_119_5 L_119 rfl ?_
  refine Rn.pu (st' := [.int x1, .ref 92]) dk_119_6 L_119 rfl ?_
  refine Rn.bp dk_119_7 cbp_120 ?_
  refine Rn.pu (st' := [.int x1, .int 120, .int x1, .ref 92]) dk_119_9 L_119 rfl ?_
  refine Rn.pu (st' := [.int (120 * x1), .int x1, .ref 92]) dk_119_10 L_119 rfl ?_
  refine Rn.bp dk_119_11 cbp_120 ?_
  refine Rn.pu (st' := [.int x1, .int 120, .int (120 * x1), .int x1, .ref 92]) dk_119_13 L_119 rfl ?_
  refine Rn.pu (st' := [.int (120 * x1), .int (120 * x1), .int x1, .ref 92]) dk_119_14 L_119 rfl ?_
  refine Rn.pu (st' := [.ref 92, .int (120 * x1), .int (120 * x1), .int x1, .ref 92]) dk_119_15 L_119 rfl ?_
  refine Rn.gR (r := 98) dk_119_16 f_119_16.choose_spec sk_92 rfl ?_
  refine Rn.pu (st' := [.int x1, .ref 98, .int (120 * x1), .int (120 * x1), .int x1, .ref 92]) dk_119_19 L_119 rfl ?_
  obtain ⟨c2, h⟩ := xm_if h
  refine Rn.iald dk_119_20 sk_98 c2 ?_
  refine Rn.pu (st' := [.int ((120 * x1) + (I1 98 (Int32.toNatClampNeg x1))), .int (120 * x1), .int x1, .ref 92]) dk_119_21 L_119 rfl ?_
  obtain ⟨r3, e4, h⟩ := bindS h
  refine Rn.cvJ (p := 92) (As := [.int x1, .int (120 * x1), .int ((120 * x1) + (I1 98 (Int32.toNatClampNeg x1)))]) (rest := []) dk_119_22 ck_119_22.choose_spec rfl sk_92 rfl (x_120 (Nat.le_trans (Nat.le_of_ble_eq_true rfl) hD) e4) ?_
  refine Rn.pu (ls' := [(2, .long r3.1), (0, .ref 92), (1, .int x1)]) (st' := []) dk_119_25 L_119 rfl ?_
  refine Rn.pu (st' := [.ref 92]) dk_119_26 L_119 rfl ?_
  refine Rn.gI dk_119_27 f_119_27.choose_spec sk_92 rfl ?_
  refine Rn.pu (ls' := [(4, .int (r3.2.1 92 34)), (2, .long r3.1), (0, .ref 92), (1, .int x1)]) (st' := []) dk_119_30 L_119 rfl ?_
  refine Rn.pu (st' := [.ref 92]) dk_119_32 L_119 rfl ?_
  refine Rn.gR (r := 102) dk_119_33 f_119_33.choose_spec sk_92 rfl ?_
  refine Rn.pu (st' := [.int x1, .ref 102]) dk_119_36 L_119 rfl ?_
  refine Rn.pu (st' := [.ref 92, .int x1, .ref 102]) dk_119_37 L_119 rfl ?_
  refine Rn.gI dk_119_38 f_119_38.choose_spec sk_92 rfl ?_
  obtain ⟨c5, h⟩ := xm_if h
  obtain ⟨I6, eI6, h⟩ := letS h
  refine Rn.iast dk_119_41 sk_102 c5 ?_
  rw [← eI6]
  refine Rn.pu (st' := [.ref 92]) dk_119_42 L_119 rfl ?_
  refine Rn.pu (st' := [.ref 92, .ref 92]) dk_119_43 L_119 rfl ?_
  refine Rn.gJ dk_119_44 f_119_44.choose_spec sk_92 rfl ?_
  refine Rn.pu (st' := [.ref 92, .long (r3.2.2 92 20), .ref 92]) dk_119_47 L_119 rfl ?_
  refine Rn.gI dk_119_48 f_119_48.choose_spec sk_92 rfl ?_
  refine Rn.pu (st' := [.long (Int32.toInt64 (I6 92 33)), .long (r3.2.2 92 20), .ref 92]) dk_119_51 L_119 rfl ?_
  refine Rn.pu (st' := [.long ((r3.2.2 92 20) + (Int32.toInt64 (I6 92 33))), .ref 92]) dk_119_52 L_119 rfl ?_
  obtain ⟨J7, eJ7, h⟩ := letS h
  refine Rn.pJ dk_119_53 f_119_53.choose_spec.1 sk_92 rfl f_119_53.choose_spec.2 rfl rfl ?_
  rw [← eJ7]
  refine Rn.pu (st' := [.ref 92]) dk_119_56 L_119 rfl ?_
  refine Rn.gR (r := 103) dk_119_57 f_119_57.choose_spec sk_92 rfl ?_
  refine Rn.pu (st' := [.int x1, .ref 103]) dk_119_60 L_119 rfl ?_
  refine Rn.pu (st' := [.int (r3.2.1 92 34), .int x1, .ref 103]) dk_119_61 L_119 rfl ?_
  by_cases c8 : (r3.2.1 92 34) ≤ 0
  · rw [if_pos c8] at h
    refine Rn.i1t (t := 70) dk_119_63 rfl (decide_eq_true c8) ?_
    refine Rn.pu (st' := [.long r3.1, .int x1, .ref 103]) dk_119_70 L_119 rfl ?_
    exact Rn.wk [2, 3, 1, 0] rfl (p_119_71 hD _ _ _ _ _ _ _ _ h)
  · rw [if_neg c8] at h
    refine Rn.i1f (t := 70) dk_119_63 rfl (decide_eq_false c8) ?_
    refine Rn.lc dk_119_66 clc_0 ?_
    refine Rn.gt (t := 71) dk_119_67 rfl ?_
    exact Rn.wk [2, 3, 1, 0] rfl (p_119_71 hD _ _ _ _ _ _ _ _ h)
def m_119 (x1 : Int32) (I : dI) (J : dJ) : Option (Int32 × dI × dJ) := b_119_0 x1 I J
theorem x_119 {Q : Nat → Option Nat} {D : Nat} (hD : 7 ≤ D) {x1 : Int32} {I : dI} {J : dJ} {R : (Int32 × dI × dJ)} (h : m_119 x1 I J = some R) : Ex Q D 119 I J [.ref 92, .int x1] (some (.int R.1)) R.2.1 R.2.2 := by
  obtain ⟨D, rfl⟩ : ∃ D', D = D' + 1 := ⟨D - 1, by omega⟩
  exact Ex.of (by decide) (by rw [L_119]; exact Nat.le_of_ble_eq_true rfl) (show xm_sub [(0, .ref 92), (1, .int x1)] [(0, .ref 92), (1, .int x1)] from xm_sub_of [0, 1] [0, 1] rfl rfl (by decide)) (p_119_0 (Nat.le_of_succ_le_succ hD) _ _ _ _ h)
-- ConditionDeskModel.ask(I)I
theorem L_118 : tb_mL 118 = 2 := by decide +kernel
theorem R_118 : tb_mr 118 = some .int := by decide +kernel
theorem dk_118_0 : decode (tb_mb 118) 0 = .ok (.aload_n 0, 1) := by decide +kernel
theorem dk_118_1 : decode (tb_mb 118) 1 = .ok (.iload_n 1, 1) := by decide +kernel
theorem dk_118_2 : decode (tb_mb 118) 2 = .ok (.i2l, 1) := by decide +kernel
theorem dk_118_3 : decode (tb_mb 118) 3 = .ok (.lconst 0, 1) := by decide +kernel
theorem dk_118_4 : decode (tb_mb 118) 4 = .ok (.ldc2_w 182, 3) := by decide +kernel
theorem kl_118_4 : tb_kl (tb_oc 118) 182 = some (7) := by decide +kernel
theorem dk_118_7 : decode (tb_mb 118) 7 = .ok (.invokestatic 184, 3) := by decide +kernel
theorem ck_118_7 : ∃ b, tb_cr (tb_oc 118) 184 = some (1, 98, b, 3) := ⟨_, rfl⟩
theorem dk_118_10 : decode (tb_mb 118) 10 = .ok (.ifCond .ne (7), 3) := by decide +kernel
theorem dk_118_17 : decode (tb_mb 118) 17 = .ok (.iconst (0), 1) := by decide +kernel
theorem dk_118_18 : decode (tb_mb 118) 18 = .ok (.iload_n 1, 1) := by decide +kernel
theorem dk_118_19 : decode (tb_mb 118) 19 = .ok (.i2l, 1) := by decide +kernel
theorem dk_118_20 : decode (tb_mb 118) 20 = .ok (.lconst 0, 1) := by decide +kernel
theorem dk_118_21 : decode (tb_mb 118) 21 = .ok (.ldc2_w 182, 3) := by decide +kernel
theorem kl_118_21 : tb_kl (tb_oc 118) 182 = some (7) := by decide +kernel
theorem dk_118_24 : decode (tb_mb 118) 24 = .ok (.invokestatic 184, 3) := by decide +kernel
theorem ck_118_24 : ∃ b, tb_cr (tb_oc 118) 184 = some (1, 98, b, 3) := ⟨_, rfl⟩
theorem dk_118_27 : decode (tb_mb 118) 27 = .ok (.ifCond .eq (19), 3) := by decide +kernel
theorem dk_118_46 : decode (tb_mb 118) 46 = .ok (.iconst (0), 1) := by decide +kernel
theorem dk_118_47 : decode (tb_mb 118) 47 = .ok (.invokevirtual 188, 3) := by decide +kernel
theorem ck_118_47 : ∃ b, tb_cr (tb_oc 118) 188 = some (0, 99, b, 2) := ⟨_, rfl⟩
theorem dk_118_50 : decode (tb_mb 118) 50 = .ok (.ifCond .eq (7), 3) := by decide +kernel
theorem dk_118_57 : decode (tb_mb 118) 57 = .ok (.aload_n 0, 1) := by decide +kernel
theorem dk_118_58 : decode (tb_mb 118) 58 = .ok (.iload_n 1, 1) := by decide +kernel
theorem dk_118_59 : decode (tb_mb 118) 59 = .ok (.invokevirtual 270, 3) := by decide +kernel
theorem ck_118_59 : ∃ b, tb_cr (tb_oc 118) 270 = some (0, 119, b, 1) := ⟨_, rfl⟩
theorem dk_118_62 : decode (tb_mb 118) 62 = .ok (.ireturn, 1) := by decide +kernel
theorem dk_118_53 : decode (tb_mb 118) 53 = .ok (.iconst (0), 1) := by decide +kernel
theorem dk_118_54 : decode (tb_mb 118) 54 = .ok (.goto (8), 3) := by decide +kernel
theorem dk_118_30 : decode (tb_mb 118) 30 = .ok (.aload_n 0, 1) := by decide +kernel
theorem dk_118_31 : decode (tb_mb 118) 31 = .ok (.getfield 20, 3) := by decide +kernel
theorem f_118_31 : ∃ b, tb_fr (tb_oc 118) 20 = some (9, 6, b) := ⟨_, rfl⟩
theorem dk_118_34 : decode (tb_mb 118) 34 = .ok (.iload_n 1, 1) := by decide +kernel
theorem dk_118_35 : decode (tb_mb 118) 35 = .ok (.bipush (7), 2) := by decide +kernel
theorem dk_118_37 : decode (tb_mb 118) 37 = .ok (.iand, 1) := by decide +kernel
theorem dk_118_38 : decode (tb_mb 118) 38 = .ok (.baload, 1) := by decide +kernel
theorem dk_118_39 : decode (tb_mb 118) 39 = .ok (.ifCond .ne (7), 3) := by decide +kernel
theorem dk_118_42 : decode (tb_mb 118) 42 = .ok (.iconst (1), 1) := by decide +kernel
theorem dk_118_43 : decode (tb_mb 118) 43 = .ok (.goto (4), 3) := by decide +kernel
theorem dk_118_13 : decode (tb_mb 118) 13 = .ok (.iconst (1), 1) := by decide +kernel
theorem dk_118_14 : decode (tb_mb 118) 14 = .ok (.goto (4), 3) := by decide +kernel
def b_118_47 (x1 : Int32) (s0 : Int32) (s1 : Int32) (I : dI) (J : dJ) : Option (Int32 × dI × dJ) := (m_99 s1 s0 I J).bind (fun r7 => if r7.1 = 0 then ((m_119 x1 r7.2.1 r7.2.2).bind (fun r10 => some (r10.1, r10.2.1, r10.2.2))) else (some (0, r7.2.1, r7.2.2)))
theorem p_118_47 {Q : Nat → Option Nat} {D : Nat} (hD : 7 ≤ D) (x1 : Int32) (s0 : Int32) (s1 : Int32) (I : dI) (J : dJ) (R : (Int32 × dI × dJ)) (h : b_118_47 x1 s0 s1 I J = some R) : Rn Q D 118 47 [(0, .ref 92), (1, .int x1)] [.int s0, .int s1, .ref 92] I J (some (.int R.1)) R.2.1 R.2.2 := by
  replace h : ((m_99 s1 s0 I J).bind (fun r7 => if r7.1 = 0 then ((m_119 x1 r7.2.1 r7.2.2).bind (fun r10 => some (r10.1, r10.2.1, r10.2.2))) else (some (0, r7.2.1, r7.2.2)))) = some R := h
  obtain ⟨r7, e8, h⟩ := bindS h
  refine Rn.cvI (p := 92) (As := [.int s1, .int s0]) (rest := []) dk_118_47 ck_118_47.choose_spec rfl sk_92 rfl (x_99 (Nat.le_trans (Nat.le_of_ble_eq_true rfl) hD) e8) ?_
  by_cases c9 : r7.1 = 0
  · rw [if_pos c9] at h
    refine Rn.i1t (t := 57) dk_118_50 rfl (decide_eq_true c9) ?_
    refine Rn.pu (st' := [.ref 92]) dk_118_57 L_118 rfl ?_
    refine Rn.pu (st' := [.int x1, .ref 92]) dk_118_58 L_118 rfl ?_
    obtain ⟨r10, e11, h⟩ := bindS h
    refine Rn.cvI (p := 92) (As := [.int x1]) (rest := []) dk_118_59 ck_118_59.choose_spec rfl sk_92 rfl (x_119 (Nat.le_trans (Nat.le_of_ble_eq_true rfl) hD) e11) ?_
    cases h
    exact Rn.ri dk_118_62 R_118 rfl
  · rw [if_neg c9] at h
    refine Rn.i1f (t := 57) dk_118_50 rfl (decide_eq_false c9) ?_
    refine Rn.ic dk_118_53 cic_0 ?_
    refine Rn.gt (t := 62) dk_118_54 rfl ?_
    cases h
    exact Rn.ri dk_118_62 R_118 rfl
def b_118_46 (x1 : Int32) (s0 : Int32) (I : dI) (J : dJ) : Option (Int32 × dI × dJ) := b_118_47 x1 0 s0 I J
theorem p_118_46 {Q : Nat → Option Nat} {D : Nat} (hD : 7 ≤ D) (x1 : Int32) (s0 : Int32) (I : dI) (J : dJ) (R : (Int32 × dI × dJ)) (h : b_118_46 x1 s0 I J = some R) : Rn Q D 118 46 [(0, .ref 92), (1, .int x1)] [.int s0, .ref 92] I J (some (.int R.1)) R.2.1 R.2.2 := by
  replace h : (b_118_47 x1 0 s0 I J) = some R := h
  refine Rn.ic dk_118_46 cic_0 ?_
  exact Rn.wk [0, 1] rfl (p_118_47 hD _ _ _ _ _ _ h)
def b_118_18 (x1 : Int32) (s0 : Int32) (I : dI) (J : dJ) : Option (Int32 × dI × dJ) := (m_98 (Int32.toInt64 x1) 0 7 I J).bind (fun r4 => if r4 = 0 then (b_118_46 x1 s0 I J) else (if ¬ ((x1 &&& 7) < 0 ∨ 8 ≤ Int32.toNatClampNeg (x1 &&& 7)) then (if ¬ (I 96 (Int32.toNatClampNeg (x1 &&& 7))) = 0 then (b_118_46 x1 s0 I J) else (b_118_47 x1 1 s0 I J)) else none))
theorem p_118_18 {Q : Nat → Option Nat} {D : Nat} (hD : 7 ≤ D) (x1 : Int32) (s0 : Int32) (I : dI) (J : dJ) (R : (Int32 × dI × dJ)) (h : b_118_18 x1 s0 I J = some R) : Rn Q D 118 18 [(0, .ref 92), (1, .int x1)] [.int s0, .ref 92] I J (some (.int R.1)) R.2.1 R.2.2 := by
  replace h : ((m_98 (Int32.toInt64 x1) 0 7 I J).bind (fun r4 => if r4 = 0 then (b_118_46 x1 s0 I J) else (if ¬ ((x1 &&& 7) < 0 ∨ 8 ≤ Int32.toNatClampNeg (x1 &&& 7)) then (if ¬ (I 96 (Int32.toNatClampNeg (x1 &&& 7))) = 0 then (b_118_46 x1 s0 I J) else (b_118_47 x1 1 s0 I J)) else none))) = some R := h
  refine Rn.pu (st' := [.int x1, .int s0, .ref 92]) dk_118_18 L_118 rfl ?_
  refine Rn.pu (st' := [.long (Int32.toInt64 x1), .int s0, .ref 92]) dk_118_19 L_118 rfl ?_
  refine Rn.lc dk_118_20 clc_0 ?_
  refine Rn.ldl dk_118_21 kl_118_21 ?_
  obtain ⟨r4, e5, h⟩ := bindS h
  refine Rn.csI (As := [.long (Int32.toInt64 x1), .long 0, .long 7]) (rest := [.int s0, .ref 92]) dk_118_24 ck_118_24.choose_spec rfl (x_98 (Nat.le_trans (Nat.le_of_ble_eq_true rfl) hD) e5) ?_
  by_cases c6 : r4 = 0
  · rw [if_pos c6] at h
    refine Rn.i1t (t := 46) dk_118_27 rfl (decide_eq_true c6) ?_
    exact Rn.wk [0, 1] rfl (p_118_46 hD _ _ _ _ _ h)
  · rw [if_neg c6] at h
    refine Rn.i1f (t := 46) dk_118_27 rfl (decide_eq_false c6) ?_
    refine Rn.pu (st' := [.ref 92, .int s0, .ref 92]) dk_118_30 L_118 rfl ?_
    refine Rn.gR (r := 96) dk_118_31 f_118_31.choose_spec sk_92 rfl ?_
    refine Rn.pu (st' := [.int x1, .ref 96, .int s0, .ref 92]) dk_118_34 L_118 rfl ?_
    refine Rn.bp dk_118_35 cbp_7 ?_
    refine Rn.pu (st' := [.int (x1 &&& 7), .ref 96, .int s0, .ref 92]) dk_118_37 L_118 rfl ?_
    obtain ⟨c7, h⟩ := xm_if h
    refine Rn.bald dk_118_38 sk_96 c7 ?_
    by_cases c8 : ¬ (I 96 (Int32.toNatClampNeg (x1 &&& 7))) = 0
    · rw [if_pos c8] at h
      refine Rn.i1t (t := 46) dk_118_39 rfl (decide_eq_true c8) ?_
      exact Rn.wk [0, 1] rfl (p_118_46 hD _ _ _ _ _ h)
    · rw [if_neg c8] at h
      refine Rn.i1f (t := 46) dk_118_39 rfl (decide_eq_false c8) ?_
      refine Rn.ic dk_118_42 cic_1 ?_
      refine Rn.gt (t := 47) dk_118_43 rfl ?_
      exact Rn.wk [0, 1] rfl (p_118_47 hD _ _ _ _ _ _ h)
def b_118_0 (x1 : Int32) (I : dI) (J : dJ) : Option (Int32 × dI × dJ) := (m_98 (Int32.toInt64 x1) 0 7 I J).bind (fun r1 => if ¬ r1 = 0 then (b_118_18 x1 0 I J) else (b_118_18 x1 1 I J))
theorem p_118_0 {Q : Nat → Option Nat} {D : Nat} (hD : 7 ≤ D) (x1 : Int32) (I : dI) (J : dJ) (R : (Int32 × dI × dJ)) (h : b_118_0 x1 I J = some R) : Rn Q D 118 0 [(0, .ref 92), (1, .int x1)] [] I J (some (.int R.1)) R.2.1 R.2.2 := by
  replace h : ((m_98 (Int32.toInt64 x1) 0 7 I J).bind (fun r1 => if ¬ r1 = 0 then (b_118_18 x1 0 I J) else (b_118_18 x1 1 I J))) = some R := h
  refine Rn.pu (st' := [.ref 92]) dk_118_0 L_118 rfl ?_
  refine Rn.pu (st' := [.int x1, .ref 92]) dk_118_1 L_118 rfl ?_
  refine Rn.pu (st' := [.long (Int32.toInt64 x1), .ref 92]) dk_118_2 L_118 rfl ?_
  refine Rn.lc dk_118_3 clc_0 ?_
  refine Rn.ldl dk_118_4 kl_118_4 ?_
  obtain ⟨r1, e2, h⟩ := bindS h
  refine Rn.csI (As := [.long (Int32.toInt64 x1), .long 0, .long 7]) (rest := [.ref 92]) dk_118_7 ck_118_7.choose_spec rfl (x_98 (Nat.le_trans (Nat.le_of_ble_eq_true rfl) hD) e2) ?_
  by_cases c3 : ¬ r1 = 0
  · rw [if_pos c3] at h
    refine Rn.i1t (t := 17) dk_118_10 rfl (decide_eq_true c3) ?_
    refine Rn.ic dk_118_17 cic_0 ?_
    exact Rn.wk [0, 1] rfl (p_118_18 hD _ _ _ _ _ h)
  · rw [if_neg c3] at h
    refine Rn.i1f (t := 17) dk_118_10 rfl (decide_eq_false c3) ?_
    refine Rn.ic dk_118_13 cic_1 ?_
    refine Rn.gt (t := 18) dk_118_14 rfl ?_
    exact Rn.wk [0, 1] rfl (p_118_18 hD _ _ _ _ _ h)
def m_118 (x1 : Int32) (I : dI) (J : dJ) : Option (Int32 × dI × dJ) := b_118_0 x1 I J
theorem x_118 {Q : Nat → Option Nat} {D : Nat} (hD : 8 ≤ D) {x1 : Int32} {I : dI} {J : dJ} {R : (Int32 × dI × dJ)} (h : m_118 x1 I J = some R) : Ex Q D 118 I J [.ref 92, .int x1] (some (.int R.1)) R.2.1 R.2.2 := by
  obtain ⟨D, rfl⟩ : ∃ D', D = D' + 1 := ⟨D - 1, by omega⟩
  exact Ex.of (by decide) (by rw [L_118]; exact Nat.le_of_ble_eq_true rfl) (show xm_sub [(0, .ref 92), (1, .int x1)] [(0, .ref 92), (1, .int x1)] from xm_sub_of [0, 1] [0, 1] rfl rfl (by decide)) (p_118_0 (Nat.le_of_succ_le_succ hD) _ _ _ _ h)
