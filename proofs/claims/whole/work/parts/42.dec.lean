/-! Printed by wip/whole/gen_dec.py: methods read back. -/
-- ConditionDesk$Worker.workBetween(II)J
theorem L_31 : tb_mL 31 = 8 := by decide +kernel
theorem R_31 : tb_mr 31 = some .long := by decide +kernel
theorem dk_31_0 : decode (tb_mb 31) 0 = .ok (.aload_n 0, 1) := by decide +kernel
theorem dk_31_1 : decode (tb_mb 31) 1 = .ok (.aload_n 0, 1) := by decide +kernel
theorem dk_31_2 : decode (tb_mb 31) 2 = .ok (.getfield 12, 3) := by decide +kernel
theorem f_31_2 : ∃ b, tb_fr (tb_oc 31) 12 = some (7, 1, b) := ⟨_, rfl⟩
theorem dk_31_5 : decode (tb_mb 31) 5 = .ok (.iload_n 1, 1) := by decide +kernel
theorem dk_31_6 : decode (tb_mb 31) 6 = .ok (.invokevirtual 58, 3) := by decide +kernel
theorem ck_31_6 : ∃ b, tb_cr (tb_oc 31) 58 = some (0, 21, b, 1) := ⟨_, rfl⟩
theorem dk_31_9 : decode (tb_mb 31) 9 = .ok (.iload_n 2, 1) := by decide +kernel
theorem dk_31_10 : decode (tb_mb 31) 10 = .ok (.iconst (1), 1) := by decide +kernel
theorem dk_31_11 : decode (tb_mb 31) 11 = .ok (.iadd, 1) := by decide +kernel
theorem dk_31_12 : decode (tb_mb 31) 12 = .ok (.invokevirtual 47, 3) := by decide +kernel
theorem ck_31_12 : ∃ b, tb_cr (tb_oc 31) 47 = some (0, 15, b, 2) := ⟨_, rfl⟩
theorem dk_31_15 : decode (tb_mb 31) 15 = .ok (.lstore_n 3, 1) := by decide +kernel
theorem dk_31_16 : decode (tb_mb 31) 16 = .ok (.aload_n 0, 1) := by decide +kernel
theorem dk_31_17 : decode (tb_mb 31) 17 = .ok (.aload_n 0, 1) := by decide +kernel
theorem dk_31_18 : decode (tb_mb 31) 18 = .ok (.getfield 12, 3) := by decide +kernel
theorem f_31_18 : ∃ b, tb_fr (tb_oc 31) 12 = some (7, 1, b) := ⟨_, rfl⟩
theorem dk_31_21 : decode (tb_mb 31) 21 = .ok (.iload_n 1, 1) := by decide +kernel
theorem dk_31_22 : decode (tb_mb 31) 22 = .ok (.invokevirtual 108, 3) := by decide +kernel
theorem ck_31_22 : ∃ b, tb_cr (tb_oc 31) 108 = some (0, 30, b, 1) := ⟨_, rfl⟩
theorem dk_31_25 : decode (tb_mb 31) 25 = .ok (.iload_n 2, 1) := by decide +kernel
theorem dk_31_26 : decode (tb_mb 31) 26 = .ok (.iconst (1), 1) := by decide +kernel
theorem dk_31_27 : decode (tb_mb 31) 27 = .ok (.iadd, 1) := by decide +kernel
theorem dk_31_28 : decode (tb_mb 31) 28 = .ok (.invokevirtual 47, 3) := by decide +kernel
theorem ck_31_28 : ∃ b, tb_cr (tb_oc 31) 47 = some (0, 15, b, 2) := ⟨_, rfl⟩
theorem dk_31_31 : decode (tb_mb 31) 31 = .ok (.lstore 5, 2) := by decide +kernel
theorem dk_31_33 : decode (tb_mb 31) 33 = .ok (.aload_n 0, 1) := by decide +kernel
theorem dk_31_34 : decode (tb_mb 31) 34 = .ok (.getfield 12, 3) := by decide +kernel
theorem f_31_34 : ∃ b, tb_fr (tb_oc 31) 12 = some (7, 1, b) := ⟨_, rfl⟩
theorem dk_31_37 : decode (tb_mb 31) 37 = .ok (.iload_n 1, 1) := by decide +kernel
theorem dk_31_38 : decode (tb_mb 31) 38 = .ok (.invokevirtual 54, 3) := by decide +kernel
theorem ck_31_38 : ∃ b, tb_cr (tb_oc 31) 54 = some (0, 17, b, 1) := ⟨_, rfl⟩
theorem dk_31_41 : decode (tb_mb 31) 41 = .ok (.istore 7, 2) := by decide +kernel
theorem dk_31_43 : decode (tb_mb 31) 43 = .ok (.iload 7, 2) := by decide +kernel
theorem dk_31_45 : decode (tb_mb 31) 45 = .ok (.bipush (32), 2) := by decide +kernel
theorem dk_31_47 : decode (tb_mb 31) 47 = .ok (.if_icmp .eq (10), 3) := by decide +kernel
theorem dk_31_57 : decode (tb_mb 31) 57 = .ok (.aload_n 0, 1) := by decide +kernel
theorem dk_31_58 : decode (tb_mb 31) 58 = .ok (.iload 7, 2) := by decide +kernel
theorem dk_31_60 : decode (tb_mb 31) 60 = .ok (.lload_n 3, 1) := by decide +kernel
theorem dk_31_61 : decode (tb_mb 31) 61 = .ok (.lload 5, 2) := by decide +kernel
theorem dk_31_63 : decode (tb_mb 31) 63 = .ok (.invokevirtual 111, 3) := by decide +kernel
theorem ck_31_63 : ∃ b, tb_cr (tb_oc 31) 111 = some (0, 32, b, 3) := ⟨_, rfl⟩
theorem dk_31_66 : decode (tb_mb 31) 66 = .ok (.lreturn, 1) := by decide +kernel
theorem dk_31_50 : decode (tb_mb 31) 50 = .ok (.iload 7, 2) := by decide +kernel
theorem dk_31_52 : decode (tb_mb 31) 52 = .ok (.bipush (33), 2) := by decide +kernel
theorem dk_31_54 : decode (tb_mb 31) 54 = .ok (.if_icmp .ne (13), 3) := by decide +kernel
theorem dk_31_67 : decode (tb_mb 31) 67 = .ok (.iload 7, 2) := by decide +kernel
theorem dk_31_69 : decode (tb_mb 31) 69 = .ok (.invokestatic 115, 3) := by decide +kernel
theorem ck_31_69 : ∃ b, tb_cr (tb_oc 31) 115 = some (1, 33, b, 1) := ⟨_, rfl⟩
theorem dk_31_72 : decode (tb_mb 31) 72 = .ok (.ifCond .eq (17), 3) := by decide +kernel
theorem dk_31_89 : decode (tb_mb 31) 89 = .ok (.iload 7, 2) := by decide +kernel
theorem dk_31_91 : decode (tb_mb 31) 91 = .ok (.lload_n 3, 1) := by decide +kernel
theorem dk_31_92 : decode (tb_mb 31) 92 = .ok (.lload 5, 2) := by decide +kernel
theorem dk_31_94 : decode (tb_mb 31) 94 = .ok (.invokestatic 122, 3) := by decide +kernel
theorem ck_31_94 : ∃ b, tb_cr (tb_oc 31) 122 = some (1, 35, b, 3) := ⟨_, rfl⟩
theorem dk_31_97 : decode (tb_mb 31) 97 = .ok (.lreturn, 1) := by decide +kernel
theorem dk_31_75 : decode (tb_mb 31) 75 = .ok (.iload 7, 2) := by decide +kernel
theorem dk_31_77 : decode (tb_mb 31) 77 = .ok (.lload_n 3, 1) := by decide +kernel
theorem dk_31_78 : decode (tb_mb 31) 78 = .ok (.lload 5, 2) := by decide +kernel
theorem dk_31_80 : decode (tb_mb 31) 80 = .ok (.invokestatic 118, 3) := by decide +kernel
theorem ck_31_80 : ∃ b, tb_cr (tb_oc 31) 118 = some (1, 34, b, 3) := ⟨_, rfl⟩
theorem dk_31_83 : decode (tb_mb 31) 83 = .ok (.invokestatic 104, 3) := by decide +kernel
theorem ck_31_83 : ∃ b, tb_cr (tb_oc 31) 104 = some (1, 23, b, 1) := ⟨_, rfl⟩
theorem dk_31_86 : decode (tb_mb 31) 86 = .ok (.goto (11), 3) := by decide +kernel
def b_31_57 (W : Int32 → Int32 → dI → dJ → Option (Int64 × dI × dJ)) (p : Nat) (x3 : Int64) (x5 : Int64) (x7 : Int32) (I : dI) (J : dJ) : Option (Int64 × dI × dJ) := (m_32 p x7 x3 x5 I J).bind (fun r12 => some (r12.1, r12.2.1, r12.2.2))
theorem p_31_57 {Q : Nat → Option Nat} {D : Nat} {p : Nat} (hD : 2 ≤ D) {W : Int32 → Int32 → dI → dJ → Option (Int64 × dI × dJ)} (hW : ∀ (a b : Int32) (I : dI) (J : dJ) (R : Int64 × dI × dJ), W a b I J = some R → Ex Q D 15 I J [.ref p, .int a, .int b] (some (.long R.1)) R.2.1 R.2.2) (okp : okW p) (x3 : Int64) (x5 : Int64) (x7 : Int32) (I : dI) (J : dJ) (R : (Int64 × dI × dJ)) (h : b_31_57 W p x3 x5 x7 I J = some R) : Rn Q D 31 57 [(0, .ref p), (3, .long x3), (5, .long x5), (7, .int x7)] [] I J (some (.long R.1)) R.2.1 R.2.2 := by
  replace h : ((m_32 p x7 x3 x5 I J).bind (fun r12 => some (r12.1, r12.2.1, r12.2.2))) = some R := h
  refine Rn.pu (st' := [.ref p]) dk_31_57 L_31 rfl ?_
  refine Rn.pu (st' := [.int x7, .ref p]) dk_31_58 L_31 rfl ?_
  refine Rn.pu (st' := [.long x3, .int x7, .ref p]) dk_31_60 L_31 rfl ?_
  refine Rn.pu (st' := [.long x5, .long x3, .int x7, .ref p]) dk_31_61 L_31 rfl ?_
  obtain ⟨r12, e13, h⟩ := bindS h
  refine Rn.cvJ (p := p) (As := [.int x7, .long x3, .long x5]) (rest := []) dk_31_63 ck_31_63.choose_spec rfl okp.1 rfl (x_32 (Nat.le_trans (Nat.le_of_ble_eq_true rfl) hD) okp e13) ?_
  cases h
  exact Rn.rl dk_31_66 R_31
def b_31_0 (W : Int32 → Int32 → dI → dJ → Option (Int64 × dI × dJ)) (p : Nat) (x1 : Int32) (x2 : Int32) (I : dI) (J : dJ) : Option (Int64 × dI × dJ) := (m_21 (p + 1) x1 I J).bind (fun r1 => (W r1 (x2 + 1) I J).bind (fun r3 => (m_30 (p + 1) x1 r3.2.1 r3.2.2).bind (fun r5 => (W r5 (x2 + 1) r3.2.1 r3.2.2).bind (fun r7 => (m_17 (p + 1) x1 r7.2.1 r7.2.2).bind (fun r9 => if r9 = 32 then (b_31_57 W p r3.1 r7.1 r9 r7.2.1 r7.2.2) else (if ¬ r9 = 33 then ((m_33 r9 r7.2.1 r7.2.2).bind (fun r13 => if r13 = 0 then ((m_35 r9 r3.1 r7.1 r7.2.1 r7.2.2).bind (fun r16 => some (r16, r7.2.1, r7.2.2))) else ((m_34 r9 r3.1 r7.1 r7.2.1 r7.2.2).bind (fun r18 => (m_23 r18 r7.2.1 r7.2.2).bind (fun r20 => some (r20, r7.2.1, r7.2.2)))))) else (b_31_57 W p r3.1 r7.1 r9 r7.2.1 r7.2.2)))))))
theorem p_31_0 {Q : Nat → Option Nat} {D : Nat} {p : Nat} (hD : 2 ≤ D) {W : Int32 → Int32 → dI → dJ → Option (Int64 × dI × dJ)} (hW : ∀ (a b : Int32) (I : dI) (J : dJ) (R : Int64 × dI × dJ), W a b I J = some R → Ex Q D 15 I J [.ref p, .int a, .int b] (some (.long R.1)) R.2.1 R.2.2) (okp : okW p) (x1 : Int32) (x2 : Int32) (I : dI) (J : dJ) (R : (Int64 × dI × dJ)) (h : b_31_0 W p x1 x2 I J = some R) : Rn Q D 31 0 [(0, .ref p), (1, .int x1), (2, .int x2)] [] I J (some (.long R.1)) R.2.1 R.2.2 := by
  replace h : ((m_21 (p + 1) x1 I J).bind (fun r1 => (W r1 (x2 + 1) I J).bind (fun r3 => (m_30 (p + 1) x1 r3.2.1 r3.2.2).bind (fun r5 => (W r5 (x2 + 1) r3.2.1 r3.2.2).bind (fun r7 => (m_17 (p + 1) x1 r7.2.1 r7.2.2).bind (fun r9 => if r9 = 32 then (b_31_57 W p r3.1 r7.1 r9 r7.2.1 r7.2.2) else (if ¬ r9 = 33 then ((m_33 r9 r7.2.1 r7.2.2).bind (fun r13 => if r13 = 0 then ((m_35 r9 r3.1 r7.1 r7.2.1 r7.2.2).bind (fun r16 => some (r16, r7.2.1, r7.2.2))) else ((m_34 r9 r3.1 r7.1 r7.2.1 r7.2.2).bind (fun r18 => (m_23 r18 r7.2.1 r7.2.2).bind (fun r20 => some (r20, r7.2.1, r7.2.2)))))) else (b_31_57 W p r3.1 r7.1 r9 r7.2.1 r7.2.2)))))))) = some R := h
  refine Rn.pu (st' := [.ref p]) dk_31_0 L_31 rfl ?_
  refine Rn.pu (st' := [.ref p, .ref p]) dk_31_1 L_31 rfl ?_
  refine Rn.gR (r := (p + 1)) dk_31_2 f_31_2.choose_spec okp.1 rfl ?_
  refine Rn.pu (st' := [.int x1, .ref (p + 1), .ref p]) dk_31_5 L_31 rfl ?_
  obtain ⟨r1, e2, h⟩ := bindS h
  refine Rn.cvI (p := (p + 1)) (As := [.int x1]) (rest := [.ref p]) dk_31_6 ck_31_6.choose_spec rfl okp.2.1.1 rfl (x_21 (Nat.le_trans (Nat.le_of_ble_eq_true rfl) hD) okp.2.1 e2) ?_
  refine Rn.pu (st' := [.int x2, .int r1, .ref p]) dk_31_9 L_31 rfl ?_
  refine Rn.ic dk_31_10 cic_1 ?_
  refine Rn.pu (st' := [.int (x2 + 1), .int r1, .ref p]) dk_31_11 L_31 rfl ?_
  obtain ⟨r3, e4, h⟩ := bindS h
  refine Rn.cvJ (p := p) (As := [.int r1, .int (x2 + 1)]) (rest := []) dk_31_12 ck_31_12.choose_spec rfl okp.1 rfl (hW _ _ _ _ _ e4) ?_
  refine Rn.pu (ls' := [(3, .long r3.1), (0, .ref p), (1, .int x1), (2, .int x2)]) (st' := []) dk_31_15 L_31 rfl ?_
  refine Rn.pu (st' := [.ref p]) dk_31_16 L_31 rfl ?_
  refine Rn.pu (st' := [.ref p, .ref p]) dk_31_17 L_31 rfl ?_
  refine Rn.gR (r := (p + 1)) dk_31_18 f_31_18.choose_spec okp.1 rfl ?_
  refine Rn.pu (st' := [.int x1, .ref (p + 1), .ref p]) dk_31_21 L_31 rfl ?_
  obtain ⟨r5, e6, h⟩ := bindS h
  refine Rn.cvI (p := (p + 1)) (As := [.int x1]) (rest := [.ref p]) dk_31_22 ck_31_22.choose_spec rfl okp.2.1.1 rfl (x_30 (Nat.le_trans (Nat.le_of_ble_eq_true rfl) hD) okp.2.1 e6) ?_
  refine Rn.pu (st' := [.int x2, .int r5, .ref p]) dk_31_25 L_31 rfl ?_
  refine Rn.ic dk_31_26 cic_1 ?_
  refine Rn.pu (st' := [.int (x2 + 1), .int r5, .ref p]) dk_31_27 L_31 rfl ?_
  obtain ⟨r7, e8, h⟩ := bindS h
  refine Rn.cvJ (p := p) (As := [.int r5, .int (x2 + 1)]) (rest := []) dk_31_28 ck_31_28.choose_spec rfl okp.1 rfl (hW _ _ _ _ _ e8) ?_
  refine Rn.pu (ls' := [(5, .long r7.1), (3, .long r3.1), (0, .ref p), (1, .int x1), (2, .int x2)]) (st' := []) dk_31_31 L_31 rfl ?_
  refine Rn.pu (st' := [.ref p]) dk_31_33 L_31 rfl ?_
  refine Rn.gR (r := (p + 1)) dk_31_34 f_31_34.choose_spec okp.1 rfl ?_
  refine Rn.pu (st' := [.int x1, .ref (p + 1)]) dk_31_37 L_31 rfl ?_
  obtain ⟨r9, e10, h⟩ := bindS h
  refine Rn.cvI (p := (p + 1)) (As := [.int x1]) (rest := []) dk_31_38 ck_31_38.choose_spec rfl okp.2.1.1 rfl (x_17 (Nat.le_trans (Nat.le_of_ble_eq_true rfl) hD) okp.2.1 e10) ?_
  refine Rn.pu (ls' := [(7, .int r9), (5, .long r7.1), (3, .long r3.1), (0, .ref p), (1, .int x1), (2, .int x2)]) (st' := []) dk_31_41 L_31 rfl ?_
  refine Rn.pu (st' := [.int r9]) dk_31_43 L_31 rfl ?_
  refine Rn.bp dk_31_45 cbp_32 ?_
  by_cases c11 : r9 = 32
  · rw [if_pos c11] at h
    refine Rn.i2t (t := 57) dk_31_47 rfl (decide_eq_true c11) ?_
    exact Rn.wk [3, 2, 1, 0] rfl (p_31_57 hD hW okp _ _ _ _ _ _ h)
  · rw [if_neg c11] at h
    refine Rn.i2f (t := 57) dk_31_47 rfl (decide_eq_false c11) ?_
    refine Rn.pu (st' := [.int r9]) dk_31_50 L_31 rfl ?_
    refine Rn.bp dk_31_52 cbp_33 ?_
    by_cases c12 : ¬ r9 = 33
    · rw [if_pos c12] at h
      refine Rn.i2t (t := 67) dk_31_54 rfl (decide_eq_true c12) ?_
      refine Rn.pu (st' := [.int r9]) dk_31_67 L_31 rfl ?_
      obtain ⟨r13, e14, h⟩ := bindS h
      refine Rn.csI (As := [.int r9]) (rest := []) dk_31_69 ck_31_69.choose_spec rfl (x_33 (Nat.le_trans (Nat.le_of_ble_eq_true rfl) hD) e14) ?_
      by_cases c15 : r13 = 0
      · rw [if_pos c15] at h
        refine Rn.i1t (t := 89) dk_31_72 rfl (decide_eq_true c15) ?_
        refine Rn.pu (st' := [.int r9]) dk_31_89 L_31 rfl ?_
        refine Rn.pu (st' := [.long r3.1, .int r9]) dk_31_91 L_31 rfl ?_
        refine Rn.pu (st' := [.long r7.1, .long r3.1, .int r9]) dk_31_92 L_31 rfl ?_
        obtain ⟨r16, e17, h⟩ := bindS h
        refine Rn.csJ (As := [.int r9, .long r3.1, .long r7.1]) (rest := []) dk_31_94 ck_31_94.choose_spec rfl (x_35 (Nat.le_trans (Nat.le_of_ble_eq_true rfl) hD) e17) ?_
        cases h
        exact Rn.rl dk_31_97 R_31
      · rw [if_neg c15] at h
        refine Rn.i1f (t := 89) dk_31_72 rfl (decide_eq_false c15) ?_
        refine Rn.pu (st' := [.int r9]) dk_31_75 L_31 rfl ?_
        refine Rn.pu (st' := [.long r3.1, .int r9]) dk_31_77 L_31 rfl ?_
        refine Rn.pu (st' := [.long r7.1, .long r3.1, .int r9]) dk_31_78 L_31 rfl ?_
        obtain ⟨r18, e19, h⟩ := bindS h
        refine Rn.csI (As := [.int r9, .long r3.1, .long r7.1]) (rest := []) dk_31_80 ck_31_80.choose_spec rfl (x_34 (Nat.le_trans (Nat.le_of_ble_eq_true rfl) hD) e19) ?_
        obtain ⟨r20, e21, h⟩ := bindS h
        refine Rn.csJ (As := [.int r18]) (rest := []) dk_31_83 ck_31_83.choose_spec rfl (x_23 (Nat.le_trans (Nat.le_of_ble_eq_true rfl) hD) e21) ?_
        refine Rn.gt (t := 97) dk_31_86 rfl ?_
        cases h
        exact Rn.rl dk_31_97 R_31
    · rw [if_neg c12] at h
      refine Rn.i2f (t := 67) dk_31_54 rfl (decide_eq_false c12) ?_
      exact Rn.wk [3, 2, 1, 0] rfl (p_31_57 hD hW okp _ _ _ _ _ _ h)
def m_31 (W : Int32 → Int32 → dI → dJ → Option (Int64 × dI × dJ)) (p : Nat) (x1 : Int32) (x2 : Int32) (I : dI) (J : dJ) : Option (Int64 × dI × dJ) := b_31_0 W p x1 x2 I J
theorem x_31 {Q : Nat → Option Nat} {D : Nat} {p : Nat} (hD : 2 ≤ D) {W : Int32 → Int32 → dI → dJ → Option (Int64 × dI × dJ)} (hW : ∀ (a b : Int32) (I : dI) (J : dJ) (R : Int64 × dI × dJ), W a b I J = some R → Ex Q D 15 I J [.ref p, .int a, .int b] (some (.long R.1)) R.2.1 R.2.2) (okp : okW p) {x1 : Int32} {x2 : Int32} {I : dI} {J : dJ} {R : (Int64 × dI × dJ)} (h : m_31 W p x1 x2 I J = some R) : Ex Q (D + 1) 31 I J [.ref p, .int x1, .int x2] (some (.long R.1)) R.2.1 R.2.2 := by
  exact Ex.of (by decide) (by rw [L_31]; exact Nat.le_of_ble_eq_true rfl) (show xm_sub [(0, .ref p), (1, .int x1), (2, .int x2)] [(0, .ref p), (1, .int x1), (2, .int x2)] from xm_sub_of [0, 1, 2] [0, 1, 2] rfl rfl (by decide)) (p_31_0 hD hW okp _ _ _ _ _ h)
-- ConditionDesk$Worker.work(II)J
theorem L_15 : tb_mL 15 = 4 := by decide +kernel
theorem R_15 : tb_mr 15 = some .long := by decide +kernel
theorem dk_15_0 : decode (tb_mb 15) 0 = .ok (.aload_n 0, 1) := by decide +kernel
theorem dk_15_1 : decode (tb_mb 15) 1 = .ok (.getfield 33, 3) := by decide +kernel
theorem f_15_1 : ∃ b, tb_fr (tb_oc 15) 33 = some (7, 6, b) := ⟨_, rfl⟩
theorem dk_15_4 : decode (tb_mb 15) 4 = .ok (.ifCond .ne (20), 3) := by decide +kernel
theorem dk_15_24 : decode (tb_mb 15) 24 = .ok (.lconst 0, 1) := by decide +kernel
theorem dk_15_25 : decode (tb_mb 15) 25 = .ok (.lreturn, 1) := by decide +kernel
theorem dk_15_7 : decode (tb_mb 15) 7 = .ok (.iload_n 2, 1) := by decide +kernel
theorem dk_15_8 : decode (tb_mb 15) 8 = .ok (.bipush (40), 2) := by decide +kernel
theorem dk_15_10 : decode (tb_mb 15) 10 = .ok (.if_icmp .gt (14), 3) := by decide +kernel
theorem dk_15_13 : decode (tb_mb 15) 13 = .ok (.aload_n 0, 1) := by decide +kernel
theorem dk_15_14 : decode (tb_mb 15) 14 = .ok (.getfield 12, 3) := by decide +kernel
theorem f_15_14 : ∃ b, tb_fr (tb_oc 15) 12 = some (7, 1, b) := ⟨_, rfl⟩
theorem dk_15_17 : decode (tb_mb 15) 17 = .ok (.iload_n 1, 1) := by decide +kernel
theorem dk_15_18 : decode (tb_mb 15) 18 = .ok (.invokevirtual 67, 3) := by decide +kernel
theorem ck_15_18 : ∃ b, tb_cr (tb_oc 15) 67 = some (0, 16, b, 1) := ⟨_, rfl⟩
theorem dk_15_21 : decode (tb_mb 15) 21 = .ok (.ifCond .ne (5), 3) := by decide +kernel
theorem dk_15_26 : decode (tb_mb 15) 26 = .ok (.aload_n 0, 1) := by decide +kernel
theorem dk_15_27 : decode (tb_mb 15) 27 = .ok (.dup, 1) := by decide +kernel
theorem dk_15_28 : decode (tb_mb 15) 28 = .ok (.getfield 29, 3) := by decide +kernel
theorem f_15_28 : ∃ b, tb_fr (tb_oc 15) 29 = some (7, 5, b) := ⟨_, rfl⟩
theorem dk_15_31 : decode (tb_mb 15) 31 = .ok (.iconst (1), 1) := by decide +kernel
theorem dk_15_32 : decode (tb_mb 15) 32 = .ok (.iadd, 1) := by decide +kernel
theorem dk_15_33 : decode (tb_mb 15) 33 = .ok (.putfield 29, 3) := by decide +kernel
theorem f_15_33 : ∃ b, tb_fr (tb_oc 15) 29 = some (7, 5, b) ∧ xm_fin tb_cl (tb_ini 15) b 7 5 = true := ⟨_, rfl, rfl⟩
theorem dk_15_36 : decode (tb_mb 15) 36 = .ok (.aload_n 0, 1) := by decide +kernel
theorem dk_15_37 : decode (tb_mb 15) 37 = .ok (.getfield 12, 3) := by decide +kernel
theorem f_15_37 : ∃ b, tb_fr (tb_oc 15) 12 = some (7, 1, b) := ⟨_, rfl⟩
theorem dk_15_40 : decode (tb_mb 15) 40 = .ok (.iload_n 1, 1) := by decide +kernel
theorem dk_15_41 : decode (tb_mb 15) 41 = .ok (.invokevirtual 54, 3) := by decide +kernel
theorem ck_15_41 : ∃ b, tb_cr (tb_oc 15) 54 = some (0, 17, b, 1) := ⟨_, rfl⟩
theorem dk_15_44 : decode (tb_mb 15) 44 = .ok (.istore_n 3, 1) := by decide +kernel
theorem dk_15_45 : decode (tb_mb 15) 45 = .ok (.iload_n 3, 1) := by decide +kernel
theorem dk_15_46 : decode (tb_mb 15) 46 = .ok (.tableswitch (266) 3 35 #[146, 155, 172, 218, 218, 180, 211, 266, 266, 266, 266, 239, 239, 259, 259, 266, 266, 266, 266, 266, 266, 266, 266, 266, 266, 266, 266, 266, 266, 266, 266, 218, 239], 146) := by decide +kernel
theorem dk_15_192 : decode (tb_mb 15) 192 = .ok (.aload_n 0, 1) := by decide +kernel
theorem dk_15_193 : decode (tb_mb 15) 193 = .ok (.getfield 12, 3) := by decide +kernel
theorem f_15_193 : ∃ b, tb_fr (tb_oc 15) 12 = some (7, 1, b) := ⟨_, rfl⟩
theorem dk_15_196 : decode (tb_mb 15) 196 = .ok (.iload_n 1, 1) := by decide +kernel
theorem dk_15_197 : decode (tb_mb 15) 197 = .ok (.invokevirtual 71, 3) := by decide +kernel
theorem ck_15_197 : ∃ b, tb_cr (tb_oc 15) 71 = some (0, 18, b, 1) := ⟨_, rfl⟩
theorem dk_15_200 : decode (tb_mb 15) 200 = .ok (.lreturn, 1) := by decide +kernel
theorem dk_15_201 : decode (tb_mb 15) 201 = .ok (.aload_n 0, 1) := by decide +kernel
theorem dk_15_202 : decode (tb_mb 15) 202 = .ok (.getfield 36, 3) := by decide +kernel
theorem f_15_202 : ∃ b, tb_fr (tb_oc 15) 36 = some (7, 0, b) := ⟨_, rfl⟩
theorem dk_15_205 : decode (tb_mb 15) 205 = .ok (.aload_n 0, 1) := by decide +kernel
theorem dk_15_206 : decode (tb_mb 15) 206 = .ok (.getfield 12, 3) := by decide +kernel
theorem f_15_206 : ∃ b, tb_fr (tb_oc 15) 12 = some (7, 1, b) := ⟨_, rfl⟩
theorem dk_15_209 : decode (tb_mb 15) 209 = .ok (.iload_n 1, 1) := by decide +kernel
theorem dk_15_210 : decode (tb_mb 15) 210 = .ok (.invokevirtual 71, 3) := by decide +kernel
theorem ck_15_210 : ∃ b, tb_cr (tb_oc 15) 71 = some (0, 18, b, 1) := ⟨_, rfl⟩
theorem dk_15_213 : decode (tb_mb 15) 213 = .ok (.invokevirtual 75, 3) := by decide +kernel
theorem ck_15_213 : ∃ b, tb_cr (tb_oc 15) 75 = some (0, 19, b, 1) := ⟨_, rfl⟩
theorem dk_15_216 : decode (tb_mb 15) 216 = .ok (.i2l, 1) := by decide +kernel
theorem dk_15_217 : decode (tb_mb 15) 217 = .ok (.lreturn, 1) := by decide +kernel
theorem dk_15_218 : decode (tb_mb 15) 218 = .ok (.aload_n 0, 1) := by decide +kernel
theorem dk_15_219 : decode (tb_mb 15) 219 = .ok (.getfield 36, 3) := by decide +kernel
theorem f_15_219 : ∃ b, tb_fr (tb_oc 15) 36 = some (7, 0, b) := ⟨_, rfl⟩
theorem dk_15_222 : decode (tb_mb 15) 222 = .ok (.getfield 81, 3) := by decide +kernel
theorem f_15_222 : ∃ b, tb_fr (tb_oc 15) 81 = some (2, 2, b) := ⟨_, rfl⟩
theorem dk_15_225 : decode (tb_mb 15) 225 = .ok (.lreturn, 1) := by decide +kernel
theorem dk_15_264 : decode (tb_mb 15) 264 = .ok (.aload_n 0, 1) := by decide +kernel
theorem dk_15_265 : decode (tb_mb 15) 265 = .ok (.iload_n 3, 1) := by decide +kernel
theorem dk_15_266 : decode (tb_mb 15) 266 = .ok (.aload_n 0, 1) := by decide +kernel
theorem dk_15_267 : decode (tb_mb 15) 267 = .ok (.aload_n 0, 1) := by decide +kernel
theorem dk_15_268 : decode (tb_mb 15) 268 = .ok (.getfield 12, 3) := by decide +kernel
theorem f_15_268 : ∃ b, tb_fr (tb_oc 15) 12 = some (7, 1, b) := ⟨_, rfl⟩
theorem dk_15_271 : decode (tb_mb 15) 271 = .ok (.iload_n 1, 1) := by decide +kernel
theorem dk_15_272 : decode (tb_mb 15) 272 = .ok (.invokevirtual 58, 3) := by decide +kernel
theorem ck_15_272 : ∃ b, tb_cr (tb_oc 15) 58 = some (0, 21, b, 1) := ⟨_, rfl⟩
theorem dk_15_275 : decode (tb_mb 15) 275 = .ok (.iload_n 2, 1) := by decide +kernel
theorem dk_15_276 : decode (tb_mb 15) 276 = .ok (.iconst (1), 1) := by decide +kernel
theorem dk_15_277 : decode (tb_mb 15) 277 = .ok (.iadd, 1) := by decide +kernel
theorem dk_15_278 : decode (tb_mb 15) 278 = .ok (.invokevirtual 47, 3) := by decide +kernel
theorem ck_15_278 : ∃ b, tb_cr (tb_oc 15) 47 = some (0, 15, b, 2) := ⟨_, rfl⟩
theorem dk_15_281 : decode (tb_mb 15) 281 = .ok (.invokevirtual 91, 3) := by decide +kernel
theorem ck_15_281 : ∃ b, tb_cr (tb_oc 15) 91 = some (0, 24, b, 2) := ⟨_, rfl⟩
theorem dk_15_284 : decode (tb_mb 15) 284 = .ok (.lreturn, 1) := by decide +kernel
theorem dk_15_226 : decode (tb_mb 15) 226 = .ok (.aload_n 0, 1) := by decide +kernel
theorem dk_15_227 : decode (tb_mb 15) 227 = .ok (.getfield 25, 3) := by decide +kernel
theorem f_15_227 : ∃ b, tb_fr (tb_oc 15) 25 = some (7, 4, b) := ⟨_, rfl⟩
theorem dk_15_230 : decode (tb_mb 15) 230 = .ok (.ifCond .eq (11), 3) := by decide +kernel
theorem dk_15_241 : decode (tb_mb 15) 241 = .ok (.aload_n 0, 1) := by decide +kernel
theorem dk_15_242 : decode (tb_mb 15) 242 = .ok (.aload_n 0, 1) := by decide +kernel
theorem dk_15_243 : decode (tb_mb 15) 243 = .ok (.getfield 12, 3) := by decide +kernel
theorem f_15_243 : ∃ b, tb_fr (tb_oc 15) 12 = some (7, 1, b) := ⟨_, rfl⟩
theorem dk_15_246 : decode (tb_mb 15) 246 = .ok (.iload_n 1, 1) := by decide +kernel
theorem dk_15_247 : decode (tb_mb 15) 247 = .ok (.invokevirtual 58, 3) := by decide +kernel
theorem ck_15_247 : ∃ b, tb_cr (tb_oc 15) 58 = some (0, 21, b, 1) := ⟨_, rfl⟩
theorem dk_15_250 : decode (tb_mb 15) 250 = .ok (.iload_n 2, 1) := by decide +kernel
theorem dk_15_251 : decode (tb_mb 15) 251 = .ok (.iconst (1), 1) := by decide +kernel
theorem dk_15_252 : decode (tb_mb 15) 252 = .ok (.iadd, 1) := by decide +kernel
theorem dk_15_253 : decode (tb_mb 15) 253 = .ok (.invokevirtual 47, 3) := by decide +kernel
theorem ck_15_253 : ∃ b, tb_cr (tb_oc 15) 47 = some (0, 15, b, 2) := ⟨_, rfl⟩
theorem dk_15_256 : decode (tb_mb 15) 256 = .ok (.lreturn, 1) := by decide +kernel
theorem dk_15_233 : decode (tb_mb 15) 233 = .ok (.aload_n 0, 1) := by decide +kernel
theorem dk_15_234 : decode (tb_mb 15) 234 = .ok (.iload_n 1, 1) := by decide +kernel
theorem dk_15_235 : decode (tb_mb 15) 235 = .ok (.invokevirtual 85, 3) := by decide +kernel
theorem ck_15_235 : ∃ b, tb_cr (tb_oc 15) 85 = some (0, 20, b, 1) := ⟨_, rfl⟩
theorem dk_15_238 : decode (tb_mb 15) 238 = .ok (.goto (18), 3) := by decide +kernel
theorem dk_15_257 : decode (tb_mb 15) 257 = .ok (.aload_n 0, 1) := by decide +kernel
theorem dk_15_258 : decode (tb_mb 15) 258 = .ok (.iload_n 1, 1) := by decide +kernel
theorem dk_15_259 : decode (tb_mb 15) 259 = .ok (.iload_n 2, 1) := by decide +kernel
theorem dk_15_260 : decode (tb_mb 15) 260 = .ok (.invokevirtual 88, 3) := by decide +kernel
theorem ck_15_260 : ∃ b, tb_cr (tb_oc 15) 88 = some (0, 22, b, 2) := ⟨_, rfl⟩
theorem dk_15_263 : decode (tb_mb 15) 263 = .ok (.lreturn, 1) := by decide +kernel
theorem dk_15_285 : decode (tb_mb 15) 285 = .ok (.iload_n 3, 1) := by decide +kernel
theorem dk_15_286 : decode (tb_mb 15) 286 = .ok (.aload_n 0, 1) := by decide +kernel
theorem dk_15_287 : decode (tb_mb 15) 287 = .ok (.aload_n 0, 1) := by decide +kernel
theorem dk_15_288 : decode (tb_mb 15) 288 = .ok (.getfield 12, 3) := by decide +kernel
theorem f_15_288 : ∃ b, tb_fr (tb_oc 15) 12 = some (7, 1, b) := ⟨_, rfl⟩
theorem dk_15_291 : decode (tb_mb 15) 291 = .ok (.iload_n 1, 1) := by decide +kernel
theorem dk_15_292 : decode (tb_mb 15) 292 = .ok (.invokevirtual 58, 3) := by decide +kernel
theorem ck_15_292 : ∃ b, tb_cr (tb_oc 15) 58 = some (0, 21, b, 1) := ⟨_, rfl⟩
theorem dk_15_295 : decode (tb_mb 15) 295 = .ok (.iload_n 2, 1) := by decide +kernel
theorem dk_15_296 : decode (tb_mb 15) 296 = .ok (.iconst (1), 1) := by decide +kernel
theorem dk_15_297 : decode (tb_mb 15) 297 = .ok (.iadd, 1) := by decide +kernel
theorem dk_15_298 : decode (tb_mb 15) 298 = .ok (.invokevirtual 47, 3) := by decide +kernel
theorem ck_15_298 : ∃ b, tb_cr (tb_oc 15) 47 = some (0, 15, b, 2) := ⟨_, rfl⟩
theorem dk_15_301 : decode (tb_mb 15) 301 = .ok (.invokestatic 95, 3) := by decide +kernel
theorem ck_15_301 : ∃ b, tb_cr (tb_oc 15) 95 = some (1, 28, b, 2) := ⟨_, rfl⟩
theorem dk_15_304 : decode (tb_mb 15) 304 = .ok (.lreturn, 1) := by decide +kernel
theorem dk_15_305 : decode (tb_mb 15) 305 = .ok (.aload_n 0, 1) := by decide +kernel
theorem dk_15_306 : decode (tb_mb 15) 306 = .ok (.iload_n 1, 1) := by decide +kernel
theorem dk_15_307 : decode (tb_mb 15) 307 = .ok (.iload_n 2, 1) := by decide +kernel
theorem dk_15_308 : decode (tb_mb 15) 308 = .ok (.invokevirtual 98, 3) := by decide +kernel
theorem ck_15_308 : ∃ b, tb_cr (tb_oc 15) 98 = some (0, 29, b, 2) := ⟨_, rfl⟩
theorem dk_15_311 : decode (tb_mb 15) 311 = .ok (.lreturn, 1) := by decide +kernel
theorem dk_15_312 : decode (tb_mb 15) 312 = .ok (.aload_n 0, 1) := by decide +kernel
theorem dk_15_313 : decode (tb_mb 15) 313 = .ok (.iload_n 1, 1) := by decide +kernel
theorem dk_15_314 : decode (tb_mb 15) 314 = .ok (.iload_n 2, 1) := by decide +kernel
theorem dk_15_315 : decode (tb_mb 15) 315 = .ok (.invokevirtual 101, 3) := by decide +kernel
theorem ck_15_315 : ∃ b, tb_cr (tb_oc 15) 101 = some (0, 31, b, 2) := ⟨_, rfl⟩
theorem dk_15_318 : decode (tb_mb 15) 318 = .ok (.lreturn, 1) := by decide +kernel
def b_15_264 (W : Int32 → Int32 → dI → dJ → Option (Int64 × dI × dJ)) (p : Nat) (x1 : Int32) (x2 : Int32) (x3 : Int32) (I : dI) (J : dJ) : Option (Int64 × dI × dJ) := (m_21 (p + 1) x1 I J).bind (fun r19 => (W r19 (x2 + 1) I J).bind (fun r21 => (m_24 p x3 r21.1 r21.2.1 r21.2.2).bind (fun r23 => some (r23.1, r23.2.1, r23.2.2))))
theorem p_15_264 {Q : Nat → Option Nat} {D0 : Nat} {p : Nat} (hD : 4 ≤ D0) {W : Int32 → Int32 → dI → dJ → Option (Int64 × dI × dJ)} (hW : ∀ (a b : Int32) (I : dI) (J : dJ) (R : Int64 × dI × dJ), W a b I J = some R → Ex Q D0 15 I J [.ref p, .int a, .int b] (some (.long R.1)) R.2.1 R.2.2) (okp : okW p) (x1 : Int32) (x2 : Int32) (x3 : Int32) (I : dI) (J : dJ) (R : (Int64 × dI × dJ)) (h : b_15_264 W p x1 x2 x3 I J = some R) : Rn Q (D0 + 1) 15 264 [(0, .ref p), (1, .int x1), (2, .int x2), (3, .int x3)] [] I J (some (.long R.1)) R.2.1 R.2.2 := by
  replace h : ((m_21 (p + 1) x1 I J).bind (fun r19 => (W r19 (x2 + 1) I J).bind (fun r21 => (m_24 p x3 r21.1 r21.2.1 r21.2.2).bind (fun r23 => some (r23.1, r23.2.1, r23.2.2))))) = some R := h
  refine Rn.pu (st' := [.ref p]) dk_15_264 L_15 rfl ?_
  refine Rn.pu (st' := [.int x3, .ref p]) dk_15_265 L_15 rfl ?_
  refine Rn.pu (st' := [.ref p, .int x3, .ref p]) dk_15_266 L_15 rfl ?_
  refine Rn.pu (st' := [.ref p, .ref p, .int x3, .ref p]) dk_15_267 L_15 rfl ?_
  refine Rn.gR (r := (p + 1)) dk_15_268 f_15_268.choose_spec okp.1 rfl ?_
  refine Rn.pu (st' := [.int x1, .ref (p + 1), .ref p, .int x3, .ref p]) dk_15_271 L_15 rfl ?_
  obtain ⟨r19, e20, h⟩ := bindS h
  refine Rn.cvI (p := (p + 1)) (As := [.int x1]) (rest := [.ref p, .int x3, .ref p]) dk_15_272 ck_15_272.choose_spec rfl okp.2.1.1 rfl (x_21 (Nat.le_succ_of_le (Nat.le_trans (Nat.le_of_ble_eq_true rfl) hD)) okp.2.1 e20) ?_
  refine Rn.pu (st' := [.int x2, .int r19, .ref p, .int x3, .ref p]) dk_15_275 L_15 rfl ?_
  refine Rn.ic dk_15_276 cic_1 ?_
  refine Rn.pu (st' := [.int (x2 + 1), .int r19, .ref p, .int x3, .ref p]) dk_15_277 L_15 rfl ?_
  obtain ⟨r21, e22, h⟩ := bindS h
  refine Rn.cvJ (p := p) (As := [.int r19, .int (x2 + 1)]) (rest := [.int x3, .ref p]) dk_15_278 ck_15_278.choose_spec rfl okp.1 rfl ((hW _ _ _ _ _ e22).up (Nat.le_succ _)) ?_
  obtain ⟨r23, e24, h⟩ := bindS h
  refine Rn.cvJ (p := p) (As := [.int x3, .long r21.1]) (rest := []) dk_15_281 ck_15_281.choose_spec rfl okp.1 rfl (x_24 (Nat.le_succ_of_le (Nat.le_trans (Nat.le_of_ble_eq_true rfl) hD)) okp e24) ?_
  cases h
  exact Rn.rl dk_15_284 R_15
def b_15_285 (W : Int32 → Int32 → dI → dJ → Option (Int64 × dI × dJ)) (p : Nat) (x1 : Int32) (x2 : Int32) (x3 : Int32) (I : dI) (J : dJ) : Option (Int64 × dI × dJ) := (m_21 (p + 1) x1 I J).bind (fun r38 => (W r38 (x2 + 1) I J).bind (fun r40 => (m_28 x3 r40.1 r40.2.1 r40.2.2).bind (fun r42 => some (r42, r40.2.1, r40.2.2))))
theorem p_15_285 {Q : Nat → Option Nat} {D0 : Nat} {p : Nat} (hD : 4 ≤ D0) {W : Int32 → Int32 → dI → dJ → Option (Int64 × dI × dJ)} (hW : ∀ (a b : Int32) (I : dI) (J : dJ) (R : Int64 × dI × dJ), W a b I J = some R → Ex Q D0 15 I J [.ref p, .int a, .int b] (some (.long R.1)) R.2.1 R.2.2) (okp : okW p) (x1 : Int32) (x2 : Int32) (x3 : Int32) (I : dI) (J : dJ) (R : (Int64 × dI × dJ)) (h : b_15_285 W p x1 x2 x3 I J = some R) : Rn Q (D0 + 1) 15 285 [(0, .ref p), (1, .int x1), (2, .int x2), (3, .int x3)] [] I J (some (.long R.1)) R.2.1 R.2.2 := by
  replace h : ((m_21 (p + 1) x1 I J).bind (fun r38 => (W r38 (x2 + 1) I J).bind (fun r40 => (m_28 x3 r40.1 r40.2.1 r40.2.2).bind (fun r42 => some (r42, r40.2.1, r40.2.2))))) = some R := h
  refine Rn.pu (st' := [.int x3]) dk_15_285 L_15 rfl ?_
  refine Rn.pu (st' := [.ref p, .int x3]) dk_15_286 L_15 rfl ?_
  refine Rn.pu (st' := [.ref p, .ref p, .int x3]) dk_15_287 L_15 rfl ?_
  refine Rn.gR (r := (p + 1)) dk_15_288 f_15_288.choose_spec okp.1 rfl ?_
  refine Rn.pu (st' := [.int x1, .ref (p + 1), .ref p, .int x3]) dk_15_291 L_15 rfl ?_
  obtain ⟨r38, e39, h⟩ := bindS h
  refine Rn.cvI (p := (p + 1)) (As := [.int x1]) (rest := [.ref p, .int x3]) dk_15_292 ck_15_292.choose_spec rfl okp.2.1.1 rfl (x_21 (Nat.le_succ_of_le (Nat.le_trans (Nat.le_of_ble_eq_true rfl) hD)) okp.2.1 e39) ?_
  refine Rn.pu (st' := [.int x2, .int r38, .ref p, .int x3]) dk_15_295 L_15 rfl ?_
  refine Rn.ic dk_15_296 cic_1 ?_
  refine Rn.pu (st' := [.int (x2 + 1), .int r38, .ref p, .int x3]) dk_15_297 L_15 rfl ?_
  obtain ⟨r40, e41, h⟩ := bindS h
  refine Rn.cvJ (p := p) (As := [.int r38, .int (x2 + 1)]) (rest := [.int x3]) dk_15_298 ck_15_298.choose_spec rfl okp.1 rfl ((hW _ _ _ _ _ e41).up (Nat.le_succ _)) ?_
  obtain ⟨r42, e43, h⟩ := bindS h
  refine Rn.csJ (As := [.int x3, .long r40.1]) (rest := []) dk_15_301 ck_15_301.choose_spec rfl (x_28 (Nat.le_succ_of_le (Nat.le_trans (Nat.le_of_ble_eq_true rfl) hD)) e43) ?_
  cases h
  exact Rn.rl dk_15_304 R_15
def b_15_305 (W : Int32 → Int32 → dI → dJ → Option (Int64 × dI × dJ)) (p : Nat) (x1 : Int32) (x2 : Int32) (I : dI) (J : dJ) : Option (Int64 × dI × dJ) := (m_29 W p x1 x2 I J).bind (fun r46 => some (r46.1, r46.2.1, r46.2.2))
theorem p_15_305 {Q : Nat → Option Nat} {D0 : Nat} {p : Nat} (hD : 4 ≤ D0) {W : Int32 → Int32 → dI → dJ → Option (Int64 × dI × dJ)} (hW : ∀ (a b : Int32) (I : dI) (J : dJ) (R : Int64 × dI × dJ), W a b I J = some R → Ex Q D0 15 I J [.ref p, .int a, .int b] (some (.long R.1)) R.2.1 R.2.2) (okp : okW p) (x1 : Int32) (x2 : Int32) (I : dI) (J : dJ) (R : (Int64 × dI × dJ)) (h : b_15_305 W p x1 x2 I J = some R) : Rn Q (D0 + 1) 15 305 [(0, .ref p), (1, .int x1), (2, .int x2)] [] I J (some (.long R.1)) R.2.1 R.2.2 := by
  replace h : ((m_29 W p x1 x2 I J).bind (fun r46 => some (r46.1, r46.2.1, r46.2.2))) = some R := h
  refine Rn.pu (st' := [.ref p]) dk_15_305 L_15 rfl ?_
  refine Rn.pu (st' := [.int x1, .ref p]) dk_15_306 L_15 rfl ?_
  refine Rn.pu (st' := [.int x2, .int x1, .ref p]) dk_15_307 L_15 rfl ?_
  obtain ⟨r46, e47, h⟩ := bindS h
  refine Rn.cvJ (p := p) (As := [.int x1, .int x2]) (rest := []) dk_15_308 ck_15_308.choose_spec rfl okp.1 rfl (x_29 (Nat.le_trans (Nat.le_of_ble_eq_true rfl) hD) hW okp e47) ?_
  cases h
  exact Rn.rl dk_15_311 R_15
def b_15_0 (W : Int32 → Int32 → dI → dJ → Option (Int64 × dI × dJ)) (p : Nat) (x1 : Int32) (x2 : Int32) (I : dI) (J : dJ) : Option (Int64 × dI × dJ) := if ¬ (I p 6) = 0 then (some (0, I, J)) else (if 40 < x2 then (some (0, I, J)) else ((m_16 (p + 1) x1 I J).bind (fun r3 => if ¬ r3 = 0 then (lt_ (sI I p 5 ((I p 5) + 1)) (fun I6 => (m_17 (p + 1) x1 I6 J).bind (fun r7 => if r7 = 3 then ((m_18 (p + 1) x1 I6 J).bind (fun r10 => some (r10, I6, J))) else if r7 = 4 then ((m_18 (p + 1) x1 I6 J).bind (fun r13 => (m_19 r13 I6 J).bind (fun r15 => some ((Int32.toInt64 r15), I6, J)))) else if r7 = 5 then (some ((J 3 2), I6, J)) else if r7 = 6 then (b_15_264 W p x1 x2 r7 I6 J) else if r7 = 7 then (b_15_264 W p x1 x2 r7 I6 J) else if r7 = 8 then (if (I6 p 4) = 0 then ((m_21 (p + 1) x1 I6 J).bind (fun r22 => (W r22 (x2 + 1) I6 J).bind (fun r24 => some (r24.1, r24.2.1, r24.2.2)))) else ((m_20 p x1 I6 J).bind (fun r26 => some (r26, I6, J)))) else if r7 = 9 then ((m_22 W p x1 x2 I6 J).bind (fun r29 => some (r29.1, r29.2.1, r29.2.2))) else if r7 = 14 then (b_15_285 W p x1 x2 r7 I6 J) else if r7 = 15 then (b_15_285 W p x1 x2 r7 I6 J) else if r7 = 16 then (b_15_305 W p x1 x2 I6 J) else if r7 = 17 then (b_15_305 W p x1 x2 I6 J) else if r7 = 34 then (b_15_264 W p x1 x2 r7 I6 J) else if r7 = 35 then (b_15_285 W p x1 x2 r7 I6 J) else ((m_31 W p x1 x2 I6 J).bind (fun r37 => some (r37.1, r37.2.1, r37.2.2)))))) else (some (0, I, J)))))
theorem p_15_0 {Q : Nat → Option Nat} {D0 : Nat} {p : Nat} (hD : 4 ≤ D0) {W : Int32 → Int32 → dI → dJ → Option (Int64 × dI × dJ)} (hW : ∀ (a b : Int32) (I : dI) (J : dJ) (R : Int64 × dI × dJ), W a b I J = some R → Ex Q D0 15 I J [.ref p, .int a, .int b] (some (.long R.1)) R.2.1 R.2.2) (okp : okW p) (x1 : Int32) (x2 : Int32) (I : dI) (J : dJ) (R : (Int64 × dI × dJ)) (h : b_15_0 W p x1 x2 I J = some R) : Rn Q (D0 + 1) 15 0 [(0, .ref p), (1, .int x1), (2, .int x2)] [] I J (some (.long R.1)) R.2.1 R.2.2 := by
  replace h : (if ¬ (I p 6) = 0 then (some (0, I, J)) else (if 40 < x2 then (some (0, I, J)) else ((m_16 (p + 1) x1 I J).bind (fun r3 => if ¬ r3 = 0 then (lt_ (sI I p 5 ((I p 5) + 1)) (fun I6 => (m_17 (p + 1) x1 I6 J).bind (fun r7 => if r7 = 3 then ((m_18 (p + 1) x1 I6 J).bind (fun r10 => some (r10, I6, J))) else if r7 = 4 then ((m_18 (p + 1) x1 I6 J).bind (fun r13 => (m_19 r13 I6 J).bind (fun r15 => some ((Int32.toInt64 r15), I6, J)))) else if r7 = 5 then (some ((J 3 2), I6, J)) else if r7 = 6 then (b_15_264 W p x1 x2 r7 I6 J) else if r7 = 7 then (b_15_264 W p x1 x2 r7 I6 J) else if r7 = 8 then (if (I6 p 4) = 0 then ((m_21 (p + 1) x1 I6 J).bind (fun r22 => (W r22 (x2 + 1) I6 J).bind (fun r24 => some (r24.1, r24.2.1, r24.2.2)))) else ((m_20 p x1 I6 J).bind (fun r26 => some (r26, I6, J)))) else if r7 = 9 then ((m_22 W p x1 x2 I6 J).bind (fun r29 => some (r29.1, r29.2.1, r29.2.2))) else if r7 = 14 then (b_15_285 W p x1 x2 r7 I6 J) else if r7 = 15 then (b_15_285 W p x1 x2 r7 I6 J) else if r7 = 16 then (b_15_305 W p x1 x2 I6 J) else if r7 = 17 then (b_15_305 W p x1 x2 I6 J) else if r7 = 34 then (b_15_264 W p x1 x2 r7 I6 J) else if r7 = 35 then (b_15_285 W p x1 x2 r7 I6 J) else ((m_31 W p x1 x2 I6 J).bind (fun r37 => some (r37.1, r37.2.1, r37.2.2)))))) else (some (0, I, J)))))) = some R := h
  refine Rn.pu (st' := [.ref p]) dk_15_0 L_15 rfl ?_
  refine Rn.gI dk_15_1 f_15_1.choose_spec okp.1 rfl ?_
  by_cases c1 : ¬ (I p 6) = 0
  · rw [if_pos c1] at h
    refine Rn.i1t (t := 24) dk_15_4 rfl (decide_eq_true c1) ?_
    refine Rn.lc dk_15_24 clc_0 ?_
    cases h
    exact Rn.rl dk_15_25 R_15
  · rw [if_neg c1] at h
    refine Rn.i1f (t := 24) dk_15_4 rfl (decide_eq_false c1) ?_
    refine Rn.pu (st' := [.int x2]) dk_15_7 L_15 rfl ?_
    refine Rn.bp dk_15_8 cbp_40 ?_
    by_cases c2 : 40 < x2
    · rw [if_pos c2] at h
      refine Rn.i2t (t := 24) dk_15_10 rfl (decide_eq_true c2) ?_
      refine Rn.lc dk_15_24 clc_0 ?_
      cases h
      exact Rn.rl dk_15_25 R_15
    · rw [if_neg c2] at h
      refine Rn.i2f (t := 24) dk_15_10 rfl (decide_eq_false c2) ?_
      refine Rn.pu (st' := [.ref p]) dk_15_13 L_15 rfl ?_
      refine Rn.gR (r := (p + 1)) dk_15_14 f_15_14.choose_spec okp.1 rfl ?_
      refine Rn.pu (st' := [.int x1, .ref (p + 1)]) dk_15_17 L_15 rfl ?_
      obtain ⟨r3, e4, h⟩ := bindS h
      refine Rn.cvI (p := (p + 1)) (As := [.int x1]) (rest := []) dk_15_18 ck_15_18.choose_spec rfl okp.2.1.1 rfl (x_16 (Nat.le_succ_of_le (Nat.le_trans (Nat.le_of_ble_eq_true rfl) hD)) okp.2.1 e4) ?_
      by_cases c5 : ¬ r3 = 0
      · rw [if_pos c5] at h
        refine Rn.i1t (t := 26) dk_15_21 rfl (decide_eq_true c5) ?_
        refine Rn.pu (st' := [.ref p]) dk_15_26 L_15 rfl ?_
        refine Rn.pu (st' := [.ref p, .ref p]) dk_15_27 L_15 rfl ?_
        refine Rn.gI dk_15_28 f_15_28.choose_spec okp.1 rfl ?_
        refine Rn.ic dk_15_31 cic_1 ?_
        refine Rn.pu (st' := [.int ((I p 5) + 1), .ref p]) dk_15_32 L_15 rfl ?_
        obtain ⟨I6, eI6, h⟩ := letS h
        refine Rn.pI dk_15_33 f_15_33.choose_spec.1 okp.1 rfl f_15_33.choose_spec.2 rfl rfl ?_
        rw [← eI6]
        refine Rn.pu (st' := [.ref p]) dk_15_36 L_15 rfl ?_
        refine Rn.gR (r := (p + 1)) dk_15_37 f_15_37.choose_spec okp.1 rfl ?_
        refine Rn.pu (st' := [.int x1, .ref (p + 1)]) dk_15_40 L_15 rfl ?_
        obtain ⟨r7, e8, h⟩ := bindS h
        refine Rn.cvI (p := (p + 1)) (As := [.int x1]) (rest := []) dk_15_41 ck_15_41.choose_spec rfl okp.2.1.1 rfl (x_17 (Nat.le_succ_of_le (Nat.le_trans (Nat.le_of_ble_eq_true rfl) hD)) okp.2.1 e8) ?_
        refine Rn.pu (ls' := [(3, .int r7), (0, .ref p), (1, .int x1), (2, .int x2)]) (st' := []) dk_15_44 L_15 rfl ?_
        refine Rn.pu (st' := [.int r7]) dk_15_45 L_15 rfl ?_
        by_cases c9 : r7 = 3
        · rw [if_pos c9] at h
          refine Rn.sw (t := 192) (st' := []) dk_15_46 (fun _ _ => rfl) (by rw [c9]; rfl) ?_
          refine Rn.pu (st' := [.ref p]) dk_15_192 L_15 rfl ?_
          refine Rn.gR (r := (p + 1)) dk_15_193 f_15_193.choose_spec okp.1 rfl ?_
          refine Rn.pu (st' := [.int x1, .ref (p + 1)]) dk_15_196 L_15 rfl ?_
          obtain ⟨r10, e11, h⟩ := bindS h
          refine Rn.cvJ (p := (p + 1)) (As := [.int x1]) (rest := []) dk_15_197 ck_15_197.choose_spec rfl okp.2.1.1 rfl (x_18 (Nat.le_succ_of_le (Nat.le_trans (Nat.le_of_ble_eq_true rfl) hD)) okp.2.1 e11) ?_
          cases h
          exact Rn.rl dk_15_200 R_15
        · rw [if_neg c9] at h
          by_cases c12 : r7 = 4
          · rw [if_pos c12] at h
            refine Rn.sw (t := 201) (st' := []) dk_15_46 (fun _ _ => rfl) (by rw [c12]; rfl) ?_
            refine Rn.pu (st' := [.ref p]) dk_15_201 L_15 rfl ?_
            refine Rn.gR (r := 3) dk_15_202 f_15_202.choose_spec okp.1 rfl ?_
            refine Rn.pu (st' := [.ref p, .ref 3]) dk_15_205 L_15 rfl ?_
            refine Rn.gR (r := (p + 1)) dk_15_206 f_15_206.choose_spec okp.1 rfl ?_
            refine Rn.pu (st' := [.int x1, .ref (p + 1), .ref 3]) dk_15_209 L_15 rfl ?_
            obtain ⟨r13, e14, h⟩ := bindS h
            refine Rn.cvJ (p := (p + 1)) (As := [.int x1]) (rest := [.ref 3]) dk_15_210 ck_15_210.choose_spec rfl okp.2.1.1 rfl (x_18 (Nat.le_succ_of_le (Nat.le_trans (Nat.le_of_ble_eq_true rfl) hD)) okp.2.1 e14) ?_
            obtain ⟨r15, e16, h⟩ := bindS h
            refine Rn.cvI (p := 3) (As := [.long r13]) (rest := []) dk_15_213 ck_15_213.choose_spec rfl sk_3 rfl (x_19 (Nat.le_succ_of_le (Nat.le_trans (Nat.le_of_ble_eq_true rfl) hD)) e16) ?_
            refine Rn.pu (st' := [.long (Int32.toInt64 r15)]) dk_15_216 L_15 rfl ?_
            cases h
            exact Rn.rl dk_15_217 R_15
          · rw [if_neg c12] at h
            by_cases c17 : r7 = 5
            · rw [if_pos c17] at h
              refine Rn.sw (t := 218) (st' := []) dk_15_46 (fun _ _ => rfl) (by rw [c17]; rfl) ?_
              refine Rn.pu (st' := [.ref p]) dk_15_218 L_15 rfl ?_
              refine Rn.gR (r := 3) dk_15_219 f_15_219.choose_spec okp.1 rfl ?_
              refine Rn.gJ dk_15_222 f_15_222.choose_spec sk_3 rfl ?_
              cases h
              exact Rn.rl dk_15_225 R_15
            · rw [if_neg c17] at h
              by_cases c18 : r7 = 6
              · rw [if_pos c18] at h
                refine Rn.sw (t := 264) (st' := []) dk_15_46 (fun _ _ => rfl) (by rw [c18]; rfl) ?_
                exact Rn.wk [1, 2, 3, 0] rfl (p_15_264 hD hW okp _ _ _ _ _ _ h)
              · rw [if_neg c18] at h
                by_cases c19 : r7 = 7
                · rw [if_pos c19] at h
                  refine Rn.sw (t := 264) (st' := []) dk_15_46 (fun _ _ => rfl) (by rw [c19]; rfl) ?_
                  exact Rn.wk [1, 2, 3, 0] rfl (p_15_264 hD hW okp _ _ _ _ _ _ h)
                · rw [if_neg c19] at h
                  by_cases c20 : r7 = 8
                  · rw [if_pos c20] at h
                    refine Rn.sw (t := 226) (st' := []) dk_15_46 (fun _ _ => rfl) (by rw [c20]; rfl) ?_
                    refine Rn.pu (st' := [.ref p]) dk_15_226 L_15 rfl ?_
                    refine Rn.gI dk_15_227 f_15_227.choose_spec okp.1 rfl ?_
                    by_cases c21 : (I6 p 4) = 0
                    · rw [if_pos c21] at h
                      refine Rn.i1t (t := 241) dk_15_230 rfl (decide_eq_true c21) ?_
                      refine Rn.pu (st' := [.ref p]) dk_15_241 L_15 rfl ?_
                      refine Rn.pu (st' := [.ref p, .ref p]) dk_15_242 L_15 rfl ?_
                      refine Rn.gR (r := (p + 1)) dk_15_243 f_15_243.choose_spec okp.1 rfl ?_
                      refine Rn.pu (st' := [.int x1, .ref (p + 1), .ref p]) dk_15_246 L_15 rfl ?_
                      obtain ⟨r22, e23, h⟩ := bindS h
                      refine Rn.cvI (p := (p + 1)) (As := [.int x1]) (rest := [.ref p]) dk_15_247 ck_15_247.choose_spec rfl okp.2.1.1 rfl (x_21 (Nat.le_succ_of_le (Nat.le_trans (Nat.le_of_ble_eq_true rfl) hD)) okp.2.1 e23) ?_
                      refine Rn.pu (st' := [.int x2, .int r22, .ref p]) dk_15_250 L_15 rfl ?_
                      refine Rn.ic dk_15_251 cic_1 ?_
                      refine Rn.pu (st' := [.int (x2 + 1), .int r22, .ref p]) dk_15_252 L_15 rfl ?_
                      obtain ⟨r24, e25, h⟩ := bindS h
                      refine Rn.cvJ (p := p) (As := [.int r22, .int (x2 + 1)]) (rest := []) dk_15_253 ck_15_253.choose_spec rfl okp.1 rfl ((hW _ _ _ _ _ e25).up (Nat.le_succ _)) ?_
                      cases h
                      exact Rn.rl dk_15_256 R_15
                    · rw [if_neg c21] at h
                      refine Rn.i1f (t := 241) dk_15_230 rfl (decide_eq_false c21) ?_
                      refine Rn.pu (st' := [.ref p]) dk_15_233 L_15 rfl ?_
                      refine Rn.pu (st' := [.int x1, .ref p]) dk_15_234 L_15 rfl ?_
                      obtain ⟨r26, e27, h⟩ := bindS h
                      refine Rn.cvJ (p := p) (As := [.int x1]) (rest := []) dk_15_235 ck_15_235.choose_spec rfl okp.1 rfl (x_20 (Nat.le_succ_of_le (Nat.le_trans (Nat.le_of_ble_eq_true rfl) hD)) okp e27) ?_
                      refine Rn.gt (t := 256) dk_15_238 rfl ?_
                      cases h
                      exact Rn.rl dk_15_256 R_15
                  · rw [if_neg c20] at h
                    by_cases c28 : r7 = 9
                    · rw [if_pos c28] at h
                      refine Rn.sw (t := 257) (st' := []) dk_15_46 (fun _ _ => rfl) (by rw [c28]; rfl) ?_
                      refine Rn.pu (st' := [.ref p]) dk_15_257 L_15 rfl ?_
                      refine Rn.pu (st' := [.int x1, .ref p]) dk_15_258 L_15 rfl ?_
                      refine Rn.pu (st' := [.int x2, .int x1, .ref p]) dk_15_259 L_15 rfl ?_
                      obtain ⟨r29, e30, h⟩ := bindS h
                      refine Rn.cvJ (p := p) (As := [.int x1, .int x2]) (rest := []) dk_15_260 ck_15_260.choose_spec rfl okp.1 rfl (x_22 (Nat.le_trans (Nat.le_of_ble_eq_true rfl) hD) hW okp e30) ?_
                      cases h
                      exact Rn.rl dk_15_263 R_15
                    · rw [if_neg c28] at h
                      by_cases c31 : r7 = 14
                      · rw [if_pos c31] at h
                        refine Rn.sw (t := 285) (st' := []) dk_15_46 (fun _ _ => rfl) (by rw [c31]; rfl) ?_
                        exact Rn.wk [1, 2, 3, 0] rfl (p_15_285 hD hW okp _ _ _ _ _ _ h)
                      · rw [if_neg c31] at h
                        by_cases c32 : r7 = 15
                        · rw [if_pos c32] at h
                          refine Rn.sw (t := 285) (st' := []) dk_15_46 (fun _ _ => rfl) (by rw [c32]; rfl) ?_
                          exact Rn.wk [1, 2, 3, 0] rfl (p_15_285 hD hW okp _ _ _ _ _ _ h)
                        · rw [if_neg c32] at h
                          by_cases c33 : r7 = 16
                          · rw [if_pos c33] at h
                            refine Rn.sw (t := 305) (st' := []) dk_15_46 (fun _ _ => rfl) (by rw [c33]; rfl) ?_
                            exact Rn.wk [1, 2, 3] rfl (p_15_305 hD hW okp _ _ _ _ _ h)
                          · rw [if_neg c33] at h
                            by_cases c34 : r7 = 17
                            · rw [if_pos c34] at h
                              refine Rn.sw (t := 305) (st' := []) dk_15_46 (fun _ _ => rfl) (by rw [c34]; rfl) ?_
                              exact Rn.wk [1, 2, 3] rfl (p_15_305 hD hW okp _ _ _ _ _ h)
                            · rw [if_neg c34] at h
                              by_cases c35 : r7 = 34
                              · rw [if_pos c35] at h
                                refine Rn.sw (t := 264) (st' := []) dk_15_46 (fun _ _ => rfl) (by rw [c35]; rfl) ?_
                                exact Rn.wk [1, 2, 3, 0] rfl (p_15_264 hD hW okp _ _ _ _ _ _ h)
                              · rw [if_neg c35] at h
                                by_cases c36 : r7 = 35
                                · rw [if_pos c36] at h
                                  refine Rn.sw (t := 285) (st' := []) dk_15_46 (fun _ _ => rfl) (by rw [c36]; rfl) ?_
                                  exact Rn.wk [1, 2, 3, 0] rfl (p_15_285 hD hW okp _ _ _ _ _ _ h)
                                · rw [if_neg c36] at h
                                  have q0 : xm_br (.tableswitch (266) 3 35 #[146, 155, 172, 218, 218, 180, 211, 266, 266, 266, 266, 239, 239, 259, 259, 266, 266, 266, 266, 266, 266, 266, 266, 266, 266, 266, 266, 266, 266, 266, 266, 218, 239]) 146 46 (.int r7 :: []) = some (true, 312, []) := by
                                    by_cases c39 : r7 = 10
                                    · rw [c39]; rfl
                                    ·
                                      by_cases c40 : r7 = 11
                                      · rw [c40]; rfl
                                      ·
                                        by_cases c41 : r7 = 12
                                        · rw [c41]; rfl
                                        ·
                                          by_cases c42 : r7 = 13
                                          · rw [c42]; rfl
                                          ·
                                            by_cases c43 : r7 = 18
                                            · rw [c43]; rfl
                                            ·
                                              by_cases c44 : r7 = 19
                                              · rw [c44]; rfl
                                              ·
                                                by_cases c45 : r7 = 20
                                                · rw [c45]; rfl
                                                ·
                                                  by_cases c46 : r7 = 21
                                                  · rw [c46]; rfl
                                                  ·
                                                    by_cases c47 : r7 = 22
                                                    · rw [c47]; rfl
                                                    ·
                                                      by_cases c48 : r7 = 23
                                                      · rw [c48]; rfl
                                                      ·
                                                        by_cases c49 : r7 = 24
                                                        · rw [c49]; rfl
                                                        ·
                                                          by_cases c50 : r7 = 25
                                                          · rw [c50]; rfl
                                                          ·
                                                            by_cases c51 : r7 = 26
                                                            · rw [c51]; rfl
                                                            ·
                                                              by_cases c52 : r7 = 27
                                                              · rw [c52]; rfl
                                                              ·
                                                                by_cases c53 : r7 = 28
                                                                · rw [c53]; rfl
                                                                ·
                                                                  by_cases c54 : r7 = 29
                                                                  · rw [c54]; rfl
                                                                  ·
                                                                    by_cases c55 : r7 = 30
                                                                    · rw [c55]; rfl
                                                                    ·
                                                                      by_cases c56 : r7 = 31
                                                                      · rw [c56]; rfl
                                                                      ·
                                                                        by_cases c57 : r7 = 32
                                                                        · rw [c57]; rfl
                                                                        ·
                                                                          by_cases c58 : r7 = 33
                                                                          · rw [c58]; rfl
                                                                          ·
                                                                            have q1 := i_ne c9 (z := 3) rfl
                                                                            have q2 := i_ne c12 (z := 4) rfl
                                                                            have q3 := i_ne c17 (z := 5) rfl
                                                                            have q4 := i_ne c18 (z := 6) rfl
                                                                            have q5 := i_ne c19 (z := 7) rfl
                                                                            have q6 := i_ne c20 (z := 8) rfl
                                                                            have q7 := i_ne c28 (z := 9) rfl
                                                                            have q8 := i_ne c31 (z := 14) rfl
                                                                            have q9 := i_ne c32 (z := 15) rfl
                                                                            have q10 := i_ne c33 (z := 16) rfl
                                                                            have q11 := i_ne c34 (z := 17) rfl
                                                                            have q12 := i_ne c35 (z := 34) rfl
                                                                            have q13 := i_ne c36 (z := 35) rfl
                                                                            have q14 := i_ne c39 (z := 10) rfl
                                                                            have q15 := i_ne c40 (z := 11) rfl
                                                                            have q16 := i_ne c41 (z := 12) rfl
                                                                            have q17 := i_ne c42 (z := 13) rfl
                                                                            have q18 := i_ne c43 (z := 18) rfl
                                                                            have q19 := i_ne c44 (z := 19) rfl
                                                                            have q20 := i_ne c45 (z := 20) rfl
                                                                            have q21 := i_ne c46 (z := 21) rfl
                                                                            have q22 := i_ne c47 (z := 22) rfl
                                                                            have q23 := i_ne c48 (z := 23) rfl
                                                                            have q24 := i_ne c49 (z := 24) rfl
                                                                            have q25 := i_ne c50 (z := 25) rfl
                                                                            have q26 := i_ne c51 (z := 26) rfl
                                                                            have q27 := i_ne c52 (z := 27) rfl
                                                                            have q28 := i_ne c53 (z := 28) rfl
                                                                            have q29 := i_ne c54 (z := 29) rfl
                                                                            have q30 := i_ne c55 (z := 30) rfl
                                                                            have q31 := i_ne c56 (z := 31) rfl
                                                                            have q32 := i_ne c57 (z := 32) rfl
                                                                            have q33 := i_ne c58 (z := 33) rfl
                                                                            exact ts_def (by omega) rfl
                                  refine Rn.sw dk_15_46 (fun _ _ => rfl) q0 ?_
                                  refine Rn.pu (st' := [.ref p]) dk_15_312 L_15 rfl ?_
                                  refine Rn.pu (st' := [.int x1, .ref p]) dk_15_313 L_15 rfl ?_
                                  refine Rn.pu (st' := [.int x2, .int x1, .ref p]) dk_15_314 L_15 rfl ?_
                                  obtain ⟨r37, e38, h⟩ := bindS h
                                  refine Rn.cvJ (p := p) (As := [.int x1, .int x2]) (rest := []) dk_15_315 ck_15_315.choose_spec rfl okp.1 rfl (x_31 (Nat.le_trans (Nat.le_of_ble_eq_true rfl) hD) hW okp e38) ?_
                                  cases h
                                  exact Rn.rl dk_15_318 R_15
      · rw [if_neg c5] at h
        refine Rn.i1f (t := 26) dk_15_21 rfl (decide_eq_false c5) ?_
        refine Rn.lc dk_15_24 clc_0 ?_
        cases h
        exact Rn.rl dk_15_25 R_15
def m_15 (W : Int32 → Int32 → dI → dJ → Option (Int64 × dI × dJ)) (p : Nat) (x1 : Int32) (x2 : Int32) (I : dI) (J : dJ) : Option (Int64 × dI × dJ) := b_15_0 W p x1 x2 I J
theorem x_15 {Q : Nat → Option Nat} {D0 : Nat} {p : Nat} (hD : 4 ≤ D0) {W : Int32 → Int32 → dI → dJ → Option (Int64 × dI × dJ)} (hW : ∀ (a b : Int32) (I : dI) (J : dJ) (R : Int64 × dI × dJ), W a b I J = some R → Ex Q D0 15 I J [.ref p, .int a, .int b] (some (.long R.1)) R.2.1 R.2.2) (okp : okW p) {x1 : Int32} {x2 : Int32} {I : dI} {J : dJ} {R : (Int64 × dI × dJ)} (h : m_15 W p x1 x2 I J = some R) : Ex Q ((D0 + 1) + 1) 15 I J [.ref p, .int x1, .int x2] (some (.long R.1)) R.2.1 R.2.2 := by
  exact Ex.of (by decide) (by rw [L_15]; exact Nat.le_of_ble_eq_true rfl) (show xm_sub [(0, .ref p), (1, .int x1), (2, .int x2)] [(0, .ref p), (1, .int x1), (2, .int x2)] from xm_sub_of [0, 1, 2] [0, 1, 2] rfl rfl (by decide)) (p_15_0 hD hW okp _ _ _ _ _ h)
/-- the work of a node, to a depth -/
def wk_ (p : Nat) : Nat → Int32 → Int32 → dI → dJ → Option (Int64 × dI × dJ)
  | 0, _, _, _, _ => none
  | n + 1, a, b, I, J => m_15 (wk_ p n) p a b I J
theorem x_wk_ {Q : Nat → Option Nat} {p : Nat} (okp : okW p) : ∀ (n : Nat) (a b : Int32) (I : dI) (J : dJ) (R : Int64 × dI × dJ), wk_ p n a b I J = some R → Ex Q (2 * n + 5) 15 I J [.ref p, .int a, .int b] (some (.long R.1)) R.2.1 R.2.2 := by
  intro n
  induction n with
  | zero => intro a b I J R h; exact absurd h (by simp [wk_])
  | succ n ih =>
    intro a b I J R h
    exact x_15 (D0 := 2 * n + 5) (by omega) ih okp h
def wkF (p : Nat) (a b : Int32) (I : dI) (J : dJ) : Option (Int64 × dI × dJ) := wk_ p 60 a b I J
theorem x_wkF {Q : Nat → Option Nat} {D p : Nat} (hD : 125 ≤ D) (okp : okW p) {a b : Int32} {I : dI} {J : dJ} {R : Int64 × dI × dJ} (h : wkF p a b I J = some R) : Ex Q D 15 I J [.ref p, .int a, .int b] (some (.long R.1)) R.2.1 R.2.2 := (x_wk_ okp 60 _ _ _ _ _ h).up hD
