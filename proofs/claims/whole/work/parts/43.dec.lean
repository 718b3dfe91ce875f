/-! Printed by wip/whole/gen_dec.py: methods read back. -/
-- ConditionDesk$Worker.remember()V
theorem L_36 : tb_mL 36 = 5 := by decide +kernel
theorem R_36 : tb_mr 36 = none := by decide +kernel
theorem dk_36_0 : decode (tb_mb 36) 0 = .ok (.iconst (0), 1) := by decide +kernel
theorem dk_36_1 : decode (tb_mb 36) 1 = .ok (.istore_n 1, 1) := by decide +kernel
theorem dk_36_2 : decode (tb_mb 36) 2 = .ok (.iload_n 1, 1) := by decide +kernel
theorem dk_36_3 : decode (tb_mb 36) 3 = .ok (.aload_n 0, 1) := by decide +kernel
theorem dk_36_4 : decode (tb_mb 36) 4 = .ok (.getfield 22, 3) := by decide +kernel
theorem f_36_4 : ∃ b, tb_fr (tb_oc 36) 22 = some (7, 3, b) := ⟨_, rfl⟩
theorem dk_36_7 : decode (tb_mb 36) 7 = .ok (.arraylength, 1) := by decide +kernel
theorem dk_36_8 : decode (tb_mb 36) 8 = .ok (.if_icmp .ge (78), 3) := by decide +kernel
theorem dk_36_86 : decode (tb_mb 36) 86 = .ok (.aload_n 0, 1) := by decide +kernel
theorem dk_36_87 : decode (tb_mb 36) 87 = .ok (.getfield 22, 3) := by decide +kernel
theorem f_36_87 : ∃ b, tb_fr (tb_oc 36) 22 = some (7, 3, b) := ⟨_, rfl⟩
theorem dk_36_90 : decode (tb_mb 36) 90 = .ok (.iconst (0), 1) := by decide +kernel
theorem dk_36_91 : decode (tb_mb 36) 91 = .ok (.aload_n 0, 1) := by decide +kernel
theorem dk_36_92 : decode (tb_mb 36) 92 = .ok (.getfield 18, 3) := by decide +kernel
theorem f_36_92 : ∃ b, tb_fr (tb_oc 36) 18 = some (7, 2, b) := ⟨_, rfl⟩
theorem dk_36_95 : decode (tb_mb 36) 95 = .ok (.iconst (0), 1) := by decide +kernel
theorem dk_36_96 : decode (tb_mb 36) 96 = .ok (.bipush (40), 2) := by decide +kernel
theorem dk_36_98 : decode (tb_mb 36) 98 = .ok (.invokestatic 61, 3) := by decide +kernel
theorem ac_36_98 : (∃ i1, tb_ac (tb_oc 36) 61 = some i1) ∧ tb_cr (tb_oc 36) 61 = none ∧ ¬ (tb_oc 36 = 6 ∧ 61 = 63) := ⟨⟨_, rfl⟩, by decide +kernel, by decide +kernel⟩
theorem dk_36_101 : decode (tb_mb 36) 101 = .ok (.aload_n 0, 1) := by decide +kernel
theorem dk_36_102 : decode (tb_mb 36) 102 = .ok (.iconst (1), 1) := by decide +kernel
theorem dk_36_103 : decode (tb_mb 36) 103 = .ok (.putfield 25, 3) := by decide +kernel
theorem f_36_103 : ∃ b, tb_fr (tb_oc 36) 25 = some (7, 4, b) ∧ xm_fin tb_cl (tb_ini 36) b 7 4 = true := ⟨_, rfl, rfl⟩
theorem dk_36_106 : decode (tb_mb 36) 106 = .ok (.return_, 1) := by decide +kernel
theorem dk_36_11 : decode (tb_mb 36) 11 = .ok (.iload_n 1, 1) := by decide +kernel
theorem dk_36_12 : decode (tb_mb 36) 12 = .ok (.aload_n 0, 1) := by decide +kernel
theorem dk_36_13 : decode (tb_mb 36) 13 = .ok (.getfield 12, 3) := by decide +kernel
theorem f_36_13 : ∃ b, tb_fr (tb_oc 36) 12 = some (7, 1, b) := ⟨_, rfl⟩
theorem dk_36_16 : decode (tb_mb 36) 16 = .ok (.getfield 44, 3) := by decide +kernel
theorem f_36_16 : ∃ b, tb_fr (tb_oc 36) 44 = some (4, 4, b) := ⟨_, rfl⟩
theorem dk_36_19 : decode (tb_mb 36) 19 = .ok (.if_icmp .ge (67), 3) := by decide +kernel
theorem dk_36_22 : decode (tb_mb 36) 22 = .ok (.aload_n 0, 1) := by decide +kernel
theorem dk_36_23 : decode (tb_mb 36) 23 = .ok (.getfield 12, 3) := by decide +kernel
theorem f_36_23 : ∃ b, tb_fr (tb_oc 36) 12 = some (7, 1, b) := ⟨_, rfl⟩
theorem dk_36_26 : decode (tb_mb 36) 26 = .ok (.iload_n 1, 1) := by decide +kernel
theorem dk_36_27 : decode (tb_mb 36) 27 = .ok (.invokevirtual 54, 3) := by decide +kernel
theorem ck_36_27 : ∃ b, tb_cr (tb_oc 36) 54 = some (0, 17, b, 1) := ⟨_, rfl⟩
theorem dk_36_30 : decode (tb_mb 36) 30 = .ok (.istore_n 2, 1) := by decide +kernel
theorem dk_36_31 : decode (tb_mb 36) 31 = .ok (.iload_n 2, 1) := by decide +kernel
theorem dk_36_32 : decode (tb_mb 36) 32 = .ok (.bipush (8), 2) := by decide +kernel
theorem dk_36_34 : decode (tb_mb 36) 34 = .ok (.if_icmp .eq (9), 3) := by decide +kernel
theorem dk_36_43 : decode (tb_mb 36) 43 = .ok (.aload_n 0, 1) := by decide +kernel
theorem dk_36_44 : decode (tb_mb 36) 44 = .ok (.iconst (0), 1) := by decide +kernel
theorem dk_36_45 : decode (tb_mb 36) 45 = .ok (.putfield 33, 3) := by decide +kernel
theorem f_36_45 : ∃ b, tb_fr (tb_oc 36) 33 = some (7, 6, b) ∧ xm_fin tb_cl (tb_ini 36) b 7 6 = true := ⟨_, rfl, rfl⟩
theorem dk_36_48 : decode (tb_mb 36) 48 = .ok (.aload_n 0, 1) := by decide +kernel
theorem dk_36_49 : decode (tb_mb 36) 49 = .ok (.aload_n 0, 1) := by decide +kernel
theorem dk_36_50 : decode (tb_mb 36) 50 = .ok (.getfield 12, 3) := by decide +kernel
theorem f_36_50 : ∃ b, tb_fr (tb_oc 36) 12 = some (7, 1, b) := ⟨_, rfl⟩
theorem dk_36_53 : decode (tb_mb 36) 53 = .ok (.iload_n 1, 1) := by decide +kernel
theorem dk_36_54 : decode (tb_mb 36) 54 = .ok (.invokevirtual 58, 3) := by decide +kernel
theorem ck_36_54 : ∃ b, tb_cr (tb_oc 36) 58 = some (0, 21, b, 1) := ⟨_, rfl⟩
theorem dk_36_57 : decode (tb_mb 36) 57 = .ok (.iconst (1), 1) := by decide +kernel
theorem dk_36_58 : decode (tb_mb 36) 58 = .ok (.invokevirtual 47, 3) := by decide +kernel
theorem ck_36_58 : ∃ b, tb_cr (tb_oc 36) 47 = some (0, 15, b, 2) := ⟨_, rfl⟩
theorem dk_36_61 : decode (tb_mb 36) 61 = .ok (.lstore_n 3, 1) := by decide +kernel
theorem dk_36_62 : decode (tb_mb 36) 62 = .ok (.aload_n 0, 1) := by decide +kernel
theorem dk_36_63 : decode (tb_mb 36) 63 = .ok (.getfield 22, 3) := by decide +kernel
theorem f_36_63 : ∃ b, tb_fr (tb_oc 36) 22 = some (7, 3, b) := ⟨_, rfl⟩
theorem dk_36_66 : decode (tb_mb 36) 66 = .ok (.iload_n 1, 1) := by decide +kernel
theorem dk_36_67 : decode (tb_mb 36) 67 = .ok (.aload_n 0, 1) := by decide +kernel
theorem dk_36_68 : decode (tb_mb 36) 68 = .ok (.getfield 33, 3) := by decide +kernel
theorem f_36_68 : ∃ b, tb_fr (tb_oc 36) 33 = some (7, 6, b) := ⟨_, rfl⟩
theorem dk_36_71 : decode (tb_mb 36) 71 = .ok (.ifCond .ne (7), 3) := by decide +kernel
theorem dk_36_78 : decode (tb_mb 36) 78 = .ok (.lconst 0, 1) := by decide +kernel
theorem dk_36_79 : decode (tb_mb 36) 79 = .ok (.lastore, 1) := by decide +kernel
theorem dk_36_80 : decode (tb_mb 36) 80 = .ok (.iinc 1 (1), 3) := by decide +kernel
theorem dk_36_83 : decode (tb_mb 36) 83 = .ok (.goto (-81), 3) := by decide +kernel
theorem dk_36_74 : decode (tb_mb 36) 74 = .ok (.lload_n 3, 1) := by decide +kernel
theorem dk_36_75 : decode (tb_mb 36) 75 = .ok (.goto (4), 3) := by decide +kernel
theorem dk_36_37 : decode (tb_mb 36) 37 = .ok (.iload_n 2, 1) := by decide +kernel
theorem dk_36_38 : decode (tb_mb 36) 38 = .ok (.bipush (9), 2) := by decide +kernel
theorem dk_36_40 : decode (tb_mb 36) 40 = .ok (.if_icmp .ne (40), 3) := by decide +kernel
def b_36_86 (p : Nat) (I : dI) (J : dJ) : Option (dI × dJ) := lt_ (rJ J (p + 6) (va_cpy (J (p + 7)) (J (p + 6)) 0 0 (Int32.toNatClampNeg 40))) (fun J2 => lt_ (sI I p 4 1) (fun I3 => some (I3, J2)))
theorem p_36_86 {Q : Nat → Option Nat} {D : Nat} {p : Nat} (hD : 125 ≤ D) (okp : okW p) (I : dI) (J : dJ) (R : (dI × dJ)) (h : b_36_86 p I J = some R) : Rn Q D 36 86 [(0, .ref p)] [] I J (none) R.1 R.2 := by
  replace h : (lt_ (rJ J (p + 6) (va_cpy (J (p + 7)) (J (p + 6)) 0 0 (Int32.toNatClampNeg 40))) (fun J2 => lt_ (sI I p 4 1) (fun I3 => some (I3, J2)))) = some R := h
  refine Rn.pu (st' := [.ref p]) dk_36_86 L_36 rfl ?_
  refine Rn.gR (r := (p + 7)) dk_36_87 f_36_87.choose_spec okp.1 rfl ?_
  refine Rn.ic dk_36_90 cic_0 ?_
  refine Rn.pu (st' := [.ref p, .int 0, .ref (p + 7)]) dk_36_91 L_36 rfl ?_
  refine Rn.gR (r := (p + 6)) dk_36_92 f_36_92.choose_spec okp.1 rfl ?_
  refine Rn.ic dk_36_95 cic_0 ?_
  refine Rn.bp dk_36_96 cbp_40 ?_
  obtain ⟨J2, eJ2, h⟩ := letS h
  refine Rn.cpJ dk_36_98 ac_36_98.2.2 ac_36_98.1.choose_spec ac_36_98.2.1 (Nat.le_of_ble_eq_true rfl) okp.2.2.2 okp.2.2.1 (by decide) (by decide) (by decide) ?_
  rw [← eJ2]
  refine Rn.pu (st' := [.ref p]) dk_36_101 L_36 rfl ?_
  refine Rn.ic dk_36_102 cic_1 ?_
  obtain ⟨I3, eI3, h⟩ := letS h
  refine Rn.pI dk_36_103 f_36_103.choose_spec.1 okp.1 rfl f_36_103.choose_spec.2 rfl rfl ?_
  rw [← eI3]
  cases h
  exact Rn.rv dk_36_106 R_36
def b_36_80 (p : Nat) (h2 : Int32 → dI → dJ → Option (dI × dJ)) (x1 : Int32) (I : dI) (J : dJ) : Option (dI × dJ) := h2 (x1 + 1) I J
theorem p_36_80 {Q : Nat → Option Nat} {D : Nat} {p : Nat} (hD : 125 ≤ D) (okp : okW p) {h2 : Int32 → dI → dJ → Option (dI × dJ)} (H2 : ∀ (x1 : Int32) (I : dI) (J : dJ) (R : (dI × dJ)), h2 x1 I J = some R → Rn Q D 36 2 [(0, .ref p), (1, .int x1)] [] I J (none) R.1 R.2) (x1 : Int32) (I : dI) (J : dJ) (R : (dI × dJ)) (h : b_36_80 p h2 x1 I J = some R) : Rn Q D 36 80 [(0, .ref p), (1, .int x1)] [] I J (none) R.1 R.2 := by
  replace h : (h2 (x1 + 1) I J) = some R := h
  refine Rn.inc (ls' := [(1, .int (x1 + 1)), (0, .ref p)]) dk_36_80 L_36 (by decide) cic_1 rfl rfl ?_
  refine Rn.gt (t := 2) dk_36_83 rfl ?_
  exact Rn.wk [1, 0] rfl (H2 _ _ _ _ h)
def b_36_79 (p : Nat) (h2 : Int32 → dI → dJ → Option (dI × dJ)) (x1 : Int32) (s0 : Int64) (s1 : Int32) (I : dI) (J : dJ) : Option (dI × dJ) := if ¬ (s1 < 0 ∨ 40 ≤ Int32.toNatClampNeg s1) then lt_ (sJ J (p + 7) (Int32.toNatClampNeg s1) s0) (fun J15 => b_36_80 p h2 x1 I J15) else none
theorem p_36_79 {Q : Nat → Option Nat} {D : Nat} {p : Nat} (hD : 125 ≤ D) (okp : okW p) {h2 : Int32 → dI → dJ → Option (dI × dJ)} (H2 : ∀ (x1 : Int32) (I : dI) (J : dJ) (R : (dI × dJ)), h2 x1 I J = some R → Rn Q D 36 2 [(0, .ref p), (1, .int x1)] [] I J (none) R.1 R.2) (x1 : Int32) (s0 : Int64) (s1 : Int32) (I : dI) (J : dJ) (R : (dI × dJ)) (h : b_36_79 p h2 x1 s0 s1 I J = some R) : Rn Q D 36 79 [(0, .ref p), (1, .int x1)] [.long s0, .int s1, .ref (p + 7)] I J (none) R.1 R.2 := by
  replace h : (if ¬ (s1 < 0 ∨ 40 ≤ Int32.toNatClampNeg s1) then lt_ (sJ J (p + 7) (Int32.toNatClampNeg s1) s0) (fun J15 => b_36_80 p h2 x1 I J15) else none) = some R := h
  obtain ⟨c14, h⟩ := xm_if h
  obtain ⟨J15, eJ15, h⟩ := letS h
  refine Rn.last dk_36_79 okp.2.2.2 c14 ?_
  rw [← eJ15]
  exact Rn.wk [0, 1] rfl (p_36_80 hD okp H2 _ _ _ _ h)
def b_36_43 (p : Nat) (h2 : Int32 → dI → dJ → Option (dI × dJ)) (x1 : Int32) (I : dI) (J : dJ) : Option (dI × dJ) := lt_ (sI I p 6 0) (fun I8 => (m_21 (p + 1) x1 I8 J).bind (fun r9 => (wkF p r9 1 I8 J).bind (fun r11 => if ¬ (r11.2.1 p 6) = 0 then (b_36_79 p h2 x1 0 x1 r11.2.1 r11.2.2) else (b_36_79 p h2 x1 r11.1 x1 r11.2.1 r11.2.2))))
theorem p_36_43 {Q : Nat → Option Nat} {D : Nat} {p : Nat} (hD : 125 ≤ D) (okp : okW p) {h2 : Int32 → dI → dJ → Option (dI × dJ)} (H2 : ∀ (x1 : Int32) (I : dI) (J : dJ) (R : (dI × dJ)), h2 x1 I J = some R → Rn Q D 36 2 [(0, .ref p), (1, .int x1)] [] I J (none) R.1 R.2) (x1 : Int32) (I : dI) (J : dJ) (R : (dI × dJ)) (h : b_36_43 p h2 x1 I J = some R) : Rn Q D 36 43 [(0, .ref p), (1, .int x1)] [] I J (none) R.1 R.2 := by
  replace h : (lt_ (sI I p 6 0) (fun I8 => (m_21 (p + 1) x1 I8 J).bind (fun r9 => (wkF p r9 1 I8 J).bind (fun r11 => if ¬ (r11.2.1 p 6) = 0 then (b_36_79 p h2 x1 0 x1 r11.2.1 r11.2.2) else (b_36_79 p h2 x1 r11.1 x1 r11.2.1 r11.2.2))))) = some R := h
  refine Rn.pu (st' := [.ref p]) dk_36_43 L_36 rfl ?_
  refine Rn.ic dk_36_44 cic_0 ?_
  obtain ⟨I8, eI8, h⟩ := letS h
  refine Rn.pI dk_36_45 f_36_45.choose_spec.1 okp.1 rfl f_36_45.choose_spec.2 rfl rfl ?_
  rw [← eI8]
  refine Rn.pu (st' := [.ref p]) dk_36_48 L_36 rfl ?_
  refine Rn.pu (st' := [.ref p, .ref p]) dk_36_49 L_36 rfl ?_
  refine Rn.gR (r := (p + 1)) dk_36_50 f_36_50.choose_spec okp.1 rfl ?_
  refine Rn.pu (st' := [.int x1, .ref (p + 1), .ref p]) dk_36_53 L_36 rfl ?_
  obtain ⟨r9, e10, h⟩ := bindS h
  refine Rn.cvI (p := (p + 1)) (As := [.int x1]) (rest := [.ref p]) dk_36_54 ck_36_54.choose_spec rfl okp.2.1.1 rfl (x_21 (Nat.le_trans (Nat.le_of_ble_eq_true rfl) hD) okp.2.1 e10) ?_
  refine Rn.ic dk_36_57 cic_1 ?_
  obtain ⟨r11, e12, h⟩ := bindS h
  refine Rn.cvJ (p := p) (As := [.int r9, .int 1]) (rest := []) dk_36_58 ck_36_58.choose_spec rfl okp.1 rfl (x_wkF (Nat.le_trans (Nat.le_of_ble_eq_true rfl) hD) okp e12) ?_
  refine Rn.pu (ls' := [(3, .long r11.1), (0, .ref p), (1, .int x1)]) (st' := []) dk_36_61 L_36 rfl ?_
  refine Rn.pu (st' := [.ref p]) dk_36_62 L_36 rfl ?_
  refine Rn.gR (r := (p + 7)) dk_36_63 f_36_63.choose_spec okp.1 rfl ?_
  refine Rn.pu (st' := [.int x1, .ref (p + 7)]) dk_36_66 L_36 rfl ?_
  refine Rn.pu (st' := [.ref p, .int x1, .ref (p + 7)]) dk_36_67 L_36 rfl ?_
  refine Rn.gI dk_36_68 f_36_68.choose_spec okp.1 rfl ?_
  by_cases c13 : ¬ (r11.2.1 p 6) = 0
  · rw [if_pos c13] at h
    refine Rn.i1t (t := 78) dk_36_71 rfl (decide_eq_true c13) ?_
    refine Rn.lc dk_36_78 clc_0 ?_
    exact Rn.wk [1, 2] rfl (p_36_79 hD okp H2 _ _ _ _ _ _ h)
  · rw [if_neg c13] at h
    refine Rn.i1f (t := 78) dk_36_71 rfl (decide_eq_false c13) ?_
    refine Rn.pu (st' := [.long r11.1, .int x1, .ref (p + 7)]) dk_36_74 L_36 rfl ?_
    refine Rn.gt (t := 79) dk_36_75 rfl ?_
    exact Rn.wk [1, 2] rfl (p_36_79 hD okp H2 _ _ _ _ _ _ h)
def b_36_2 (p : Nat) : Nat → Int32 → dI → dJ → Option (dI × dJ)
  | 0, _, _, _ => none
  | n + 1, x1, I, J => if (Int32.ofNat 40) ≤ x1 then (b_36_86 p I J) else (if (I (p + 1) 4) ≤ x1 then (b_36_86 p I J) else ((m_17 (p + 1) x1 I J).bind (fun r3 => if r3 = 8 then (b_36_43 p (b_36_2 p n) x1 I J) else (if ¬ r3 = 9 then (b_36_80 p (b_36_2 p n) x1 I J) else (b_36_43 p (b_36_2 p n) x1 I J)))))
theorem p_36_2 {Q : Nat → Option Nat} {D : Nat} {p : Nat} (hD : 125 ≤ D) (okp : okW p) : ∀ (n : Nat) (x1 : Int32) (I : dI) (J : dJ) (R : (dI × dJ)), b_36_2 p n x1 I J = some R → Rn Q D 36 2 [(0, .ref p), (1, .int x1)] [] I J (none) R.1 R.2 := by
  intro n
  induction n with
  | zero => intro x1 I J R h; exact absurd h (by simp [b_36_2])
  | succ n ih =>
    intro x1 I J R h
    replace h : (if (Int32.ofNat 40) ≤ x1 then (b_36_86 p I J) else (if (I (p + 1) 4) ≤ x1 then (b_36_86 p I J) else ((m_17 (p + 1) x1 I J).bind (fun r3 => if r3 = 8 then (b_36_43 p (b_36_2 p n) x1 I J) else (if ¬ r3 = 9 then (b_36_80 p (b_36_2 p n) x1 I J) else (b_36_43 p (b_36_2 p n) x1 I J)))))) = some R := h
    refine Rn.pu (st' := [.int x1]) dk_36_2 L_36 rfl ?_
    refine Rn.pu (st' := [.ref p, .int x1]) dk_36_3 L_36 rfl ?_
    refine Rn.gR (r := (p + 7)) dk_36_4 f_36_4.choose_spec okp.1 rfl ?_
    refine Rn.alen dk_36_7 okp.2.2.2 (by decide) ?_
    by_cases c1 : (Int32.ofNat 40) ≤ x1
    · rw [if_pos c1] at h
      refine Rn.i2t (t := 86) dk_36_8 rfl (decide_eq_true c1) ?_
      exact Rn.wk [0] rfl (p_36_86 hD okp _ _ _ h)
    · rw [if_neg c1] at h
      refine Rn.i2f (t := 86) dk_36_8 rfl (decide_eq_false c1) ?_
      refine Rn.pu (st' := [.int x1]) dk_36_11 L_36 rfl ?_
      refine Rn.pu (st' := [.ref p, .int x1]) dk_36_12 L_36 rfl ?_
      refine Rn.gR (r := (p + 1)) dk_36_13 f_36_13.choose_spec okp.1 rfl ?_
      refine Rn.gI dk_36_16 f_36_16.choose_spec okp.2.1.1 rfl ?_
      by_cases c2 : (I (p + 1) 4) ≤ x1
      · rw [if_pos c2] at h
        refine Rn.i2t (t := 86) dk_36_19 rfl (decide_eq_true c2) ?_
        exact Rn.wk [0] rfl (p_36_86 hD okp _ _ _ h)
      · rw [if_neg c2] at h
        refine Rn.i2f (t := 86) dk_36_19 rfl (decide_eq_false c2) ?_
        refine Rn.pu (st' := [.ref p]) dk_36_22 L_36 rfl ?_
        refine Rn.gR (r := (p + 1)) dk_36_23 f_36_23.choose_spec okp.1 rfl ?_
        refine Rn.pu (st' := [.int x1, .ref (p + 1)]) dk_36_26 L_36 rfl ?_
        obtain ⟨r3, e4, h⟩ := bindS h
        refine Rn.cvI (p := (p + 1)) (As := [.int x1]) (rest := []) dk_36_27 ck_36_27.choose_spec rfl okp.2.1.1 rfl (x_17 (Nat.le_trans (Nat.le_of_ble_eq_true rfl) hD) okp.2.1 e4) ?_
        refine Rn.pu (ls' := [(2, .int r3), (0, .ref p), (1, .int x1)]) (st' := []) dk_36_30 L_36 rfl ?_
        refine Rn.pu (st' := [.int r3]) dk_36_31 L_36 rfl ?_
        refine Rn.bp dk_36_32 cbp_8 ?_
        by_cases c5 : r3 = 8
        · rw [if_pos c5] at h
          refine Rn.i2t (t := 43) dk_36_34 rfl (decide_eq_true c5) ?_
          exact Rn.wk [1, 2] rfl (p_36_43 hD okp ih _ _ _ _ h)
        · rw [if_neg c5] at h
          refine Rn.i2f (t := 43) dk_36_34 rfl (decide_eq_false c5) ?_
          refine Rn.pu (st' := [.int r3]) dk_36_37 L_36 rfl ?_
          refine Rn.bp dk_36_38 cbp_9 ?_
          by_cases c6 : ¬ r3 = 9
          · rw [if_pos c6] at h
            refine Rn.i2t (t := 80) dk_36_40 rfl (decide_eq_true c6) ?_
            exact Rn.wk [1, 2] rfl (p_36_80 hD okp ih _ _ _ _ h)
          · rw [if_neg c6] at h
            refine Rn.i2f (t := 80) dk_36_40 rfl (decide_eq_false c6) ?_
            exact Rn.wk [1, 2] rfl (p_36_43 hD okp ih _ _ _ _ h)
def b_36_0 (p : Nat) (I : dI) (J : dJ) : Option (dI × dJ) := b_36_2 p FU 0 I J
theorem p_36_0 {Q : Nat → Option Nat} {D : Nat} {p : Nat} (hD : 125 ≤ D) (okp : okW p) (I : dI) (J : dJ) (R : (dI × dJ)) (h : b_36_0 p I J = some R) : Rn Q D 36 0 [(0, .ref p)] [] I J (none) R.1 R.2 := by
  replace h : (b_36_2 p FU 0 I J) = some R := h
  refine Rn.ic dk_36_0 cic_0 ?_
  refine Rn.pu (ls' := [(1, .int 0), (0, .ref p)]) (st' := []) dk_36_1 L_36 rfl ?_
  exact Rn.wk [1, 0] rfl (p_36_2 hD okp FU _ _ _ _ h)
def m_36 (p : Nat) (I : dI) (J : dJ) : Option (dI × dJ) := b_36_0 p I J
theorem x_36 {Q : Nat → Option Nat} {D : Nat} {p : Nat} (hD : 126 ≤ D) (okp : okW p) {I : dI} {J : dJ} {R : (dI × dJ)} (h : m_36 p I J = some R) : Ex Q D 36 I J [.ref p] (none) R.1 R.2 := by
  obtain ⟨D, rfl⟩ : ∃ D', D = D' + 1 := ⟨D - 1, by omega⟩
  exact Ex.of (by decide) (by rw [L_36]; exact Nat.le_of_ble_eq_true rfl) (show xm_sub [(0, .ref p)] [(0, .ref p)] from xm_sub_of [0] [0] rfl rfl (by decide)) (p_36_0 (Nat.le_of_succ_le_succ hD) okp _ _ _ h)
-- ConditionDesk$Worker.workAll()J
theorem L_14 : tb_mL 14 = 5 := by decide +kernel
theorem R_14 : tb_mr 14 = some .long := by decide +kernel
theorem dk_14_0 : decode (tb_mb 14) 0 = .ok (.aload_n 0, 1) := by decide +kernel
theorem dk_14_1 : decode (tb_mb 14) 1 = .ok (.iconst (0), 1) := by decide +kernel
theorem dk_14_2 : decode (tb_mb 14) 2 = .ok (.putfield 29, 3) := by decide +kernel
theorem f_14_2 : ∃ b, tb_fr (tb_oc 14) 29 = some (7, 5, b) ∧ xm_fin tb_cl (tb_ini 14) b 7 5 = true := ⟨_, rfl, rfl⟩
theorem dk_14_5 : decode (tb_mb 14) 5 = .ok (.aload_n 0, 1) := by decide +kernel
theorem dk_14_6 : decode (tb_mb 14) 6 = .ok (.iconst (0), 1) := by decide +kernel
theorem dk_14_7 : decode (tb_mb 14) 7 = .ok (.putfield 33, 3) := by decide +kernel
theorem f_14_7 : ∃ b, tb_fr (tb_oc 14) 33 = some (7, 6, b) ∧ xm_fin tb_cl (tb_ini 14) b 7 6 = true := ⟨_, rfl, rfl⟩
theorem dk_14_10 : decode (tb_mb 14) 10 = .ok (.aload_n 0, 1) := by decide +kernel
theorem dk_14_11 : decode (tb_mb 14) 11 = .ok (.aload_n 0, 1) := by decide +kernel
theorem dk_14_12 : decode (tb_mb 14) 12 = .ok (.getfield 12, 3) := by decide +kernel
theorem f_14_12 : ∃ b, tb_fr (tb_oc 14) 12 = some (7, 1, b) := ⟨_, rfl⟩
theorem dk_14_15 : decode (tb_mb 14) 15 = .ok (.getfield 44, 3) := by decide +kernel
theorem f_14_15 : ∃ b, tb_fr (tb_oc 14) 44 = some (4, 4, b) := ⟨_, rfl⟩
theorem dk_14_18 : decode (tb_mb 14) 18 = .ok (.iconst (1), 1) := by decide +kernel
theorem dk_14_19 : decode (tb_mb 14) 19 = .ok (.isub, 1) := by decide +kernel
theorem dk_14_20 : decode (tb_mb 14) 20 = .ok (.iconst (1), 1) := by decide +kernel
theorem dk_14_21 : decode (tb_mb 14) 21 = .ok (.invokevirtual 47, 3) := by decide +kernel
theorem ck_14_21 : ∃ b, tb_cr (tb_oc 14) 47 = some (0, 15, b, 2) := ⟨_, rfl⟩
theorem dk_14_24 : decode (tb_mb 14) 24 = .ok (.lstore_n 1, 1) := by decide +kernel
theorem dk_14_25 : decode (tb_mb 14) 25 = .ok (.aload_n 0, 1) := by decide +kernel
theorem dk_14_26 : decode (tb_mb 14) 26 = .ok (.getfield 29, 3) := by decide +kernel
theorem f_14_26 : ∃ b, tb_fr (tb_oc 14) 29 = some (7, 5, b) := ⟨_, rfl⟩
theorem dk_14_29 : decode (tb_mb 14) 29 = .ok (.istore_n 3, 1) := by decide +kernel
theorem dk_14_30 : decode (tb_mb 14) 30 = .ok (.aload_n 0, 1) := by decide +kernel
theorem dk_14_31 : decode (tb_mb 14) 31 = .ok (.getfield 33, 3) := by decide +kernel
theorem f_14_31 : ∃ b, tb_fr (tb_oc 14) 33 = some (7, 6, b) := ⟨_, rfl⟩
theorem dk_14_34 : decode (tb_mb 14) 34 = .ok (.istore 4, 2) := by decide +kernel
theorem dk_14_36 : decode (tb_mb 14) 36 = .ok (.aload_n 0, 1) := by decide +kernel
theorem dk_14_37 : decode (tb_mb 14) 37 = .ok (.invokevirtual 51, 3) := by decide +kernel
theorem ck_14_37 : ∃ b, tb_cr (tb_oc 14) 51 = some (0, 36, b, 0) := ⟨_, rfl⟩
theorem dk_14_40 : decode (tb_mb 14) 40 = .ok (.aload_n 0, 1) := by decide +kernel
theorem dk_14_41 : decode (tb_mb 14) 41 = .ok (.iload_n 3, 1) := by decide +kernel
theorem dk_14_42 : decode (tb_mb 14) 42 = .ok (.putfield 29, 3) := by decide +kernel
theorem f_14_42 : ∃ b, tb_fr (tb_oc 14) 29 = some (7, 5, b) ∧ xm_fin tb_cl (tb_ini 14) b 7 5 = true := ⟨_, rfl, rfl⟩
theorem dk_14_45 : decode (tb_mb 14) 45 = .ok (.aload_n 0, 1) := by decide +kernel
theorem dk_14_46 : decode (tb_mb 14) 46 = .ok (.iload 4, 2) := by decide +kernel
theorem dk_14_48 : decode (tb_mb 14) 48 = .ok (.putfield 33, 3) := by decide +kernel
theorem f_14_48 : ∃ b, tb_fr (tb_oc 14) 33 = some (7, 6, b) ∧ xm_fin tb_cl (tb_ini 14) b 7 6 = true := ⟨_, rfl, rfl⟩
theorem dk_14_51 : decode (tb_mb 14) 51 = .ok (.aload_n 0, 1) := by decide +kernel
theorem dk_14_52 : decode (tb_mb 14) 52 = .ok (.getfield 33, 3) := by decide +kernel
theorem f_14_52 : ∃ b, tb_fr (tb_oc 14) 33 = some (7, 6, b) := ⟨_, rfl⟩
theorem dk_14_55 : decode (tb_mb 14) 55 = .ok (.ifCond .ne (7), 3) := by decide +kernel
theorem dk_14_62 : decode (tb_mb 14) 62 = .ok (.lconst 0, 1) := by decide +kernel
theorem dk_14_63 : decode (tb_mb 14) 63 = .ok (.lreturn, 1) := by decide +kernel
theorem dk_14_58 : decode (tb_mb 14) 58 = .ok (.lload_n 1, 1) := by decide +kernel
theorem dk_14_59 : decode (tb_mb 14) 59 = .ok (.goto (4), 3) := by decide +kernel
def b_14_0 (p : Nat) (I : dI) (J : dJ) : Option (Int64 × dI × dJ) := lt_ (sI I p 5 0) (fun I1 => lt_ (sI I1 p 6 0) (fun I2 => (wkF p ((I2 (p + 1) 4) - 1) 1 I2 J).bind (fun r3 => (m_36 p r3.2.1 r3.2.2).bind (fun r5 => lt_ (sI r5.1 p 5 (r3.2.1 p 5)) (fun I7 => lt_ (sI I7 p 6 (r3.2.1 p 6)) (fun I8 => if ¬ (I8 p 6) = 0 then (some (0, I8, r5.2)) else (some (r3.1, I8, r5.2))))))))
theorem p_14_0 {Q : Nat → Option Nat} {D : Nat} {p : Nat} (hD : 126 ≤ D) (okp : okW p) (I : dI) (J : dJ) (R : (Int64 × dI × dJ)) (h : b_14_0 p I J = some R) : Rn Q D 14 0 [(0, .ref p)] [] I J (some (.long R.1)) R.2.1 R.2.2 := by
  replace h : (lt_ (sI I p 5 0) (fun I1 => lt_ (sI I1 p 6 0) (fun I2 => (wkF p ((I2 (p + 1) 4) - 1) 1 I2 J).bind (fun r3 => (m_36 p r3.2.1 r3.2.2).bind (fun r5 => lt_ (sI r5.1 p 5 (r3.2.1 p 5)) (fun I7 => lt_ (sI I7 p 6 (r3.2.1 p 6)) (fun I8 => if ¬ (I8 p 6) = 0 then (some (0, I8, r5.2)) else (some (r3.1, I8, r5.2))))))))) = some R := h
  refine Rn.pu (st' := [.ref p]) dk_14_0 L_14 rfl ?_
  refine Rn.ic dk_14_1 cic_0 ?_
  obtain ⟨I1, eI1, h⟩ := letS h
  refine Rn.pI dk_14_2 f_14_2.choose_spec.1 okp.1 rfl f_14_2.choose_spec.2 rfl rfl ?_
  rw [← eI1]
  refine Rn.pu (st' := [.ref p]) dk_14_5 L_14 rfl ?_
  refine Rn.ic dk_14_6 cic_0 ?_
  obtain ⟨I2, eI2, h⟩ := letS h
  refine Rn.pI dk_14_7 f_14_7.choose_spec.1 okp.1 rfl f_14_7.choose_spec.2 rfl rfl ?_
  rw [← eI2]
  refine Rn.pu (st' := [.ref p]) dk_14_10 L_14 rfl ?_
  refine Rn.pu (st' := [.ref p, .ref p]) dk_14_11 L_14 rfl ?_
  refine Rn.gR (r := (p + 1)) dk_14_12 f_14_12.choose_spec okp.1 rfl ?_
  refine Rn.gI dk_14_15 f_14_15.choose_spec okp.2.1.1 rfl ?_
  refine Rn.ic dk_14_18 cic_1 ?_
  refine Rn.pu (st' := [.int ((I2 (p + 1) 4) - 1), .ref p]) dk_14_19 L_14 rfl ?_
  refine Rn.ic dk_14_20 cic_1 ?_
  obtain ⟨r3, e4, h⟩ := bindS h
  refine Rn.cvJ (p := p) (As := [.int ((I2 (p + 1) 4) - 1), .int 1]) (rest := []) dk_14_21 ck_14_21.choose_spec rfl okp.1 rfl (x_wkF (Nat.le_trans (Nat.le_of_ble_eq_true rfl) hD) okp e4) ?_
  refine Rn.pu (ls' := [(1, .long r3.1), (0, .ref p)]) (st' := []) dk_14_24 L_14 rfl ?_
  refine Rn.pu (st' := [.ref p]) dk_14_25 L_14 rfl ?_
  refine Rn.gI dk_14_26 f_14_26.choose_spec okp.1 rfl ?_
  refine Rn.pu (ls' := [(3, .int (r3.2.1 p 5)), (1, .long r3.1), (0, .ref p)]) (st' := []) dk_14_29 L_14 rfl ?_
  refine Rn.pu (st' := [.ref p]) dk_14_30 L_14 rfl ?_
  refine Rn.gI dk_14_31 f_14_31.choose_spec okp.1 rfl ?_
  refine Rn.pu (ls' := [(4, .int (r3.2.1 p 6)), (3, .int (r3.2.1 p 5)), (1, .long r3.1), (0, .ref p)]) (st' := []) dk_14_34 L_14 rfl ?_
  refine Rn.pu (st' := [.ref p]) dk_14_36 L_14 rfl ?_
  obtain ⟨r5, e6, h⟩ := bindS h
  refine Rn.cvV (p := p) (As := []) (rest := []) dk_14_37 ck_14_37.choose_spec rfl okp.1 rfl (x_36 (Nat.le_trans (Nat.le_of_ble_eq_true rfl) hD) okp e6) ?_
  refine Rn.pu (st' := [.ref p]) dk_14_40 L_14 rfl ?_
  refine Rn.pu (st' := [.int (r3.2.1 p 5), .ref p]) dk_14_41 L_14 rfl ?_
  obtain ⟨I7, eI7, h⟩ := letS h
  refine Rn.pI dk_14_42 f_14_42.choose_spec.1 okp.1 rfl f_14_42.choose_spec.2 rfl rfl ?_
  rw [← eI7]
  refine Rn.pu (st' := [.ref p]) dk_14_45 L_14 rfl ?_
  refine Rn.pu (st' := [.int (r3.2.1 p 6), .ref p]) dk_14_46 L_14 rfl ?_
  obtain ⟨I8, eI8, h⟩ := letS h
  refine Rn.pI dk_14_48 f_14_48.choose_spec.1 okp.1 rfl f_14_48.choose_spec.2 rfl rfl ?_
  rw [← eI8]
  refine Rn.pu (st' := [.ref p]) dk_14_51 L_14 rfl ?_
  refine Rn.gI dk_14_52 f_14_52.choose_spec okp.1 rfl ?_
  by_cases c9 : ¬ (I8 p 6) = 0
  · rw [if_pos c9] at h
    refine Rn.i1t (t := 62) dk_14_55 rfl (decide_eq_true c9) ?_
    refine Rn.lc dk_14_62 clc_0 ?_
    cases h
    exact Rn.rl dk_14_63 R_14
  · rw [if_neg c9] at h
    refine Rn.i1f (t := 62) dk_14_55 rfl (decide_eq_false c9) ?_
    refine Rn.pu (st' := [.long r3.1]) dk_14_58 L_14 rfl ?_
    refine Rn.gt (t := 63) dk_14_59 rfl ?_
    cases h
    exact Rn.rl dk_14_63 R_14
def m_14 (p : Nat) (I : dI) (J : dJ) : Option (Int64 × dI × dJ) := b_14_0 p I J
theorem x_14 {Q : Nat → Option Nat} {D : Nat} {p : Nat} (hD : 127 ≤ D) (okp : okW p) {I : dI} {J : dJ} {R : (Int64 × dI × dJ)} (h : m_14 p I J = some R) : Ex Q D 14 I J [.ref p] (some (.long R.1)) R.2.1 R.2.2 := by
  obtain ⟨D, rfl⟩ : ∃ D', D = D' + 1 := ⟨D - 1, by omega⟩
  exact Ex.of (by decide) (by rw [L_14]; exact Nat.le_of_ble_eq_true rfl) (show xm_sub [(0, .ref p)] [(0, .ref p)] from xm_sub_of [0] [0] rfl rfl (by decide)) (p_14_0 (Nat.le_of_succ_le_succ hD) okp _ _ _ h)
-- ConditionDesk$Condition.answer()I
theorem L_13 : tb_mL 13 = 1 := by decide +kernel
theorem R_13 : tb_mr 13 = some .int := by decide +kernel
theorem dk_13_0 : decode (tb_mb 13) 0 = .ok (.aload_n 0, 1) := by decide +kernel
theorem dk_13_1 : decode (tb_mb 13) 1 = .ok (.aload_n 0, 1) := by decide +kernel
theorem dk_13_2 : decode (tb_mb 13) 2 = .ok (.getfield 35, 3) := by decide +kernel
theorem f_13_2 : ∃ b, tb_fr (tb_oc 13) 35 = some (1, 0, b) := ⟨_, rfl⟩
theorem dk_13_5 : decode (tb_mb 13) 5 = .ok (.invokevirtual 43, 3) := by decide +kernel
theorem ck_13_5 : ∃ b, tb_cr (tb_oc 13) 43 = some (0, 14, b, 0) := ⟨_, rfl⟩
theorem dk_13_8 : decode (tb_mb 13) 8 = .ok (.putfield 17, 3) := by decide +kernel
theorem f_13_8 : ∃ b, tb_fr (tb_oc 13) 17 = some (1, 3, b) ∧ xm_fin tb_cl (tb_ini 13) b 1 3 = true := ⟨_, rfl, rfl⟩
theorem dk_13_11 : decode (tb_mb 13) 11 = .ok (.aload_n 0, 1) := by decide +kernel
theorem dk_13_12 : decode (tb_mb 13) 12 = .ok (.aload_n 0, 1) := by decide +kernel
theorem dk_13_13 : decode (tb_mb 13) 13 = .ok (.getfield 35, 3) := by decide +kernel
theorem f_13_13 : ∃ b, tb_fr (tb_oc 13) 35 = some (1, 0, b) := ⟨_, rfl⟩
theorem dk_13_16 : decode (tb_mb 13) 16 = .ok (.getfield 47, 3) := by decide +kernel
theorem f_13_16 : ∃ b, tb_fr (tb_oc 13) 47 = some (7, 5, b) := ⟨_, rfl⟩
theorem dk_13_19 : decode (tb_mb 13) 19 = .ok (.i2l, 1) := by decide +kernel
theorem dk_13_20 : decode (tb_mb 13) 20 = .ok (.putfield 27, 3) := by decide +kernel
theorem f_13_20 : ∃ b, tb_fr (tb_oc 13) 27 = some (1, 6, b) ∧ xm_fin tb_cl (tb_ini 13) b 1 6 = true := ⟨_, rfl, rfl⟩
theorem dk_13_23 : decode (tb_mb 13) 23 = .ok (.aload_n 0, 1) := by decide +kernel
theorem dk_13_24 : decode (tb_mb 13) 24 = .ok (.getfield 35, 3) := by decide +kernel
theorem f_13_24 : ∃ b, tb_fr (tb_oc 13) 35 = some (1, 0, b) := ⟨_, rfl⟩
theorem dk_13_27 : decode (tb_mb 13) 27 = .ok (.getfield 49, 3) := by decide +kernel
theorem f_13_27 : ∃ b, tb_fr (tb_oc 13) 49 = some (7, 6, b) := ⟨_, rfl⟩
theorem dk_13_30 : decode (tb_mb 13) 30 = .ok (.ifCond .eq (22), 3) := by decide +kernel
theorem dk_13_52 : decode (tb_mb 13) 52 = .ok (.aload_n 0, 1) := by decide +kernel
theorem dk_13_53 : decode (tb_mb 13) 53 = .ok (.getfield 17, 3) := by decide +kernel
theorem f_13_53 : ∃ b, tb_fr (tb_oc 13) 17 = some (1, 3, b) := ⟨_, rfl⟩
theorem dk_13_56 : decode (tb_mb 13) 56 = .ok (.lconst 0, 1) := by decide +kernel
theorem dk_13_57 : decode (tb_mb 13) 57 = .ok (.lcmp, 1) := by decide +kernel
theorem dk_13_58 : decode (tb_mb 13) 58 = .ok (.ifCond .ne (5), 3) := by decide +kernel
theorem dk_13_63 : decode (tb_mb 13) 63 = .ok (.aload_n 0, 1) := by decide +kernel
theorem dk_13_64 : decode (tb_mb 13) 64 = .ok (.getfield 13, 3) := by decide +kernel
theorem f_13_64 : ∃ b, tb_fr (tb_oc 13) 13 = some (1, 2, b) := ⟨_, rfl⟩
theorem dk_13_67 : decode (tb_mb 13) 67 = .ok (.ifCond .le (15), 3) := by decide +kernel
theorem dk_13_82 : decode (tb_mb 13) 82 = .ok (.aload_n 0, 1) := by decide +kernel
theorem dk_13_83 : decode (tb_mb 13) 83 = .ok (.dup, 1) := by decide +kernel
theorem dk_13_84 : decode (tb_mb 13) 84 = .ok (.getfield 21, 3) := by decide +kernel
theorem f_13_84 : ∃ b, tb_fr (tb_oc 13) 21 = some (1, 4, b) := ⟨_, rfl⟩
theorem dk_13_87 : decode (tb_mb 13) 87 = .ok (.lconst 1, 1) := by decide +kernel
theorem dk_13_88 : decode (tb_mb 13) 88 = .ok (.ladd, 1) := by decide +kernel
theorem dk_13_89 : decode (tb_mb 13) 89 = .ok (.putfield 21, 3) := by decide +kernel
theorem f_13_89 : ∃ b, tb_fr (tb_oc 13) 21 = some (1, 4, b) ∧ xm_fin tb_cl (tb_ini 13) b 1 4 = true := ⟨_, rfl, rfl⟩
theorem dk_13_92 : decode (tb_mb 13) 92 = .ok (.iconst (1), 1) := by decide +kernel
theorem dk_13_93 : decode (tb_mb 13) 93 = .ok (.ireturn, 1) := by decide +kernel
theorem dk_13_70 : decode (tb_mb 13) 70 = .ok (.aload_n 0, 1) := by decide +kernel
theorem dk_13_71 : decode (tb_mb 13) 71 = .ok (.dup, 1) := by decide +kernel
theorem dk_13_72 : decode (tb_mb 13) 72 = .ok (.getfield 13, 3) := by decide +kernel
theorem f_13_72 : ∃ b, tb_fr (tb_oc 13) 13 = some (1, 2, b) := ⟨_, rfl⟩
theorem dk_13_75 : decode (tb_mb 13) 75 = .ok (.iconst (1), 1) := by decide +kernel
theorem dk_13_76 : decode (tb_mb 13) 76 = .ok (.isub, 1) := by decide +kernel
theorem dk_13_77 : decode (tb_mb 13) 77 = .ok (.putfield 13, 3) := by decide +kernel
theorem f_13_77 : ∃ b, tb_fr (tb_oc 13) 13 = some (1, 2, b) ∧ xm_fin tb_cl (tb_ini 13) b 1 2 = true := ⟨_, rfl, rfl⟩
theorem dk_13_80 : decode (tb_mb 13) 80 = .ok (.iconst (0), 1) := by decide +kernel
theorem dk_13_81 : decode (tb_mb 13) 81 = .ok (.ireturn, 1) := by decide +kernel
theorem dk_13_61 : decode (tb_mb 13) 61 = .ok (.iconst (0), 1) := by decide +kernel
theorem dk_13_62 : decode (tb_mb 13) 62 = .ok (.ireturn, 1) := by decide +kernel
theorem dk_13_33 : decode (tb_mb 13) 33 = .ok (.aload_n 0, 1) := by decide +kernel
theorem dk_13_34 : decode (tb_mb 13) 34 = .ok (.dup, 1) := by decide +kernel
theorem dk_13_35 : decode (tb_mb 13) 35 = .ok (.getfield 24, 3) := by decide +kernel
theorem f_13_35 : ∃ b, tb_fr (tb_oc 13) 24 = some (1, 5, b) := ⟨_, rfl⟩
theorem dk_13_38 : decode (tb_mb 13) 38 = .ok (.lconst 1, 1) := by decide +kernel
theorem dk_13_39 : decode (tb_mb 13) 39 = .ok (.ladd, 1) := by decide +kernel
theorem dk_13_40 : decode (tb_mb 13) 40 = .ok (.putfield 24, 3) := by decide +kernel
theorem f_13_40 : ∃ b, tb_fr (tb_oc 13) 24 = some (1, 5, b) ∧ xm_fin tb_cl (tb_ini 13) b 1 5 = true := ⟨_, rfl, rfl⟩
theorem dk_13_43 : decode (tb_mb 13) 43 = .ok (.aload_n 0, 1) := by decide +kernel
theorem dk_13_44 : decode (tb_mb 13) 44 = .ok (.getfield 35, 3) := by decide +kernel
theorem f_13_44 : ∃ b, tb_fr (tb_oc 13) 35 = some (1, 0, b) := ⟨_, rfl⟩
theorem dk_13_47 : decode (tb_mb 13) 47 = .ok (.getfield 49, 3) := by decide +kernel
theorem f_13_47 : ∃ b, tb_fr (tb_oc 13) 49 = some (7, 6, b) := ⟨_, rfl⟩
theorem dk_13_50 : decode (tb_mb 13) 50 = .ok (.ineg, 1) := by decide +kernel
theorem dk_13_51 : decode (tb_mb 13) 51 = .ok (.ireturn, 1) := by decide +kernel
def b_13_0 (p : Nat) (I : dI) (J : dJ) : Option (Int32 × dI × dJ) := (m_14 (p + 1) I J).bind (fun r1 => lt_ (sJ r1.2.2 p 3 r1.1) (fun J3 => lt_ (sJ J3 p 6 (Int32.toInt64 (r1.2.1 (p + 1) 5))) (fun J4 => if (r1.2.1 (p + 1) 6) = 0 then (if ¬ (lg_cmp (J4 p 3) 0) = 0 then (if (r1.2.1 p 2) ≤ 0 then (lt_ (sJ J4 p 4 ((J4 p 4) + 1)) (fun J8 => some (1, r1.2.1, J8))) else (lt_ (sI r1.2.1 p 2 ((r1.2.1 p 2) - 1)) (fun I9 => some (0, I9, J4)))) else (some (0, r1.2.1, J4))) else (lt_ (sJ J4 p 5 ((J4 p 5) + 1)) (fun J10 => some ((-(r1.2.1 (p + 1) 6)), r1.2.1, J10))))))
theorem p_13_0 {Q : Nat → Option Nat} {D : Nat} {p : Nat} (hD : 127 ≤ D) (okp : okC p) (I : dI) (J : dJ) (R : (Int32 × dI × dJ)) (h : b_13_0 p I J = some R) : Rn Q D 13 0 [(0, .ref p)] [] I J (some (.int R.1)) R.2.1 R.2.2 := by
  replace h : ((m_14 (p + 1) I J).bind (fun r1 => lt_ (sJ r1.2.2 p 3 r1.1) (fun J3 => lt_ (sJ J3 p 6 (Int32.toInt64 (r1.2.1 (p + 1) 5))) (fun J4 => if (r1.2.1 (p + 1) 6) = 0 then (if ¬ (lg_cmp (J4 p 3) 0) = 0 then (if (r1.2.1 p 2) ≤ 0 then (lt_ (sJ J4 p 4 ((J4 p 4) + 1)) (fun J8 => some (1, r1.2.1, J8))) else (lt_ (sI r1.2.1 p 2 ((r1.2.1 p 2) - 1)) (fun I9 => some (0, I9, J4)))) else (some (0, r1.2.1, J4))) else (lt_ (sJ J4 p 5 ((J4 p 5) + 1)) (fun J10 => some ((-(r1.2.1 (p + 1) 6)), r1.2.1, J10))))))) = some R := h
  refine Rn.pu (st' := [.ref p]) dk_13_0 L_13 rfl ?_
  refine Rn.pu (st' := [.ref p, .ref p]) dk_13_1 L_13 rfl ?_
  refine Rn.gR (r := (p + 1)) dk_13_2 f_13_2.choose_spec okp.1 rfl ?_
  obtain ⟨r1, e2, h⟩ := bindS h
  refine Rn.cvJ (p := (p + 1)) (As := []) (rest := [.ref p]) dk_13_5 ck_13_5.choose_spec rfl okp.2.1 rfl (x_14 (Nat.le_trans (Nat.le_of_ble_eq_true rfl) hD) okp.2 e2) ?_
  obtain ⟨J3, eJ3, h⟩ := letS h
  refine Rn.pJ dk_13_8 f_13_8.choose_spec.1 okp.1 rfl f_13_8.choose_spec.2 rfl rfl ?_
  rw [← eJ3]
  refine Rn.pu (st' := [.ref p]) dk_13_11 L_13 rfl ?_
  refine Rn.pu (st' := [.ref p, .ref p]) dk_13_12 L_13 rfl ?_
  refine Rn.gR (r := (p + 1)) dk_13_13 f_13_13.choose_spec okp.1 rfl ?_
  refine Rn.gI dk_13_16 f_13_16.choose_spec okp.2.1 rfl ?_
  refine Rn.pu (st' := [.long (Int32.toInt64 (r1.2.1 (p + 1) 5)), .ref p]) dk_13_19 L_13 rfl ?_
  obtain ⟨J4, eJ4, h⟩ := letS h
  refine Rn.pJ dk_13_20 f_13_20.choose_spec.1 okp.1 rfl f_13_20.choose_spec.2 rfl rfl ?_
  rw [← eJ4]
  refine Rn.pu (st' := [.ref p]) dk_13_23 L_13 rfl ?_
  refine Rn.gR (r := (p + 1)) dk_13_24 f_13_24.choose_spec okp.1 rfl ?_
  refine Rn.gI dk_13_27 f_13_27.choose_spec okp.2.1 rfl ?_
  by_cases c5 : (r1.2.1 (p + 1) 6) = 0
  · rw [if_pos c5] at h
    refine Rn.i1t (t := 52) dk_13_30 rfl (decide_eq_true c5) ?_
    refine Rn.pu (st' := [.ref p]) dk_13_52 L_13 rfl ?_
    refine Rn.gJ dk_13_53 f_13_53.choose_spec okp.1 rfl ?_
    refine Rn.lc dk_13_56 clc_0 ?_
    refine Rn.pu (st' := [.int (lg_cmp (J4 p 3) 0)]) dk_13_57 L_13 rfl ?_
    by_cases c6 : ¬ (lg_cmp (J4 p 3) 0) = 0
    · rw [if_pos c6] at h
      refine Rn.i1t (t := 63) dk_13_58 rfl (decide_eq_true c6) ?_
      refine Rn.pu (st' := [.ref p]) dk_13_63 L_13 rfl ?_
      refine Rn.gI dk_13_64 f_13_64.choose_spec okp.1 rfl ?_
      by_cases c7 : (r1.2.1 p 2) ≤ 0
      · rw [if_pos c7] at h
        refine Rn.i1t (t := 82) dk_13_67 rfl (decide_eq_true c7) ?_
        refine Rn.pu (st' := [.ref p]) dk_13_82 L_13 rfl ?_
        refine Rn.pu (st' := [.ref p, .ref p]) dk_13_83 L_13 rfl ?_
        refine Rn.gJ dk_13_84 f_13_84.choose_spec okp.1 rfl ?_
        refine Rn.lc dk_13_87 clc_1 ?_
        refine Rn.pu (st' := [.long ((J4 p 4) + 1), .ref p]) dk_13_88 L_13 rfl ?_
        obtain ⟨J8, eJ8, h⟩ := letS h
        refine Rn.pJ dk_13_89 f_13_89.choose_spec.1 okp.1 rfl f_13_89.choose_spec.2 rfl rfl ?_
        rw [← eJ8]
        refine Rn.ic dk_13_92 cic_1 ?_
        cases h
        exact Rn.ri dk_13_93 R_13 rfl
      · rw [if_neg c7] at h
        refine Rn.i1f (t := 82) dk_13_67 rfl (decide_eq_false c7) ?_
        refine Rn.pu (st' := [.ref p]) dk_13_70 L_13 rfl ?_
        refine Rn.pu (st' := [.ref p, .ref p]) dk_13_71 L_13 rfl ?_
        refine Rn.gI dk_13_72 f_13_72.choose_spec okp.1 rfl ?_
        refine Rn.ic dk_13_75 cic_1 ?_
        refine Rn.pu (st' := [.int ((r1.2.1 p 2) - 1), .ref p]) dk_13_76 L_13 rfl ?_
        obtain ⟨I9, eI9, h⟩ := letS h
        refine Rn.pI dk_13_77 f_13_77.choose_spec.1 okp.1 rfl f_13_77.choose_spec.2 rfl rfl ?_
        rw [← eI9]
        refine Rn.ic dk_13_80 cic_0 ?_
        cases h
        exact Rn.ri dk_13_81 R_13 rfl
    · rw [if_neg c6] at h
      refine Rn.i1f (t := 63) dk_13_58 rfl (decide_eq_false c6) ?_
      refine Rn.ic dk_13_61 cic_0 ?_
      cases h
      exact Rn.ri dk_13_62 R_13 rfl
  · rw [if_neg c5] at h
    refine Rn.i1f (t := 52) dk_13_30 rfl (decide_eq_false c5) ?_
    refine Rn.pu (st' := [.ref p]) dk_13_33 L_13 rfl ?_
    refine Rn.pu (st' := [.ref p, .ref p]) dk_13_34 L_13 rfl ?_
    refine Rn.gJ dk_13_35 f_13_35.choose_spec okp.1 rfl ?_
    refine Rn.lc dk_13_38 clc_1 ?_
    refine Rn.pu (st' := [.long ((J4 p 5) + 1), .ref p]) dk_13_39 L_13 rfl ?_
    obtain ⟨J10, eJ10, h⟩ := letS h
    refine Rn.pJ dk_13_40 f_13_40.choose_spec.1 okp.1 rfl f_13_40.choose_spec.2 rfl rfl ?_
    rw [← eJ10]
    refine Rn.pu (st' := [.ref p]) dk_13_43 L_13 rfl ?_
    refine Rn.gR (r := (p + 1)) dk_13_44 f_13_44.choose_spec okp.1 rfl ?_
    refine Rn.gI dk_13_47 f_13_47.choose_spec okp.2.1 rfl ?_
    refine Rn.pu (st' := [.int (-(r1.2.1 (p + 1) 6))]) dk_13_50 L_13 rfl ?_
    cases h
    exact Rn.ri dk_13_51 R_13 rfl
def m_13 (p : Nat) (I : dI) (J : dJ) : Option (Int32 × dI × dJ) := b_13_0 p I J
theorem x_13 {Q : Nat → Option Nat} {D : Nat} {p : Nat} (hD : 128 ≤ D) (okp : okC p) {I : dI} {J : dJ} {R : (Int32 × dI × dJ)} (h : m_13 p I J = some R) : Ex Q D 13 I J [.ref p] (some (.int R.1)) R.2.1 R.2.2 := by
  obtain ⟨D, rfl⟩ : ∃ D', D = D' + 1 := ⟨D - 1, by omega⟩
  exact Ex.of (by decide) (by rw [L_13]; exact Nat.le_of_ble_eq_true rfl) (show xm_sub [(0, .ref p)] [(0, .ref p)] from xm_sub_of [0] [0] rfl rfl (by decide)) (p_13_0 (Nat.le_of_succ_le_succ hD) okp _ _ _ h)
-- ConditionDesk.askAll()I
theorem L_12 : tb_mL 12 = 4 := by decide +kernel
theorem R_12 : tb_mr 12 = some .int := by decide +kernel
theorem dk_12_0 : decode (tb_mb 12) 0 = .ok (.iconst (0), 1) := by decide +kernel
theorem dk_12_1 : decode (tb_mb 12) 1 = .ok (.istore_n 1, 1) := by decide +kernel
theorem dk_12_2 : decode (tb_mb 12) 2 = .ok (.iconst (0), 1) := by decide +kernel
theorem dk_12_3 : decode (tb_mb 12) 3 = .ok (.istore_n 2, 1) := by decide +kernel
theorem dk_12_4 : decode (tb_mb 12) 4 = .ok (.iload_n 2, 1) := by decide +kernel
theorem dk_12_5 : decode (tb_mb 12) 5 = .ok (.aload_n 0, 1) := by decide +kernel
theorem dk_12_6 : decode (tb_mb 12) 6 = .ok (.getfield 34, 3) := by decide +kernel
theorem f_12_6 : ∃ b, tb_fr (tb_oc 12) 34 = some (8, 3, b) := ⟨_, rfl⟩
theorem dk_12_9 : decode (tb_mb 12) 9 = .ok (.arraylength, 1) := by decide +kernel
theorem dk_12_10 : decode (tb_mb 12) 10 = .ok (.if_icmp .ge (58), 3) := by decide +kernel
theorem dk_12_68 : decode (tb_mb 12) 68 = .ok (.iload_n 1, 1) := by decide +kernel
theorem dk_12_69 : decode (tb_mb 12) 69 = .ok (.ireturn, 1) := by decide +kernel
theorem dk_12_13 : decode (tb_mb 12) 13 = .ok (.aload_n 0, 1) := by decide +kernel
theorem dk_12_14 : decode (tb_mb 12) 14 = .ok (.getfield 34, 3) := by decide +kernel
theorem f_12_14 : ∃ b, tb_fr (tb_oc 12) 34 = some (8, 3, b) := ⟨_, rfl⟩
theorem dk_12_17 : decode (tb_mb 12) 17 = .ok (.iload_n 2, 1) := by decide +kernel
theorem dk_12_18 : decode (tb_mb 12) 18 = .ok (.aaload, 1) := by decide +kernel
theorem dk_12_19 : decode (tb_mb 12) 19 = .ok (.astore_n 3, 1) := by decide +kernel
theorem dk_12_20 : decode (tb_mb 12) 20 = .ok (.aload_n 3, 1) := by decide +kernel
theorem dk_12_21 : decode (tb_mb 12) 21 = .ok (.ifnull (41), 3) := by decide +kernel
theorem dk_12_24 : decode (tb_mb 12) 24 = .ok (.aload_n 3, 1) := by decide +kernel
theorem dk_12_25 : decode (tb_mb 12) 25 = .ok (.getfield 75, 3) := by decide +kernel
theorem f_12_25 : ∃ b, tb_fr (tb_oc 12) 75 = some (1, 1, b) := ⟨_, rfl⟩
theorem dk_12_28 : decode (tb_mb 12) 28 = .ok (.ifCond .eq (34), 3) := by decide +kernel
theorem dk_12_62 : decode (tb_mb 12) 62 = .ok (.iinc 2 (1), 3) := by decide +kernel
theorem dk_12_65 : decode (tb_mb 12) 65 = .ok (.goto (-61), 3) := by decide +kernel
theorem dk_12_31 : decode (tb_mb 12) 31 = .ok (.iload_n 1, 1) := by decide +kernel
theorem dk_12_32 : decode (tb_mb 12) 32 = .ok (.aload_n 3, 1) := by decide +kernel
theorem dk_12_33 : decode (tb_mb 12) 33 = .ok (.invokevirtual 104, 3) := by decide +kernel
theorem ck_12_33 : ∃ b, tb_cr (tb_oc 12) 104 = some (0, 13, b, 0) := ⟨_, rfl⟩
theorem dk_12_36 : decode (tb_mb 12) 36 = .ok (.iconst (1), 1) := by decide +kernel
theorem dk_12_37 : decode (tb_mb 12) 37 = .ok (.if_icmp .ne (9), 3) := by decide +kernel
theorem dk_12_46 : decode (tb_mb 12) 46 = .ok (.iconst (0), 1) := by decide +kernel
theorem dk_12_47 : decode (tb_mb 12) 47 = .ok (.ior, 1) := by decide +kernel
theorem dk_12_48 : decode (tb_mb 12) 48 = .ok (.istore_n 1, 1) := by decide +kernel
theorem dk_12_49 : decode (tb_mb 12) 49 = .ok (.aload_n 0, 1) := by decide +kernel
theorem dk_12_50 : decode (tb_mb 12) 50 = .ok (.dup, 1) := by decide +kernel
theorem dk_12_51 : decode (tb_mb 12) 51 = .ok (.getfield 41, 3) := by decide +kernel
theorem f_12_51 : ∃ b, tb_fr (tb_oc 12) 41 = some (8, 4, b) := ⟨_, rfl⟩
theorem dk_12_54 : decode (tb_mb 12) 54 = .ok (.aload_n 3, 1) := by decide +kernel
theorem dk_12_55 : decode (tb_mb 12) 55 = .ok (.getfield 107, 3) := by decide +kernel
theorem f_12_55 : ∃ b, tb_fr (tb_oc 12) 107 = some (1, 6, b) := ⟨_, rfl⟩
theorem dk_12_58 : decode (tb_mb 12) 58 = .ok (.ladd, 1) := by decide +kernel
theorem dk_12_59 : decode (tb_mb 12) 59 = .ok (.putfield 41, 3) := by decide +kernel
theorem f_12_59 : ∃ b, tb_fr (tb_oc 12) 41 = some (8, 4, b) ∧ xm_fin tb_cl (tb_ini 12) b 8 4 = true := ⟨_, rfl, rfl⟩
theorem dk_12_40 : decode (tb_mb 12) 40 = .ok (.iconst (1), 1) := by decide +kernel
theorem dk_12_41 : decode (tb_mb 12) 41 = .ok (.iload_n 2, 1) := by decide +kernel
theorem dk_12_42 : decode (tb_mb 12) 42 = .ok (.ishl, 1) := by decide +kernel
theorem dk_12_43 : decode (tb_mb 12) 43 = .ok (.goto (4), 3) := by decide +kernel
def b_12_62 (h4 : Int32 → Int32 → dI → dJ → Option (Int32 × dI × dJ)) (x1 : Int32) (x2 : Int32) (I : dI) (J : dJ) : Option (Int32 × dI × dJ) := h4 x1 (x2 + 1) I J
theorem p_12_62 {Q : Nat → Option Nat} {D : Nat} (hD : 128 ≤ D) (hQ : ∀ j, j < 8 → Q j = some (20 + 9 * j)) {h4 : Int32 → Int32 → dI → dJ → Option (Int32 × dI × dJ)} (H4 : ∀ (x1 : Int32) (x2 : Int32) (I : dI) (J : dJ) (R : (Int32 × dI × dJ)), h4 x1 x2 I J = some R → Rn Q D 12 4 [(0, .ref 0), (1, .int x1), (2, .int x2)] [] I J (some (.int R.1)) R.2.1 R.2.2) (x1 : Int32) (x2 : Int32) (I : dI) (J : dJ) (R : (Int32 × dI × dJ)) (h : b_12_62 h4 x1 x2 I J = some R) : Rn Q D 12 62 [(0, .ref 0), (1, .int x1), (2, .int x2)] [] I J (some (.int R.1)) R.2.1 R.2.2 := by
  replace h : (h4 x1 (x2 + 1) I J) = some R := h
  refine Rn.inc (ls' := [(2, .int (x2 + 1)), (0, .ref 0), (1, .int x1)]) dk_12_62 L_12 (by decide) cic_1 rfl rfl ?_
  refine Rn.gt (t := 4) dk_12_65 rfl ?_
  exact Rn.wk [1, 2, 0] rfl (H4 _ _ _ _ _ h)
def b_12_47 (c : Nat) (h4 : Int32 → Int32 → dI → dJ → Option (Int32 × dI × dJ)) (x2 : Int32) (s0 : Int32) (s1 : Int32) (I : dI) (J : dJ) : Option (Int32 × dI × dJ) := lt_ (sJ J 0 4 ((J 0 4) + (J c 6))) (fun J7 => b_12_62 h4 (s1 ||| s0) x2 I J7)
theorem p_12_47 {Q : Nat → Option Nat} {D : Nat} {c : Nat} (hD : 128 ≤ D) (hQ : ∀ j, j < 8 → Q j = some (20 + 9 * j)) (okc : okC c) {h4 : Int32 → Int32 → dI → dJ → Option (Int32 × dI × dJ)} (H4 : ∀ (x1 : Int32) (x2 : Int32) (I : dI) (J : dJ) (R : (Int32 × dI × dJ)), h4 x1 x2 I J = some R → Rn Q D 12 4 [(0, .ref 0), (1, .int x1), (2, .int x2)] [] I J (some (.int R.1)) R.2.1 R.2.2) (x2 : Int32) (s0 : Int32) (s1 : Int32) (I : dI) (J : dJ) (R : (Int32 × dI × dJ)) (h : b_12_47 c h4 x2 s0 s1 I J = some R) : Rn Q D 12 47 [(0, .ref 0), (2, .int x2), (3, .ref c)] [.int s0, .int s1] I J (some (.int R.1)) R.2.1 R.2.2 := by
  replace h : (lt_ (sJ J 0 4 ((J 0 4) + (J c 6))) (fun J7 => b_12_62 h4 (s1 ||| s0) x2 I J7)) = some R := h
  refine Rn.pu (st' := [.int (s1 ||| s0)]) dk_12_47 L_12 rfl ?_
  refine Rn.pu (ls' := [(1, .int (s1 ||| s0)), (0, .ref 0), (2, .int x2), (3, .ref c)]) (st' := []) dk_12_48 L_12 rfl ?_
  refine Rn.pu (st' := [.ref 0]) dk_12_49 L_12 rfl ?_
  refine Rn.pu (st' := [.ref 0, .ref 0]) dk_12_50 L_12 rfl ?_
  refine Rn.gJ dk_12_51 f_12_51.choose_spec sk_0 rfl ?_
  refine Rn.pu (st' := [.ref c, .long (J 0 4), .ref 0]) dk_12_54 L_12 rfl ?_
  refine Rn.gJ dk_12_55 f_12_55.choose_spec okc.1 rfl ?_
  refine Rn.pu (st' := [.long ((J 0 4) + (J c 6)), .ref 0]) dk_12_58 L_12 rfl ?_
  obtain ⟨J7, eJ7, h⟩ := letS h
  refine Rn.pJ dk_12_59 f_12_59.choose_spec.1 sk_0 rfl f_12_59.choose_spec.2 rfl rfl ?_
  rw [← eJ7]
  exact Rn.wk [1, 0, 2] rfl (p_12_62 hD hQ H4 _ _ _ _ _ h)
def b_12_4 : Nat → Int32 → Int32 → dI → dJ → Option (Int32 × dI × dJ)
  | 0, _, _, _, _ => none
  | n + 1, x1, x2, I, J => if (Int32.ofNat 8) ≤ x2 then (some (x1, I, J)) else (if ¬ (x2 < 0 ∨ 8 ≤ Int32.toNatClampNeg x2) then (if (I (20 + 9 * Int32.toNatClampNeg x2) 1) = 0 then (b_12_62 (b_12_4 n) x1 x2 I J) else ((m_13 (20 + 9 * Int32.toNatClampNeg x2) I J).bind (fun r4 => if ¬ r4.1 = 1 then (b_12_47 (20 + 9 * Int32.toNatClampNeg x2) (b_12_4 n) x2 0 x1 r4.2.1 r4.2.2) else (b_12_47 (20 + 9 * Int32.toNatClampNeg x2) (b_12_4 n) x2 (1 <<< (x2 &&& 31)) x1 r4.2.1 r4.2.2)))) else none)
theorem p_12_4 {Q : Nat → Option Nat} {D : Nat} (hD : 128 ≤ D) (hQ : ∀ j, j < 8 → Q j = some (20 + 9 * j)) : ∀ (n : Nat) (x1 : Int32) (x2 : Int32) (I : dI) (J : dJ) (R : (Int32 × dI × dJ)), b_12_4 n x1 x2 I J = some R → Rn Q D 12 4 [(0, .ref 0), (1, .int x1), (2, .int x2)] [] I J (some (.int R.1)) R.2.1 R.2.2 := by
  intro n
  induction n with
  | zero => intro x1 x2 I J R h; exact absurd h (by simp [b_12_4])
  | succ n ih =>
    intro x1 x2 I J R h
    replace h : (if (Int32.ofNat 8) ≤ x2 then (some (x1, I, J)) else (if ¬ (x2 < 0 ∨ 8 ≤ Int32.toNatClampNeg x2) then (if (I (20 + 9 * Int32.toNatClampNeg x2) 1) = 0 then (b_12_62 (b_12_4 n) x1 x2 I J) else ((m_13 (20 + 9 * Int32.toNatClampNeg x2) I J).bind (fun r4 => if ¬ r4.1 = 1 then (b_12_47 (20 + 9 * Int32.toNatClampNeg x2) (b_12_4 n) x2 0 x1 r4.2.1 r4.2.2) else (b_12_47 (20 + 9 * Int32.toNatClampNeg x2) (b_12_4 n) x2 (1 <<< (x2 &&& 31)) x1 r4.2.1 r4.2.2)))) else none)) = some R := h
    refine Rn.pu (st' := [.int x2]) dk_12_4 L_12 rfl ?_
    refine Rn.pu (st' := [.ref 0, .int x2]) dk_12_5 L_12 rfl ?_
    refine Rn.gR (r := 19) dk_12_6 f_12_6.choose_spec sk_0 rfl ?_
    refine Rn.alen dk_12_9 sk_19 (by decide) ?_
    by_cases c1 : (Int32.ofNat 8) ≤ x2
    · rw [if_pos c1] at h
      refine Rn.i2t (t := 68) dk_12_10 rfl (decide_eq_true c1) ?_
      refine Rn.pu (st' := [.int x1]) dk_12_68 L_12 rfl ?_
      cases h
      exact Rn.ri dk_12_69 R_12 rfl
    · rw [if_neg c1] at h
      refine Rn.i2f (t := 68) dk_12_10 rfl (decide_eq_false c1) ?_
      refine Rn.pu (st' := [.ref 0]) dk_12_13 L_12 rfl ?_
      refine Rn.gR (r := 19) dk_12_14 f_12_14.choose_spec sk_0 rfl ?_
      refine Rn.pu (st' := [.int x2, .ref 19]) dk_12_17 L_12 rfl ?_
      obtain ⟨c2, h⟩ := xm_if h
      refine Rn.aald hQ dk_12_18 c2 ?_
      refine Rn.pu (ls' := [(3, .ref (20 + 9 * Int32.toNatClampNeg x2)), (0, .ref 0), (1, .int x1), (2, .int x2)]) (st' := []) dk_12_19 L_12 rfl ?_
      refine Rn.pu (st' := [.ref (20 + 9 * Int32.toNatClampNeg x2)]) dk_12_20 L_12 rfl ?_
      refine Rn.sf (t := 62) (st' := []) dk_12_21 (fun _ _ => rfl) rfl ?_
      refine Rn.pu (st' := [.ref (20 + 9 * Int32.toNatClampNeg x2)]) dk_12_24 L_12 rfl ?_
      refine Rn.gI dk_12_25 f_12_25.choose_spec (ok_cj c2).1 rfl ?_
      by_cases c3 : (I (20 + 9 * Int32.toNatClampNeg x2) 1) = 0
      · rw [if_pos c3] at h
        refine Rn.i1t (t := 62) dk_12_28 rfl (decide_eq_true c3) ?_
        exact Rn.wk [1, 2, 3] rfl (p_12_62 hD hQ ih _ _ _ _ _ h)
      · rw [if_neg c3] at h
        refine Rn.i1f (t := 62) dk_12_28 rfl (decide_eq_false c3) ?_
        refine Rn.pu (st' := [.int x1]) dk_12_31 L_12 rfl ?_
        refine Rn.pu (st' := [.ref (20 + 9 * Int32.toNatClampNeg x2), .int x1]) dk_12_32 L_12 rfl ?_
        obtain ⟨r4, e5, h⟩ := bindS h
        refine Rn.cvI (p := (20 + 9 * Int32.toNatClampNeg x2)) (As := []) (rest := [.int x1]) dk_12_33 ck_12_33.choose_spec rfl (ok_cj c2).1 rfl (x_13 (Nat.le_trans (Nat.le_of_ble_eq_true rfl) hD) (ok_cj c2) e5) ?_
        refine Rn.ic dk_12_36 cic_1 ?_
        by_cases c6 : ¬ r4.1 = 1
        · rw [if_pos c6] at h
          refine Rn.i2t (t := 46) dk_12_37 rfl (decide_eq_true c6) ?_
          refine Rn.ic dk_12_46 cic_0 ?_
          exact Rn.wk [1, 3, 0] rfl (p_12_47 hD hQ (ok_cj c2) ih _ _ _ _ _ _ h)
        · rw [if_neg c6] at h
          refine Rn.i2f (t := 46) dk_12_37 rfl (decide_eq_false c6) ?_
          refine Rn.ic dk_12_40 cic_1 ?_
          refine Rn.pu (st' := [.int x2, .int 1, .int x1]) dk_12_41 L_12 rfl ?_
          refine Rn.pu (st' := [.int (1 <<< (x2 &&& 31)), .int x1]) dk_12_42 L_12 rfl ?_
          refine Rn.gt (t := 47) dk_12_43 rfl ?_
          exact Rn.wk [1, 3, 0] rfl (p_12_47 hD hQ (ok_cj c2) ih _ _ _ _ _ _ h)
def b_12_0 (I : dI) (J : dJ) : Option (Int32 × dI × dJ) := b_12_4 FU 0 0 I J
theorem p_12_0 {Q : Nat → Option Nat} {D : Nat} (hD : 128 ≤ D) (hQ : ∀ j, j < 8 → Q j = some (20 + 9 * j)) (I : dI) (J : dJ) (R : (Int32 × dI × dJ)) (h : b_12_0 I J = some R) : Rn Q D 12 0 [(0, .ref 0)] [] I J (some (.int R.1)) R.2.1 R.2.2 := by
  replace h : (b_12_4 FU 0 0 I J) = some R := h
  refine Rn.ic dk_12_0 cic_0 ?_
  refine Rn.pu (ls' := [(1, .int 0), (0, .ref 0)]) (st' := []) dk_12_1 L_12 rfl ?_
  refine Rn.ic dk_12_2 cic_0 ?_
  refine Rn.pu (ls' := [(2, .int 0), (1, .int 0), (0, .ref 0)]) (st' := []) dk_12_3 L_12 rfl ?_
  exact Rn.wk [2, 1, 0] rfl (p_12_4 hD hQ FU _ _ _ _ _ h)
def m_12 (I : dI) (J : dJ) : Option (Int32 × dI × dJ) := b_12_0 I J
theorem x_12 {Q : Nat → Option Nat} {D : Nat} (hD : 129 ≤ D) (hQ : ∀ j, j < 8 → Q j = some (20 + 9 * j)) {I : dI} {J : dJ} {R : (Int32 × dI × dJ)} (h : m_12 I J = some R) : Ex Q D 12 I J [.ref 0] (some (.int R.1)) R.2.1 R.2.2 := by
  obtain ⟨D, rfl⟩ : ∃ D', D = D' + 1 := ⟨D - 1, by omega⟩
  exact Ex.of (by decide) (by rw [L_12]; exact Nat.le_of_ble_eq_true rfl) (show xm_sub [(0, .ref 0)] [(0, .ref 0)] from xm_sub_of [0] [0] rfl rfl (by decide)) (p_12_0 (Nat.le_of_succ_le_succ hD) hQ _ _ _ h)
-- ConditionDesk.conditionsThere()I
theorem L_38 : tb_mL 38 = 4 := by decide +kernel
theorem R_38 : tb_mr 38 = some .int := by decide +kernel
theorem dk_38_0 : decode (tb_mb 38) 0 = .ok (.iconst (0), 1) := by decide +kernel
theorem dk_38_1 : decode (tb_mb 38) 1 = .ok (.istore_n 1, 1) := by decide +kernel
theorem dk_38_2 : decode (tb_mb 38) 2 = .ok (.iconst (0), 1) := by decide +kernel
theorem dk_38_3 : decode (tb_mb 38) 3 = .ok (.istore_n 2, 1) := by decide +kernel
theorem dk_38_4 : decode (tb_mb 38) 4 = .ok (.iload_n 2, 1) := by decide +kernel
theorem dk_38_5 : decode (tb_mb 38) 5 = .ok (.aload_n 0, 1) := by decide +kernel
theorem dk_38_6 : decode (tb_mb 38) 6 = .ok (.getfield 34, 3) := by decide +kernel
theorem f_38_6 : ∃ b, tb_fr (tb_oc 38) 34 = some (8, 3, b) := ⟨_, rfl⟩
theorem dk_38_9 : decode (tb_mb 38) 9 = .ok (.arraylength, 1) := by decide +kernel
theorem dk_38_10 : decode (tb_mb 38) 10 = .ok (.if_icmp .ge (30), 3) := by decide +kernel
theorem dk_38_40 : decode (tb_mb 38) 40 = .ok (.iload_n 1, 1) := by decide +kernel
theorem dk_38_41 : decode (tb_mb 38) 41 = .ok (.ireturn, 1) := by decide +kernel
theorem dk_38_13 : decode (tb_mb 38) 13 = .ok (.aload_n 0, 1) := by decide +kernel
theorem dk_38_14 : decode (tb_mb 38) 14 = .ok (.getfield 34, 3) := by decide +kernel
theorem f_38_14 : ∃ b, tb_fr (tb_oc 38) 34 = some (8, 3, b) := ⟨_, rfl⟩
theorem dk_38_17 : decode (tb_mb 38) 17 = .ok (.iload_n 2, 1) := by decide +kernel
theorem dk_38_18 : decode (tb_mb 38) 18 = .ok (.aaload, 1) := by decide +kernel
theorem dk_38_19 : decode (tb_mb 38) 19 = .ok (.astore_n 3, 1) := by decide +kernel
theorem dk_38_20 : decode (tb_mb 38) 20 = .ok (.aload_n 3, 1) := by decide +kernel
theorem dk_38_21 : decode (tb_mb 38) 21 = .ok (.ifnull (13), 3) := by decide +kernel
theorem dk_38_24 : decode (tb_mb 38) 24 = .ok (.aload_n 3, 1) := by decide +kernel
theorem dk_38_25 : decode (tb_mb 38) 25 = .ok (.getfield 75, 3) := by decide +kernel
theorem f_38_25 : ∃ b, tb_fr (tb_oc 38) 75 = some (1, 1, b) := ⟨_, rfl⟩
theorem dk_38_28 : decode (tb_mb 38) 28 = .ok (.ifCond .eq (6), 3) := by decide +kernel
theorem dk_38_34 : decode (tb_mb 38) 34 = .ok (.iinc 2 (1), 3) := by decide +kernel
theorem dk_38_37 : decode (tb_mb 38) 37 = .ok (.goto (-33), 3) := by decide +kernel
theorem dk_38_31 : decode (tb_mb 38) 31 = .ok (.iinc 1 (1), 3) := by decide +kernel
def b_38_34 (h4 : Int32 → Int32 → dI → dJ → Option Int32) (x1 : Int32) (x2 : Int32) (I : dI) (J : dJ) : Option Int32 := h4 x1 (x2 + 1) I J
theorem p_38_34 {Q : Nat → Option Nat} {D : Nat} (hD : 1 ≤ D) (hQ : ∀ j, j < 8 → Q j = some (20 + 9 * j)) {h4 : Int32 → Int32 → dI → dJ → Option Int32} (H4 : ∀ (x1 : Int32) (x2 : Int32) (I : dI) (J : dJ) (R : Int32), h4 x1 x2 I J = some R → Rn Q D 38 4 [(0, .ref 0), (1, .int x1), (2, .int x2)] [] I J (some (.int R)) I J) (x1 : Int32) (x2 : Int32) (I : dI) (J : dJ) (R : Int32) (h : b_38_34 h4 x1 x2 I J = some R) : Rn Q D 38 34 [(0, .ref 0), (1, .int x1), (2, .int x2)] [] I J (some (.int R)) I J := by
  replace h : (h4 x1 (x2 + 1) I J) = some R := h
  refine Rn.inc (ls' := [(2, .int (x2 + 1)), (0, .ref 0), (1, .int x1)]) dk_38_34 L_38 (by decide) cic_1 rfl rfl ?_
  refine Rn.gt (t := 4) dk_38_37 rfl ?_
  exact Rn.wk [1, 2, 0] rfl (H4 _ _ _ _ _ h)
def b_38_4 : Nat → Int32 → Int32 → dI → dJ → Option Int32
  | 0, _, _, _, _ => none
  | n + 1, x1, x2, I, J => if (Int32.ofNat 8) ≤ x2 then (some x1) else (if ¬ (x2 < 0 ∨ 8 ≤ Int32.toNatClampNeg x2) then (if (I (20 + 9 * Int32.toNatClampNeg x2) 1) = 0 then (b_38_34 (b_38_4 n) x1 x2 I J) else (b_38_34 (b_38_4 n) (x1 + 1) x2 I J)) else none)
theorem p_38_4 {Q : Nat → Option Nat} {D : Nat} (hD : 1 ≤ D) (hQ : ∀ j, j < 8 → Q j = some (20 + 9 * j)) : ∀ (n : Nat) (x1 : Int32) (x2 : Int32) (I : dI) (J : dJ) (R : Int32), b_38_4 n x1 x2 I J = some R → Rn Q D 38 4 [(0, .ref 0), (1, .int x1), (2, .int x2)] [] I J (some (.int R)) I J := by
  intro n
  induction n with
  | zero => intro x1 x2 I J R h; exact absurd h (by simp [b_38_4])
  | succ n ih =>
    intro x1 x2 I J R h
    replace h : (if (Int32.ofNat 8) ≤ x2 then (some x1) else (if ¬ (x2 < 0 ∨ 8 ≤ Int32.toNatClampNeg x2) then (if (I (20 + 9 * Int32.toNatClampNeg x2) 1) = 0 then (b_38_34 (b_38_4 n) x1 x2 I J) else (b_38_34 (b_38_4 n) (x1 + 1) x2 I J)) else none)) = some R := h
    refine Rn.pu (st' := [.int x2]) dk_38_4 L_38 rfl ?_
    refine Rn.pu (st' := [.ref 0, .int x2]) dk_38_5 L_38 rfl ?_
    refine Rn.gR (r := 19) dk_38_6 f_38_6.choose_spec sk_0 rfl ?_
    refine Rn.alen dk_38_9 sk_19 (by decide) ?_
    by_cases c1 : (Int32.ofNat 8) ≤ x2
    · rw [if_pos c1] at h
      refine Rn.i2t (t := 40) dk_38_10 rfl (decide_eq_true c1) ?_
      refine Rn.pu (st' := [.int x1]) dk_38_40 L_38 rfl ?_
      cases h
      exact Rn.ri dk_38_41 R_38 rfl
    · rw [if_neg c1] at h
      refine Rn.i2f (t := 40) dk_38_10 rfl (decide_eq_false c1) ?_
      refine Rn.pu (st' := [.ref 0]) dk_38_13 L_38 rfl ?_
      refine Rn.gR (r := 19) dk_38_14 f_38_14.choose_spec sk_0 rfl ?_
      refine Rn.pu (st' := [.int x2, .ref 19]) dk_38_17 L_38 rfl ?_
      obtain ⟨c2, h⟩ := xm_if h
      refine Rn.aald hQ dk_38_18 c2 ?_
      refine Rn.pu (ls' := [(3, .ref (20 + 9 * Int32.toNatClampNeg x2)), (0, .ref 0), (1, .int x1), (2, .int x2)]) (st' := []) dk_38_19 L_38 rfl ?_
      refine Rn.pu (st' := [.ref (20 + 9 * Int32.toNatClampNeg x2)]) dk_38_20 L_38 rfl ?_
      refine Rn.sf (t := 34) (st' := []) dk_38_21 (fun _ _ => rfl) rfl ?_
      refine Rn.pu (st' := [.ref (20 + 9 * Int32.toNatClampNeg x2)]) dk_38_24 L_38 rfl ?_
      refine Rn.gI dk_38_25 f_38_25.choose_spec (ok_cj c2).1 rfl ?_
      by_cases c3 : (I (20 + 9 * Int32.toNatClampNeg x2) 1) = 0
      · rw [if_pos c3] at h
        refine Rn.i1t (t := 34) dk_38_28 rfl (decide_eq_true c3) ?_
        exact Rn.wk [1, 2, 3] rfl (p_38_34 hD hQ ih _ _ _ _ _ h)
      · rw [if_neg c3] at h
        refine Rn.i1f (t := 34) dk_38_28 rfl (decide_eq_false c3) ?_
        refine Rn.inc (ls' := [(1, .int (x1 + 1)), (3, .ref (20 + 9 * Int32.toNatClampNeg x2)), (0, .ref 0), (2, .int x2)]) dk_38_31 L_38 (by decide) cic_1 rfl rfl ?_
        exact Rn.wk [2, 0, 3] rfl (p_38_34 hD hQ ih _ _ _ _ _ h)
def b_38_0 (I : dI) (J : dJ) : Option Int32 := b_38_4 FU 0 0 I J
theorem p_38_0 {Q : Nat → Option Nat} {D : Nat} (hD : 1 ≤ D) (hQ : ∀ j, j < 8 → Q j = some (20 + 9 * j)) (I : dI) (J : dJ) (R : Int32) (h : b_38_0 I J = some R) : Rn Q D 38 0 [(0, .ref 0)] [] I J (some (.int R)) I J := by
  replace h : (b_38_4 FU 0 0 I J) = some R := h
  refine Rn.ic dk_38_0 cic_0 ?_
  refine Rn.pu (ls' := [(1, .int 0), (0, .ref 0)]) (st' := []) dk_38_1 L_38 rfl ?_
  refine Rn.ic dk_38_2 cic_0 ?_
  refine Rn.pu (ls' := [(2, .int 0), (1, .int 0), (0, .ref 0)]) (st' := []) dk_38_3 L_38 rfl ?_
  exact Rn.wk [2, 1, 0] rfl (p_38_4 hD hQ FU _ _ _ _ _ h)
def m_38 (I : dI) (J : dJ) : Option Int32 := b_38_0 I J
theorem x_38 {Q : Nat → Option Nat} {D : Nat} (hD : 2 ≤ D) (hQ : ∀ j, j < 8 → Q j = some (20 + 9 * j)) {I : dI} {J : dJ} {R : Int32} (h : m_38 I J = some R) : Ex Q D 38 I J [.ref 0] (some (.int R)) I J := by
  obtain ⟨D, rfl⟩ : ∃ D', D = D' + 1 := ⟨D - 1, by omega⟩
  exact Ex.of (by decide) (by rw [L_38]; exact Nat.le_of_ble_eq_true rfl) (show xm_sub [(0, .ref 0)] [(0, .ref 0)] from xm_sub_of [0] [0] rfl rfl (by decide)) (p_38_0 (Nat.le_of_succ_le_succ hD) hQ _ _ _ h)
-- ConditionDesk.count(I)J
theorem L_37 : tb_mL 37 = 2 := by decide +kernel
theorem R_37 : tb_mr 37 = some .long := by decide +kernel
theorem dk_37_0 : decode (tb_mb 37) 0 = .ok (.iload_n 1, 1) := by decide +kernel
theorem dk_37_1 : decode (tb_mb 37) 1 = .ok (.tableswitch (47) 0 2 #[27, 36, 42], 27) := by decide +kernel
theorem dk_37_28 : decode (tb_mb 37) 28 = .ok (.aload_n 0, 1) := by decide +kernel
theorem dk_37_29 : decode (tb_mb 37) 29 = .ok (.getfield 10, 3) := by decide +kernel
theorem f_37_29 : ∃ b, tb_fr (tb_oc 37) 10 = some (8, 0, b) := ⟨_, rfl⟩
theorem dk_37_32 : decode (tb_mb 37) 32 = .ok (.getfield 116, 3) := by decide +kernel
theorem f_37_32 : ∃ b, tb_fr (tb_oc 37) 116 = some (5, 1, b) := ⟨_, rfl⟩
theorem dk_37_35 : decode (tb_mb 37) 35 = .ok (.i2l, 1) := by decide +kernel
theorem dk_37_36 : decode (tb_mb 37) 36 = .ok (.lreturn, 1) := by decide +kernel
theorem dk_37_37 : decode (tb_mb 37) 37 = .ok (.aload_n 0, 1) := by decide +kernel
theorem dk_37_38 : decode (tb_mb 37) 38 = .ok (.invokevirtual 119, 3) := by decide +kernel
theorem ck_37_38 : ∃ b, tb_cr (tb_oc 37) 119 = some (0, 38, b, 0) := ⟨_, rfl⟩
theorem dk_37_41 : decode (tb_mb 37) 41 = .ok (.i2l, 1) := by decide +kernel
theorem dk_37_42 : decode (tb_mb 37) 42 = .ok (.lreturn, 1) := by decide +kernel
theorem dk_37_43 : decode (tb_mb 37) 43 = .ok (.aload_n 0, 1) := by decide +kernel
theorem dk_37_44 : decode (tb_mb 37) 44 = .ok (.getfield 41, 3) := by decide +kernel
theorem f_37_44 : ∃ b, tb_fr (tb_oc 37) 41 = some (8, 4, b) := ⟨_, rfl⟩
theorem dk_37_47 : decode (tb_mb 37) 47 = .ok (.lreturn, 1) := by decide +kernel
theorem dk_37_48 : decode (tb_mb 37) 48 = .ok (.ldc2_w 122, 3) := by decide +kernel
theorem kl_37_48 : tb_kl (tb_oc 37) 122 = some (-1) := by decide +kernel
theorem dk_37_51 : decode (tb_mb 37) 51 = .ok (.lreturn, 1) := by decide +kernel
def b_37_0 (x1 : Int32) (I : dI) (J : dJ) : Option Int64 := if x1 = 0 then (some (Int32.toInt64 (I 1 1))) else if x1 = 1 then ((m_38 I J).bind (fun r3 => some (Int32.toInt64 r3))) else if x1 = 2 then (some (J 0 4)) else (some (-1))
theorem p_37_0 {Q : Nat → Option Nat} {D : Nat} (hD : 2 ≤ D) (hQ : ∀ j, j < 8 → Q j = some (20 + 9 * j)) (x1 : Int32) (I : dI) (J : dJ) (R : Int64) (h : b_37_0 x1 I J = some R) : Rn Q D 37 0 [(0, .ref 0), (1, .int x1)] [] I J (some (.long R)) I J := by
  replace h : (if x1 = 0 then (some (Int32.toInt64 (I 1 1))) else if x1 = 1 then ((m_38 I J).bind (fun r3 => some (Int32.toInt64 r3))) else if x1 = 2 then (some (J 0 4)) else (some (-1))) = some R := h
  refine Rn.pu (st' := [.int x1]) dk_37_0 L_37 rfl ?_
  by_cases c1 : x1 = 0
  · rw [if_pos c1] at h
    refine Rn.sw (t := 28) (st' := []) dk_37_1 (fun _ _ => rfl) (by rw [c1]; rfl) ?_
    refine Rn.pu (st' := [.ref 0]) dk_37_28 L_37 rfl ?_
    refine Rn.gR (r := 1) dk_37_29 f_37_29.choose_spec sk_0 rfl ?_
    refine Rn.gI dk_37_32 f_37_32.choose_spec sk_1 rfl ?_
    refine Rn.pu (st' := [.long (Int32.toInt64 (I 1 1))]) dk_37_35 L_37 rfl ?_
    cases h
    exact Rn.rl dk_37_36 R_37
  · rw [if_neg c1] at h
    by_cases c2 : x1 = 1
    · rw [if_pos c2] at h
      refine Rn.sw (t := 37) (st' := []) dk_37_1 (fun _ _ => rfl) (by rw [c2]; rfl) ?_
      refine Rn.pu (st' := [.ref 0]) dk_37_37 L_37 rfl ?_
      obtain ⟨r3, e4, h⟩ := bindS h
      refine Rn.cvI (p := 0) (As := []) (rest := []) dk_37_38 ck_37_38.choose_spec rfl sk_0 rfl (x_38 (Nat.le_trans (Nat.le_of_ble_eq_true rfl) hD) hQ e4) ?_
      refine Rn.pu (st' := [.long (Int32.toInt64 r3)]) dk_37_41 L_37 rfl ?_
      cases h
      exact Rn.rl dk_37_42 R_37
    · rw [if_neg c2] at h
      by_cases c5 : x1 = 2
      · rw [if_pos c5] at h
        refine Rn.sw (t := 43) (st' := []) dk_37_1 (fun _ _ => rfl) (by rw [c5]; rfl) ?_
        refine Rn.pu (st' := [.ref 0]) dk_37_43 L_37 rfl ?_
        refine Rn.gJ dk_37_44 f_37_44.choose_spec sk_0 rfl ?_
        cases h
        exact Rn.rl dk_37_47 R_37
      · rw [if_neg c5] at h
        have q0 : xm_br (.tableswitch (47) 0 2 #[27, 36, 42]) 27 1 (.int x1 :: []) = some (true, 48, []) := by
          have q1 := i_ne c1 (z := 0) rfl
          have q2 := i_ne c2 (z := 1) rfl
          have q3 := i_ne c5 (z := 2) rfl
          exact ts_def (by omega) rfl
        refine Rn.sw dk_37_1 (fun _ _ => rfl) q0 ?_
        refine Rn.ldl dk_37_48 kl_37_48 ?_
        cases h
        exact Rn.rl dk_37_51 R_37
def m_37 (x1 : Int32) (I : dI) (J : dJ) : Option Int64 := b_37_0 x1 I J
theorem x_37 {Q : Nat → Option Nat} {D : Nat} (hD : 3 ≤ D) (hQ : ∀ j, j < 8 → Q j = some (20 + 9 * j)) {x1 : Int32} {I : dI} {J : dJ} {R : Int64} (h : m_37 x1 I J = some R) : Ex Q D 37 I J [.ref 0, .int x1] (some (.long R)) I J := by
  obtain ⟨D, rfl⟩ : ∃ D', D = D' + 1 := ⟨D - 1, by omega⟩
  exact Ex.of (by decide) (by rw [L_37]; exact Nat.le_of_ble_eq_true rfl) (show xm_sub [(0, .ref 0), (1, .int x1)] [(0, .ref 0), (1, .int x1)] from xm_sub_of [0, 1] [0, 1] rfl rfl (by decide)) (p_37_0 (Nat.le_of_succ_le_succ hD) hQ _ _ _ _ h)
-- ConditionDesk.conditionAt(I)LConditionDesk$Condition;
theorem L_40 : tb_mL 40 = 2 := by decide +kernel
theorem R_40 : tb_mr 40 = some (.object "ConditionDesk$Condition") := by decide +kernel
theorem dk_40_0 : decode (tb_mb 40) 0 = .ok (.iload_n 1, 1) := by decide +kernel
theorem dk_40_1 : decode (tb_mb 40) 1 = .ok (.ifCond .lt (21), 3) := by decide +kernel
theorem dk_40_22 : decode (tb_mb 40) 22 = .ok (.aconst_null, 1) := by decide +kernel
theorem dk_40_23 : decode (tb_mb 40) 23 = .ok (.areturn, 1) := by decide +kernel
theorem dk_40_4 : decode (tb_mb 40) 4 = .ok (.iload_n 1, 1) := by decide +kernel
theorem dk_40_5 : decode (tb_mb 40) 5 = .ok (.aload_n 0, 1) := by decide +kernel
theorem dk_40_6 : decode (tb_mb 40) 6 = .ok (.getfield 34, 3) := by decide +kernel
theorem f_40_6 : ∃ b, tb_fr (tb_oc 40) 34 = some (8, 3, b) := ⟨_, rfl⟩
theorem dk_40_9 : decode (tb_mb 40) 9 = .ok (.arraylength, 1) := by decide +kernel
theorem dk_40_10 : decode (tb_mb 40) 10 = .ok (.if_icmp .ge (12), 3) := by decide +kernel
theorem dk_40_13 : decode (tb_mb 40) 13 = .ok (.aload_n 0, 1) := by decide +kernel
theorem dk_40_14 : decode (tb_mb 40) 14 = .ok (.getfield 34, 3) := by decide +kernel
theorem f_40_14 : ∃ b, tb_fr (tb_oc 40) 34 = some (8, 3, b) := ⟨_, rfl⟩
theorem dk_40_17 : decode (tb_mb 40) 17 = .ok (.iload_n 1, 1) := by decide +kernel
theorem dk_40_18 : decode (tb_mb 40) 18 = .ok (.aaload, 1) := by decide +kernel
theorem dk_40_19 : decode (tb_mb 40) 19 = .ok (.goto (4), 3) := by decide +kernel
def b_40_0 (x1 : Int32) (I : dI) (J : dJ) : Option (Option Nat) := if x1 < 0 then (some none) else (if (Int32.ofNat 8) ≤ x1 then (some none) else (if ¬ (x1 < 0 ∨ 8 ≤ Int32.toNatClampNeg x1) then (some (some (20 + 9 * Int32.toNatClampNeg x1))) else none))
theorem p_40_0 {Q : Nat → Option Nat} {D : Nat} (hD : 1 ≤ D) (hQ : ∀ j, j < 8 → Q j = some (20 + 9 * j)) (x1 : Int32) (I : dI) (J : dJ) (R : (Option Nat)) (h : b_40_0 x1 I J = some R) : Rn Q D 40 0 [(0, .ref 0), (1, .int x1)] [] I J (some (vA R)) I J := by
  replace h : (if x1 < 0 then (some none) else (if (Int32.ofNat 8) ≤ x1 then (some none) else (if ¬ (x1 < 0 ∨ 8 ≤ Int32.toNatClampNeg x1) then (some (some (20 + 9 * Int32.toNatClampNeg x1))) else none))) = some R := h
  refine Rn.pu (st' := [.int x1]) dk_40_0 L_40 rfl ?_
  by_cases c1 : x1 < 0
  · rw [if_pos c1] at h
    refine Rn.i1t (t := 22) dk_40_1 rfl (decide_eq_true c1) ?_
    refine Rn.pu (st' := [.null]) dk_40_22 L_40 rfl ?_
    cases h
    exact Rn.rn dk_40_23 R_40
  · rw [if_neg c1] at h
    refine Rn.i1f (t := 22) dk_40_1 rfl (decide_eq_false c1) ?_
    refine Rn.pu (st' := [.int x1]) dk_40_4 L_40 rfl ?_
    refine Rn.pu (st' := [.ref 0, .int x1]) dk_40_5 L_40 rfl ?_
    refine Rn.gR (r := 19) dk_40_6 f_40_6.choose_spec sk_0 rfl ?_
    refine Rn.alen dk_40_9 sk_19 (by decide) ?_
    by_cases c2 : (Int32.ofNat 8) ≤ x1
    · rw [if_pos c2] at h
      refine Rn.i2t (t := 22) dk_40_10 rfl (decide_eq_true c2) ?_
      refine Rn.pu (st' := [.null]) dk_40_22 L_40 rfl ?_
      cases h
      exact Rn.rn dk_40_23 R_40
    · rw [if_neg c2] at h
      refine Rn.i2f (t := 22) dk_40_10 rfl (decide_eq_false c2) ?_
      refine Rn.pu (st' := [.ref 0]) dk_40_13 L_40 rfl ?_
      refine Rn.gR (r := 19) dk_40_14 f_40_14.choose_spec sk_0 rfl ?_
      refine Rn.pu (st' := [.int x1, .ref 19]) dk_40_17 L_40 rfl ?_
      obtain ⟨c3, h⟩ := xm_if h
      refine Rn.aald hQ dk_40_18 c3 ?_
      refine Rn.gt (t := 23) dk_40_19 rfl ?_
      cases h
      exact Rn.ra dk_40_23 R_40
def m_40 (x1 : Int32) (I : dI) (J : dJ) : Option (Option Nat) := b_40_0 x1 I J
theorem x_40 {Q : Nat → Option Nat} {D : Nat} (hD : 2 ≤ D) (hQ : ∀ j, j < 8 → Q j = some (20 + 9 * j)) {x1 : Int32} {I : dI} {J : dJ} {R : (Option Nat)} (h : m_40 x1 I J = some R) : Ex Q D 40 I J [.ref 0, .int x1] (some (vA R)) I J := by
  obtain ⟨D, rfl⟩ : ∃ D', D = D' + 1 := ⟨D - 1, by omega⟩
  exact Ex.of (by decide) (by rw [L_40]; exact Nat.le_of_ble_eq_true rfl) (show xm_sub [(0, .ref 0), (1, .int x1)] [(0, .ref 0), (1, .int x1)] from xm_sub_of [0, 1] [0, 1] rfl rfl (by decide)) (p_40_0 (Nat.le_of_succ_le_succ hD) hQ _ _ _ _ h)
theorem ok_ca {x : Int32} {I : dI} {J : dJ} {c : Nat} (h : m_40 x I J = some (some c)) : okC c := by
  unfold m_40 b_40_0 at h
  repeat' split at h
  all_goals first | (cases h; apply ok_cj; assumption) | (cases h; done)
-- ConditionDesk$Tokens.restart()V
theorem L_43 : tb_mL 43 = 1 := by decide +kernel
theorem R_43 : tb_mr 43 = none := by decide +kernel
theorem dk_43_0 : decode (tb_mb 43) 0 = .ok (.aload_n 0, 1) := by decide +kernel
theorem dk_43_1 : decode (tb_mb 43) 1 = .ok (.iconst (0), 1) := by decide +kernel
theorem dk_43_2 : decode (tb_mb 43) 2 = .ok (.putfield 15, 3) := by decide +kernel
theorem f_43_2 : ∃ b, tb_fr (tb_oc 43) 15 = some (6, 2, b) ∧ xm_fin tb_cl (tb_ini 43) b 6 2 = true := ⟨_, rfl, rfl⟩
theorem dk_43_5 : decode (tb_mb 43) 5 = .ok (.return_, 1) := by decide +kernel
def b_43_0 (I : dI) (J : dJ) : Option (dI × dJ) := lt_ (sI I 18 2 0) (fun I1 => some (I1, J))
theorem p_43_0 {Q : Nat → Option Nat} {D : Nat} (hD : 1 ≤ D) (I : dI) (J : dJ) (R : (dI × dJ)) (h : b_43_0 I J = some R) : Rn Q D 43 0 [(0, .ref 18)] [] I J (none) R.1 R.2 := by
  replace h : (lt_ (sI I 18 2 0) (fun I1 => some (I1, J))) = some R := h
  refine Rn.pu (st' := [.ref 18]) dk_43_0 L_43 rfl ?_
  refine Rn.ic dk_43_1 cic_0 ?_
  obtain ⟨I1, eI1, h⟩ := letS h
  refine Rn.pI dk_43_2 f_43_2.choose_spec.1 sk_18 rfl f_43_2.choose_spec.2 rfl rfl ?_
  rw [← eI1]
  cases h
  exact Rn.rv dk_43_5 R_43
def m_43 (I : dI) (J : dJ) : Option (dI × dJ) := b_43_0 I J
theorem x_43 {Q : Nat → Option Nat} {D : Nat} (hD : 2 ≤ D) {I : dI} {J : dJ} {R : (dI × dJ)} (h : m_43 I J = some R) : Ex Q D 43 I J [.ref 18] (none) R.1 R.2 := by
  obtain ⟨D, rfl⟩ : ∃ D', D = D' + 1 := ⟨D - 1, by omega⟩
  exact Ex.of (by decide) (by rw [L_43]; exact Nat.le_of_ble_eq_true rfl) (show xm_sub [(0, .ref 18)] [(0, .ref 18)] from xm_sub_of [0] [0] rfl rfl (by decide)) (p_43_0 (Nat.le_of_succ_le_succ hD) _ _ _ h)
