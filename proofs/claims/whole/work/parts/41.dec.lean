/-! Printed by wip/whole/gen_dec.py: methods read back. -/
-- ConditionDesk$Worker.before(IJ)J
theorem L_28 : tb_mL 28 = 3 := by decide +kernel
theorem R_28 : tb_mr 28 = some .long := by decide +kernel
theorem dk_28_0 : decode (tb_mb 28) 0 = .ok (.iload_n 0, 1) := by decide +kernel
theorem dk_28_1 : decode (tb_mb 28) 1 = .ok (.lookupswitch (48) #[(14, 27), (15, 42)], 27) := by decide +kernel
theorem dk_28_28 : decode (tb_mb 28) 28 = .ok (.lload_n 1, 1) := by decide +kernel
theorem dk_28_29 : decode (tb_mb 28) 29 = .ok (.lconst 0, 1) := by decide +kernel
theorem dk_28_30 : decode (tb_mb 28) 30 = .ok (.lcmp, 1) := by decide +kernel
theorem dk_28_31 : decode (tb_mb 28) 31 = .ok (.ifCond .ne (7), 3) := by decide +kernel
theorem dk_28_38 : decode (tb_mb 28) 38 = .ok (.iconst (0), 1) := by decide +kernel
theorem dk_28_39 : decode (tb_mb 28) 39 = .ok (.invokestatic 104, 3) := by decide +kernel
theorem ck_28_39 : ∃ b, tb_cr (tb_oc 28) 104 = some (1, 23, b, 1) := ⟨_, rfl⟩
theorem dk_28_42 : decode (tb_mb 28) 42 = .ok (.lreturn, 1) := by decide +kernel
theorem dk_28_34 : decode (tb_mb 28) 34 = .ok (.iconst (1), 1) := by decide +kernel
theorem dk_28_35 : decode (tb_mb 28) 35 = .ok (.goto (4), 3) := by decide +kernel
theorem dk_28_43 : decode (tb_mb 28) 43 = .ok (.lload_n 1, 1) := by decide +kernel
theorem dk_28_44 : decode (tb_mb 28) 44 = .ok (.ldc2_w 136, 3) := by decide +kernel
theorem kl_28_44 : tb_kl (tb_oc 28) 136 = some (-1) := by decide +kernel
theorem dk_28_47 : decode (tb_mb 28) 47 = .ok (.lxor, 1) := by decide +kernel
theorem dk_28_48 : decode (tb_mb 28) 48 = .ok (.lreturn, 1) := by decide +kernel
theorem dk_28_49 : decode (tb_mb 28) 49 = .ok (.lload_n 1, 1) := by decide +kernel
theorem dk_28_50 : decode (tb_mb 28) 50 = .ok (.lneg, 1) := by decide +kernel
theorem dk_28_51 : decode (tb_mb 28) 51 = .ok (.lreturn, 1) := by decide +kernel
def b_28_39 (s0 : Int32) (I : dI) (J : dJ) : Option Int64 := (m_23 s0 I J).bind (fun r3 => some r3)
theorem p_28_39 {Q : Nat → Option Nat} {D : Nat} (hD : 2 ≤ D) (s0 : Int32) (I : dI) (J : dJ) (R : Int64) (h : b_28_39 s0 I J = some R) : Rn Q D 28 39 [] [.int s0] I J (some (.long R)) I J := by
  replace h : ((m_23 s0 I J).bind (fun r3 => some r3)) = some R := h
  obtain ⟨r3, e4, h⟩ := bindS h
  refine Rn.csJ (As := [.int s0]) (rest := []) dk_28_39 ck_28_39.choose_spec rfl (x_23 (Nat.le_trans (Nat.le_of_ble_eq_true rfl) hD) e4) ?_
  cases h
  exact Rn.rl dk_28_42 R_28
def b_28_0 (x0 : Int32) (x1 : Int64) (I : dI) (J : dJ) : Option Int64 := if x0 = 14 then (if ¬ (lg_cmp x1 0) = 0 then (b_28_39 0 I J) else (b_28_39 1 I J)) else if x0 = 15 then (some (x1 ^^^ (-1))) else (some (-x1))
theorem p_28_0 {Q : Nat → Option Nat} {D : Nat} (hD : 2 ≤ D) (x0 : Int32) (x1 : Int64) (I : dI) (J : dJ) (R : Int64) (h : b_28_0 x0 x1 I J = some R) : Rn Q D 28 0 [(0, .int x0), (1, .long x1)] [] I J (some (.long R)) I J := by
  replace h : (if x0 = 14 then (if ¬ (lg_cmp x1 0) = 0 then (b_28_39 0 I J) else (b_28_39 1 I J)) else if x0 = 15 then (some (x1 ^^^ (-1))) else (some (-x1))) = some R := h
  refine Rn.pu (st' := [.int x0]) dk_28_0 L_28 rfl ?_
  by_cases c1 : x0 = 14
  · rw [if_pos c1] at h
    refine Rn.sw (t := 28) (st' := []) dk_28_1 (fun _ _ => rfl) (by rw [c1]; rfl) ?_
    refine Rn.pu (st' := [.long x1]) dk_28_28 L_28 rfl ?_
    refine Rn.lc dk_28_29 clc_0 ?_
    refine Rn.pu (st' := [.int (lg_cmp x1 0)]) dk_28_30 L_28 rfl ?_
    by_cases c2 : ¬ (lg_cmp x1 0) = 0
    · rw [if_pos c2] at h
      refine Rn.i1t (t := 38) dk_28_31 rfl (decide_eq_true c2) ?_
      refine Rn.ic dk_28_38 cic_0 ?_
      exact Rn.wk [] rfl (p_28_39 hD _ _ _ _ h)
    · rw [if_neg c2] at h
      refine Rn.i1f (t := 38) dk_28_31 rfl (decide_eq_false c2) ?_
      refine Rn.ic dk_28_34 cic_1 ?_
      refine Rn.gt (t := 39) dk_28_35 rfl ?_
      exact Rn.wk [] rfl (p_28_39 hD _ _ _ _ h)
  · rw [if_neg c1] at h
    by_cases c3 : x0 = 15
    · rw [if_pos c3] at h
      refine Rn.sw (t := 43) (st' := []) dk_28_1 (fun _ _ => rfl) (by rw [c3]; rfl) ?_
      refine Rn.pu (st' := [.long x1]) dk_28_43 L_28 rfl ?_
      refine Rn.ldl dk_28_44 kl_28_44 ?_
      refine Rn.pu (st' := [.long (x1 ^^^ (-1))]) dk_28_47 L_28 rfl ?_
      cases h
      exact Rn.rl dk_28_48 R_28
    · rw [if_neg c3] at h
      have q1 := (i_ne c1 (z := 14) rfl).symm
      have q2 := (i_ne c3 (z := 15) rfl).symm
      have q0 : xm_br (.lookupswitch (48) #[(14, 27), (15, 42)]) 27 1 (.int x0 :: []) = some (true, 49, []) := lk_def (by decide) (by simp [Op.lookupswitch.offset, q1, q2]) rfl
      refine Rn.sw dk_28_1 (fun _ _ => rfl) q0 ?_
      refine Rn.pu (st' := [.long x1]) dk_28_49 L_28 rfl ?_
      refine Rn.pu (st' := [.long (-x1)]) dk_28_50 L_28 rfl ?_
      cases h
      exact Rn.rl dk_28_51 R_28
def m_28 (x0 : Int32) (x1 : Int64) (I : dI) (J : dJ) : Option Int64 := b_28_0 x0 x1 I J
theorem x_28 {Q : Nat → Option Nat} {D : Nat} (hD : 3 ≤ D) {x0 : Int32} {x1 : Int64} {I : dI} {J : dJ} {R : Int64} (h : m_28 x0 x1 I J = some R) : Ex Q D 28 I J [.int x0, .long x1] (some (.long R)) I J := by
  obtain ⟨D, rfl⟩ : ∃ D', D = D' + 1 := ⟨D - 1, by omega⟩
  exact Ex.of (by decide) (by rw [L_28]; exact Nat.le_of_ble_eq_true rfl) (show xm_sub [(0, .int x0), (1, .long x1)] [(0, .int x0), (1, .long x1)] from xm_sub_of [0, 1] [0, 1] rfl rfl (by decide)) (p_28_0 (Nat.le_of_succ_le_succ hD) _ _ _ _ _ h)
-- ConditionDesk$Program.rightOf(I)I
theorem L_30 : tb_mL 30 = 2 := by decide +kernel
theorem R_30 : tb_mr 30 = some .int := by decide +kernel
theorem dk_30_0 : decode (tb_mb 30) 0 = .ok (.iload_n 1, 1) := by decide +kernel
theorem dk_30_1 : decode (tb_mb 30) 1 = .ok (.ifCond .lt (21), 3) := by decide +kernel
theorem dk_30_22 : decode (tb_mb 30) 22 = .ok (.iconst (-1), 1) := by decide +kernel
theorem dk_30_23 : decode (tb_mb 30) 23 = .ok (.ireturn, 1) := by decide +kernel
theorem dk_30_4 : decode (tb_mb 30) 4 = .ok (.iload_n 1, 1) := by decide +kernel
theorem dk_30_5 : decode (tb_mb 30) 5 = .ok (.aload_n 0, 1) := by decide +kernel
theorem dk_30_6 : decode (tb_mb 30) 6 = .ok (.getfield 18, 3) := by decide +kernel
theorem f_30_6 : ∃ b, tb_fr (tb_oc 30) 18 = some (4, 2, b) := ⟨_, rfl⟩
theorem dk_30_9 : decode (tb_mb 30) 9 = .ok (.arraylength, 1) := by decide +kernel
theorem dk_30_10 : decode (tb_mb 30) 10 = .ok (.if_icmp .ge (12), 3) := by decide +kernel
theorem dk_30_13 : decode (tb_mb 30) 13 = .ok (.aload_n 0, 1) := by decide +kernel
theorem dk_30_14 : decode (tb_mb 30) 14 = .ok (.getfield 18, 3) := by decide +kernel
theorem f_30_14 : ∃ b, tb_fr (tb_oc 30) 18 = some (4, 2, b) := ⟨_, rfl⟩
theorem dk_30_17 : decode (tb_mb 30) 17 = .ok (.iload_n 1, 1) := by decide +kernel
theorem dk_30_18 : decode (tb_mb 30) 18 = .ok (.iaload, 1) := by decide +kernel
theorem dk_30_19 : decode (tb_mb 30) 19 = .ok (.goto (4), 3) := by decide +kernel
def b_30_0 (p : Nat) (x1 : Int32) (I : dI) (J : dJ) : Option Int32 := if x1 < 0 then (some (-1)) else (if (Int32.ofNat 40) ≤ x1 then (some (-1)) else (if ¬ (x1 < 0 ∨ 40 ≤ Int32.toNatClampNeg x1) then (some (I (p + 3) (Int32.toNatClampNeg x1))) else none))
theorem p_30_0 {Q : Nat → Option Nat} {D : Nat} {p : Nat} (hD : 1 ≤ D) (okp : okPr p) (x1 : Int32) (I : dI) (J : dJ) (R : Int32) (h : b_30_0 p x1 I J = some R) : Rn Q D 30 0 [(0, .ref p), (1, .int x1)] [] I J (some (.int R)) I J := by
  replace h : (if x1 < 0 then (some (-1)) else (if (Int32.ofNat 40) ≤ x1 then (some (-1)) else (if ¬ (x1 < 0 ∨ 40 ≤ Int32.toNatClampNeg x1) then (some (I (p + 3) (Int32.toNatClampNeg x1))) else none))) = some R := h
  refine Rn.pu (st' := [.int x1]) dk_30_0 L_30 rfl ?_
  by_cases c1 : x1 < 0
  · rw [if_pos c1] at h
    refine Rn.i1t (t := 22) dk_30_1 rfl (decide_eq_true c1) ?_
    refine Rn.ic dk_30_22 cic_m1 ?_
    cases h
    exact Rn.ri dk_30_23 R_30 rfl
  · rw [if_neg c1] at h
    refine Rn.i1f (t := 22) dk_30_1 rfl (decide_eq_false c1) ?_
    refine Rn.pu (st' := [.int x1]) dk_30_4 L_30 rfl ?_
    refine Rn.pu (st' := [.ref p, .int x1]) dk_30_5 L_30 rfl ?_
    refine Rn.gR (r := (p + 3)) dk_30_6 f_30_6.choose_spec okp.1 rfl ?_
    refine Rn.alen dk_30_9 okp.2.2.2.1 (by decide) ?_
    by_cases c2 : (Int32.ofNat 40) ≤ x1
    · rw [if_pos c2] at h
      refine Rn.i2t (t := 22) dk_30_10 rfl (decide_eq_true c2) ?_
      refine Rn.ic dk_30_22 cic_m1 ?_
      cases h
      exact Rn.ri dk_30_23 R_30 rfl
    · rw [if_neg c2] at h
      refine Rn.i2f (t := 22) dk_30_10 rfl (decide_eq_false c2) ?_
      refine Rn.pu (st' := [.ref p]) dk_30_13 L_30 rfl ?_
      refine Rn.gR (r := (p + 3)) dk_30_14 f_30_14.choose_spec okp.1 rfl ?_
      refine Rn.pu (st' := [.int x1, .ref (p + 3)]) dk_30_17 L_30 rfl ?_
      obtain ⟨c3, h⟩ := xm_if h
      refine Rn.iald dk_30_18 okp.2.2.2.1 c3 ?_
      refine Rn.gt (t := 23) dk_30_19 rfl ?_
      cases h
      exact Rn.ri dk_30_23 R_30 rfl
def m_30 (p : Nat) (x1 : Int32) (I : dI) (J : dJ) : Option Int32 := b_30_0 p x1 I J
theorem x_30 {Q : Nat → Option Nat} {D : Nat} {p : Nat} (hD : 2 ≤ D) (okp : okPr p) {x1 : Int32} {I : dI} {J : dJ} {R : Int32} (h : m_30 p x1 I J = some R) : Ex Q D 30 I J [.ref p, .int x1] (some (.int R)) I J := by
  obtain ⟨D, rfl⟩ : ∃ D', D = D' + 1 := ⟨D - 1, by omega⟩
  exact Ex.of (by decide) (by rw [L_30]; exact Nat.le_of_ble_eq_true rfl) (show xm_sub [(0, .ref p), (1, .int x1)] [(0, .ref p), (1, .int x1)] from xm_sub_of [0, 1] [0, 1] rfl rfl (by decide)) (p_30_0 (Nat.le_of_succ_le_succ hD) okp _ _ _ _ h)
-- ConditionDesk$Worker.divide(IJJ)J
theorem L_32 : tb_mL 32 = 6 := by decide +kernel
theorem R_32 : tb_mr 32 = some .long := by decide +kernel
theorem dk_32_0 : decode (tb_mb 32) 0 = .ok (.aload_n 0, 1) := by decide +kernel
theorem dk_32_1 : decode (tb_mb 32) 1 = .ok (.getfield 33, 3) := by decide +kernel
theorem f_32_1 : ∃ b, tb_fr (tb_oc 32) 33 = some (7, 6, b) := ⟨_, rfl⟩
theorem dk_32_4 : decode (tb_mb 32) 4 = .ok (.ifCond .eq (5), 3) := by decide +kernel
theorem dk_32_9 : decode (tb_mb 32) 9 = .ok (.lload 4, 2) := by decide +kernel
theorem dk_32_11 : decode (tb_mb 32) 11 = .ok (.lconst 0, 1) := by decide +kernel
theorem dk_32_12 : decode (tb_mb 32) 12 = .ok (.lcmp, 1) := by decide +kernel
theorem dk_32_13 : decode (tb_mb 32) 13 = .ok (.ifCond .ne (10), 3) := by decide +kernel
theorem dk_32_23 : decode (tb_mb 32) 23 = .ok (.iload_n 1, 1) := by decide +kernel
theorem dk_32_24 : decode (tb_mb 32) 24 = .ok (.bipush (32), 2) := by decide +kernel
theorem dk_32_26 : decode (tb_mb 32) 26 = .ok (.if_icmp .ne (10), 3) := by decide +kernel
theorem dk_32_36 : decode (tb_mb 32) 36 = .ok (.lload_n 2, 1) := by decide +kernel
theorem dk_32_37 : decode (tb_mb 32) 37 = .ok (.lload 4, 2) := by decide +kernel
theorem dk_32_39 : decode (tb_mb 32) 39 = .ok (.lrem, 1) := by decide +kernel
theorem dk_32_40 : decode (tb_mb 32) 40 = .ok (.lreturn, 1) := by decide +kernel
theorem dk_32_29 : decode (tb_mb 32) 29 = .ok (.lload_n 2, 1) := by decide +kernel
theorem dk_32_30 : decode (tb_mb 32) 30 = .ok (.lload 4, 2) := by decide +kernel
theorem dk_32_32 : decode (tb_mb 32) 32 = .ok (.ldiv, 1) := by decide +kernel
theorem dk_32_33 : decode (tb_mb 32) 33 = .ok (.goto (7), 3) := by decide +kernel
theorem dk_32_16 : decode (tb_mb 32) 16 = .ok (.aload_n 0, 1) := by decide +kernel
theorem dk_32_17 : decode (tb_mb 32) 17 = .ok (.iconst (1), 1) := by decide +kernel
theorem dk_32_18 : decode (tb_mb 32) 18 = .ok (.putfield 33, 3) := by decide +kernel
theorem f_32_18 : ∃ b, tb_fr (tb_oc 32) 33 = some (7, 6, b) ∧ xm_fin tb_cl (tb_ini 32) b 7 6 = true := ⟨_, rfl, rfl⟩
theorem dk_32_21 : decode (tb_mb 32) 21 = .ok (.lconst 0, 1) := by decide +kernel
theorem dk_32_22 : decode (tb_mb 32) 22 = .ok (.lreturn, 1) := by decide +kernel
theorem dk_32_7 : decode (tb_mb 32) 7 = .ok (.lconst 0, 1) := by decide +kernel
theorem dk_32_8 : decode (tb_mb 32) 8 = .ok (.lreturn, 1) := by decide +kernel
def b_32_0 (p : Nat) (x1 : Int32) (x2 : Int64) (x4 : Int64) (I : dI) (J : dJ) : Option (Int64 × dI × dJ) := if (I p 6) = 0 then (if ¬ (lg_cmp x4 0) = 0 then (if ¬ x1 = 32 then (if ¬ x4 = 0 then (some ((x2 - x2 / x4 * x4), I, J)) else none) else (if ¬ x4 = 0 then (some ((x2 / x4), I, J)) else none)) else (lt_ (sI I p 6 1) (fun I6 => some (0, I6, J)))) else (some (0, I, J))
theorem p_32_0 {Q : Nat → Option Nat} {D : Nat} {p : Nat} (hD : 1 ≤ D) (okp : okW p) (x1 : Int32) (x2 : Int64) (x4 : Int64) (I : dI) (J : dJ) (R : (Int64 × dI × dJ)) (h : b_32_0 p x1 x2 x4 I J = some R) : Rn Q D 32 0 [(0, .ref p), (1, .int x1), (2, .long x2), (4, .long x4)] [] I J (some (.long R.1)) R.2.1 R.2.2 := by
  replace h : (if (I p 6) = 0 then (if ¬ (lg_cmp x4 0) = 0 then (if ¬ x1 = 32 then (if ¬ x4 = 0 then (some ((x2 - x2 / x4 * x4), I, J)) else none) else (if ¬ x4 = 0 then (some ((x2 / x4), I, J)) else none)) else (lt_ (sI I p 6 1) (fun I6 => some (0, I6, J)))) else (some (0, I, J))) = some R := h
  refine Rn.pu (st' := [.ref p]) dk_32_0 L_32 rfl ?_
  refine Rn.gI dk_32_1 f_32_1.choose_spec okp.1 rfl ?_
  by_cases c1 : (I p 6) = 0
  · rw [if_pos c1] at h
    refine Rn.i1t (t := 9) dk_32_4 rfl (decide_eq_true c1) ?_
    refine Rn.pu (st' := [.long x4]) dk_32_9 L_32 rfl ?_
    refine Rn.lc dk_32_11 clc_0 ?_
    refine Rn.pu (st' := [.int (lg_cmp x4 0)]) dk_32_12 L_32 rfl ?_
    by_cases c2 : ¬ (lg_cmp x4 0) = 0
    · rw [if_pos c2] at h
      refine Rn.i1t (t := 23) dk_32_13 rfl (decide_eq_true c2) ?_
      refine Rn.pu (st' := [.int x1]) dk_32_23 L_32 rfl ?_
      refine Rn.bp dk_32_24 cbp_32 ?_
      by_cases c3 : ¬ x1 = 32
      · rw [if_pos c3] at h
        refine Rn.i2t (t := 36) dk_32_26 rfl (decide_eq_true c3) ?_
        refine Rn.pu (st' := [.long x2]) dk_32_36 L_32 rfl ?_
        refine Rn.pu (st' := [.long x4, .long x2]) dk_32_37 L_32 rfl ?_
        obtain ⟨c4, h⟩ := xm_if h
        refine Rn.lrm dk_32_39 c4 ?_
        cases h
        exact Rn.rl dk_32_40 R_32
      · rw [if_neg c3] at h
        refine Rn.i2f (t := 36) dk_32_26 rfl (decide_eq_false c3) ?_
        refine Rn.pu (st' := [.long x2]) dk_32_29 L_32 rfl ?_
        refine Rn.pu (st' := [.long x4, .long x2]) dk_32_30 L_32 rfl ?_
        obtain ⟨c5, h⟩ := xm_if h
        refine Rn.ldv dk_32_32 c5 ?_
        refine Rn.gt (t := 40) dk_32_33 rfl ?_
        cases h
        exact Rn.rl dk_32_40 R_32
    · rw [if_neg c2] at h
      refine Rn.i1f (t := 23) dk_32_13 rfl (decide_eq_false c2) ?_
      refine Rn.pu (st' := [.ref p]) dk_32_16 L_32 rfl ?_
      refine Rn.ic dk_32_17 cic_1 ?_
      obtain ⟨I6, eI6, h⟩ := letS h
      refine Rn.pI dk_32_18 f_32_18.choose_spec.1 okp.1 rfl f_32_18.choose_spec.2 rfl rfl ?_
      rw [← eI6]
      refine Rn.lc dk_32_21 clc_0 ?_
      cases h
      exact Rn.rl dk_32_22 R_32
  · rw [if_neg c1] at h
    refine Rn.i1f (t := 9) dk_32_4 rfl (decide_eq_false c1) ?_
    refine Rn.lc dk_32_7 clc_0 ?_
    cases h
    exact Rn.rl dk_32_8 R_32
def m_32 (p : Nat) (x1 : Int32) (x2 : Int64) (x4 : Int64) (I : dI) (J : dJ) : Option (Int64 × dI × dJ) := b_32_0 p x1 x2 x4 I J
theorem x_32 {Q : Nat → Option Nat} {D : Nat} {p : Nat} (hD : 2 ≤ D) (okp : okW p) {x1 : Int32} {x2 : Int64} {x4 : Int64} {I : dI} {J : dJ} {R : (Int64 × dI × dJ)} (h : m_32 p x1 x2 x4 I J = some R) : Ex Q D 32 I J [.ref p, .int x1, .long x2, .long x4] (some (.long R.1)) R.2.1 R.2.2 := by
  obtain ⟨D, rfl⟩ : ∃ D', D = D' + 1 := ⟨D - 1, by omega⟩
  exact Ex.of (by decide) (by rw [L_32]; exact Nat.le_of_ble_eq_true rfl) (show xm_sub [(0, .ref p), (1, .int x1), (2, .long x2), (4, .long x4)] [(0, .ref p), (1, .int x1), (2, .long x2), (4, .long x4)] from xm_sub_of [0, 1, 2, 3] [0, 1, 2, 4] rfl rfl (by decide)) (p_32_0 (Nat.le_of_succ_le_succ hD) okp _ _ _ _ _ _ h)
-- ConditionDesk.compares(I)Z
theorem L_33 : tb_mL 33 = 1 := by decide +kernel
theorem R_33 : tb_mr 33 = some .boolean := by decide +kernel
theorem dk_33_0 : decode (tb_mb 33) 0 = .ok (.iload_n 0, 1) := by decide +kernel
theorem dk_33_1 : decode (tb_mb 33) 1 = .ok (.bipush (18), 2) := by decide +kernel
theorem dk_33_3 : decode (tb_mb 33) 3 = .ok (.if_icmp .lt (13), 3) := by decide +kernel
theorem dk_33_16 : decode (tb_mb 33) 16 = .ok (.iconst (0), 1) := by decide +kernel
theorem dk_33_17 : decode (tb_mb 33) 17 = .ok (.ireturn, 1) := by decide +kernel
theorem dk_33_6 : decode (tb_mb 33) 6 = .ok (.iload_n 0, 1) := by decide +kernel
theorem dk_33_7 : decode (tb_mb 33) 7 = .ok (.bipush (23), 2) := by decide +kernel
theorem dk_33_9 : decode (tb_mb 33) 9 = .ok (.if_icmp .gt (7), 3) := by decide +kernel
theorem dk_33_12 : decode (tb_mb 33) 12 = .ok (.iconst (1), 1) := by decide +kernel
theorem dk_33_13 : decode (tb_mb 33) 13 = .ok (.goto (4), 3) := by decide +kernel
def b_33_0 (x0 : Int32) (I : dI) (J : dJ) : Option Int32 := if x0 < 18 then (some 0) else (if 23 < x0 then (some 0) else (some 1))
theorem p_33_0 {Q : Nat → Option Nat} {D : Nat} (hD : 1 ≤ D) (x0 : Int32) (I : dI) (J : dJ) (R : Int32) (h : b_33_0 x0 I J = some R) : Rn Q D 33 0 [(0, .int x0)] [] I J (some (.int R)) I J := by
  replace h : (if x0 < 18 then (some 0) else (if 23 < x0 then (some 0) else (some 1))) = some R := h
  refine Rn.pu (st' := [.int x0]) dk_33_0 L_33 rfl ?_
  refine Rn.bp dk_33_1 cbp_18 ?_
  by_cases c1 : x0 < 18
  · rw [if_pos c1] at h
    refine Rn.i2t (t := 16) dk_33_3 rfl (decide_eq_true c1) ?_
    refine Rn.ic dk_33_16 cic_0 ?_
    cases h
    exact Rn.ri dk_33_17 R_33 rfl
  · rw [if_neg c1] at h
    refine Rn.i2f (t := 16) dk_33_3 rfl (decide_eq_false c1) ?_
    refine Rn.pu (st' := [.int x0]) dk_33_6 L_33 rfl ?_
    refine Rn.bp dk_33_7 cbp_23 ?_
    by_cases c2 : 23 < x0
    · rw [if_pos c2] at h
      refine Rn.i2t (t := 16) dk_33_9 rfl (decide_eq_true c2) ?_
      refine Rn.ic dk_33_16 cic_0 ?_
      cases h
      exact Rn.ri dk_33_17 R_33 rfl
    · rw [if_neg c2] at h
      refine Rn.i2f (t := 16) dk_33_9 rfl (decide_eq_false c2) ?_
      refine Rn.ic dk_33_12 cic_1 ?_
      refine Rn.gt (t := 17) dk_33_13 rfl ?_
      cases h
      exact Rn.ri dk_33_17 R_33 rfl
def m_33 (x0 : Int32) (I : dI) (J : dJ) : Option Int32 := b_33_0 x0 I J
theorem x_33 {Q : Nat → Option Nat} {D : Nat} (hD : 2 ≤ D) {x0 : Int32} {I : dI} {J : dJ} {R : Int32} (h : m_33 x0 I J = some R) : Ex Q D 33 I J [.int x0] (some (.int R)) I J := by
  obtain ⟨D, rfl⟩ : ∃ D', D = D' + 1 := ⟨D - 1, by omega⟩
  exact Ex.of (by decide) (by rw [L_33]; exact Nat.le_of_ble_eq_true rfl) (show xm_sub [(0, .int x0)] [(0, .int x0)] from xm_sub_of [0] [0] rfl rfl (by decide)) (p_33_0 (Nat.le_of_succ_le_succ hD) _ _ _ _ h)
-- ConditionDesk$Worker.compare(IJJ)Z
theorem L_34 : tb_mL 34 = 5 := by decide +kernel
theorem R_34 : tb_mr 34 = some .boolean := by decide +kernel
theorem dk_34_0 : decode (tb_mb 34) 0 = .ok (.iload_n 0, 1) := by decide +kernel
theorem dk_34_1 : decode (tb_mb 34) 1 = .ok (.tableswitch (95) 18 22 #[35, 47, 59, 71, 83], 35) := by decide +kernel
theorem dk_34_36 : decode (tb_mb 34) 36 = .ok (.lload_n 1, 1) := by decide +kernel
theorem dk_34_37 : decode (tb_mb 34) 37 = .ok (.lload_n 3, 1) := by decide +kernel
theorem dk_34_38 : decode (tb_mb 34) 38 = .ok (.lcmp, 1) := by decide +kernel
theorem dk_34_39 : decode (tb_mb 34) 39 = .ok (.ifCond .ne (7), 3) := by decide +kernel
theorem dk_34_46 : decode (tb_mb 34) 46 = .ok (.iconst (0), 1) := by decide +kernel
theorem dk_34_47 : decode (tb_mb 34) 47 = .ok (.ireturn, 1) := by decide +kernel
theorem dk_34_42 : decode (tb_mb 34) 42 = .ok (.iconst (1), 1) := by decide +kernel
theorem dk_34_43 : decode (tb_mb 34) 43 = .ok (.goto (4), 3) := by decide +kernel
theorem dk_34_48 : decode (tb_mb 34) 48 = .ok (.lload_n 1, 1) := by decide +kernel
theorem dk_34_49 : decode (tb_mb 34) 49 = .ok (.lload_n 3, 1) := by decide +kernel
theorem dk_34_50 : decode (tb_mb 34) 50 = .ok (.lcmp, 1) := by decide +kernel
theorem dk_34_51 : decode (tb_mb 34) 51 = .ok (.ifCond .eq (7), 3) := by decide +kernel
theorem dk_34_58 : decode (tb_mb 34) 58 = .ok (.iconst (0), 1) := by decide +kernel
theorem dk_34_59 : decode (tb_mb 34) 59 = .ok (.ireturn, 1) := by decide +kernel
theorem dk_34_54 : decode (tb_mb 34) 54 = .ok (.iconst (1), 1) := by decide +kernel
theorem dk_34_55 : decode (tb_mb 34) 55 = .ok (.goto (4), 3) := by decide +kernel
theorem dk_34_60 : decode (tb_mb 34) 60 = .ok (.lload_n 1, 1) := by decide +kernel
theorem dk_34_61 : decode (tb_mb 34) 61 = .ok (.lload_n 3, 1) := by decide +kernel
theorem dk_34_62 : decode (tb_mb 34) 62 = .ok (.lcmp, 1) := by decide +kernel
theorem dk_34_63 : decode (tb_mb 34) 63 = .ok (.ifCond .ge (7), 3) := by decide +kernel
theorem dk_34_70 : decode (tb_mb 34) 70 = .ok (.iconst (0), 1) := by decide +kernel
theorem dk_34_71 : decode (tb_mb 34) 71 = .ok (.ireturn, 1) := by decide +kernel
theorem dk_34_66 : decode (tb_mb 34) 66 = .ok (.iconst (1), 1) := by decide +kernel
theorem dk_34_67 : decode (tb_mb 34) 67 = .ok (.goto (4), 3) := by decide +kernel
theorem dk_34_72 : decode (tb_mb 34) 72 = .ok (.lload_n 1, 1) := by decide +kernel
theorem dk_34_73 : decode (tb_mb 34) 73 = .ok (.lload_n 3, 1) := by decide +kernel
theorem dk_34_74 : decode (tb_mb 34) 74 = .ok (.lcmp, 1) := by decide +kernel
theorem dk_34_75 : decode (tb_mb 34) 75 = .ok (.ifCond .gt (7), 3) := by decide +kernel
theorem dk_34_82 : decode (tb_mb 34) 82 = .ok (.iconst (0), 1) := by decide +kernel
theorem dk_34_83 : decode (tb_mb 34) 83 = .ok (.ireturn, 1) := by decide +kernel
theorem dk_34_78 : decode (tb_mb 34) 78 = .ok (.iconst (1), 1) := by decide +kernel
theorem dk_34_79 : decode (tb_mb 34) 79 = .ok (.goto (4), 3) := by decide +kernel
theorem dk_34_84 : decode (tb_mb 34) 84 = .ok (.lload_n 1, 1) := by decide +kernel
theorem dk_34_85 : decode (tb_mb 34) 85 = .ok (.lload_n 3, 1) := by decide +kernel
theorem dk_34_86 : decode (tb_mb 34) 86 = .ok (.lcmp, 1) := by decide +kernel
theorem dk_34_87 : decode (tb_mb 34) 87 = .ok (.ifCond .le (7), 3) := by decide +kernel
theorem dk_34_94 : decode (tb_mb 34) 94 = .ok (.iconst (0), 1) := by decide +kernel
theorem dk_34_95 : decode (tb_mb 34) 95 = .ok (.ireturn, 1) := by decide +kernel
theorem dk_34_90 : decode (tb_mb 34) 90 = .ok (.iconst (1), 1) := by decide +kernel
theorem dk_34_91 : decode (tb_mb 34) 91 = .ok (.goto (4), 3) := by decide +kernel
theorem dk_34_96 : decode (tb_mb 34) 96 = .ok (.lload_n 1, 1) := by decide +kernel
theorem dk_34_97 : decode (tb_mb 34) 97 = .ok (.lload_n 3, 1) := by decide +kernel
theorem dk_34_98 : decode (tb_mb 34) 98 = .ok (.lcmp, 1) := by decide +kernel
theorem dk_34_99 : decode (tb_mb 34) 99 = .ok (.ifCond .lt (7), 3) := by decide +kernel
theorem dk_34_106 : decode (tb_mb 34) 106 = .ok (.iconst (0), 1) := by decide +kernel
theorem dk_34_107 : decode (tb_mb 34) 107 = .ok (.ireturn, 1) := by decide +kernel
theorem dk_34_102 : decode (tb_mb 34) 102 = .ok (.iconst (1), 1) := by decide +kernel
theorem dk_34_103 : decode (tb_mb 34) 103 = .ok (.goto (4), 3) := by decide +kernel
def b_34_0 (x0 : Int32) (x1 : Int64) (x3 : Int64) (I : dI) (J : dJ) : Option Int32 := if x0 = 18 then (if ¬ (lg_cmp x1 x3) = 0 then (some 0) else (some 1)) else if x0 = 19 then (if (lg_cmp x1 x3) = 0 then (some 0) else (some 1)) else if x0 = 20 then (if 0 ≤ (lg_cmp x1 x3) then (some 0) else (some 1)) else if x0 = 21 then (if 0 < (lg_cmp x1 x3) then (some 0) else (some 1)) else if x0 = 22 then (if (lg_cmp x1 x3) ≤ 0 then (some 0) else (some 1)) else (if (lg_cmp x1 x3) < 0 then (some 0) else (some 1))
theorem p_34_0 {Q : Nat → Option Nat} {D : Nat} (hD : 1 ≤ D) (x0 : Int32) (x1 : Int64) (x3 : Int64) (I : dI) (J : dJ) (R : Int32) (h : b_34_0 x0 x1 x3 I J = some R) : Rn Q D 34 0 [(0, .int x0), (1, .long x1), (3, .long x3)] [] I J (some (.int R)) I J := by
  replace h : (if x0 = 18 then (if ¬ (lg_cmp x1 x3) = 0 then (some 0) else (some 1)) else if x0 = 19 then (if (lg_cmp x1 x3) = 0 then (some 0) else (some 1)) else if x0 = 20 then (if 0 ≤ (lg_cmp x1 x3) then (some 0) else (some 1)) else if x0 = 21 then (if 0 < (lg_cmp x1 x3) then (some 0) else (some 1)) else if x0 = 22 then (if (lg_cmp x1 x3) ≤ 0 then (some 0) else (some 1)) else (if (lg_cmp x1 x3) < 0 then (some 0) else (some 1))) = some R := h
  refine Rn.pu (st' := [.int x0]) dk_34_0 L_34 rfl ?_
  by_cases c1 : x0 = 18
  · rw [if_pos c1] at h
    refine Rn.sw (t := 36) (st' := []) dk_34_1 (fun _ _ => rfl) (by rw [c1]; rfl) ?_
    refine Rn.pu (st' := [.long x1]) dk_34_36 L_34 rfl ?_
    refine Rn.pu (st' := [.long x3, .long x1]) dk_34_37 L_34 rfl ?_
    refine Rn.pu (st' := [.int (lg_cmp x1 x3)]) dk_34_38 L_34 rfl ?_
    by_cases c2 : ¬ (lg_cmp x1 x3) = 0
    · rw [if_pos c2] at h
      refine Rn.i1t (t := 46) dk_34_39 rfl (decide_eq_true c2) ?_
      refine Rn.ic dk_34_46 cic_0 ?_
      cases h
      exact Rn.ri dk_34_47 R_34 rfl
    · rw [if_neg c2] at h
      refine Rn.i1f (t := 46) dk_34_39 rfl (decide_eq_false c2) ?_
      refine Rn.ic dk_34_42 cic_1 ?_
      refine Rn.gt (t := 47) dk_34_43 rfl ?_
      cases h
      exact Rn.ri dk_34_47 R_34 rfl
  · rw [if_neg c1] at h
    by_cases c3 : x0 = 19
    · rw [if_pos c3] at h
      refine Rn.sw (t := 48) (st' := []) dk_34_1 (fun _ _ => rfl) (by rw [c3]; rfl) ?_
      refine Rn.pu (st' := [.long x1]) dk_34_48 L_34 rfl ?_
      refine Rn.pu (st' := [.long x3, .long x1]) dk_34_49 L_34 rfl ?_
      refine Rn.pu (st' := [.int (lg_cmp x1 x3)]) dk_34_50 L_34 rfl ?_
      by_cases c4 : (lg_cmp x1 x3) = 0
      · rw [if_pos c4] at h
        refine Rn.i1t (t := 58) dk_34_51 rfl (decide_eq_true c4) ?_
        refine Rn.ic dk_34_58 cic_0 ?_
        cases h
        exact Rn.ri dk_34_59 R_34 rfl
      · rw [if_neg c4] at h
        refine Rn.i1f (t := 58) dk_34_51 rfl (decide_eq_false c4) ?_
        refine Rn.ic dk_34_54 cic_1 ?_
        refine Rn.gt (t := 59) dk_34_55 rfl ?_
        cases h
        exact Rn.ri dk_34_59 R_34 rfl
    · rw [if_neg c3] at h
      by_cases c5 : x0 = 20
      · rw [if_pos c5] at h
        refine Rn.sw (t := 60) (st' := []) dk_34_1 (fun _ _ => rfl) (by rw [c5]; rfl) ?_
        refine Rn.pu (st' := [.long x1]) dk_34_60 L_34 rfl ?_
        refine Rn.pu (st' := [.long x3, .long x1]) dk_34_61 L_34 rfl ?_
        refine Rn.pu (st' := [.int (lg_cmp x1 x3)]) dk_34_62 L_34 rfl ?_
        by_cases c6 : 0 ≤ (lg_cmp x1 x3)
        · rw [if_pos c6] at h
          refine Rn.i1t (t := 70) dk_34_63 rfl (decide_eq_true c6) ?_
          refine Rn.ic dk_34_70 cic_0 ?_
          cases h
          exact Rn.ri dk_34_71 R_34 rfl
        · rw [if_neg c6] at h
          refine Rn.i1f (t := 70) dk_34_63 rfl (decide_eq_false c6) ?_
          refine Rn.ic dk_34_66 cic_1 ?_
          refine Rn.gt (t := 71) dk_34_67 rfl ?_
          cases h
          exact Rn.ri dk_34_71 R_34 rfl
      · rw [if_neg c5] at h
        by_cases c7 : x0 = 21
        · rw [if_pos c7] at h
          refine Rn.sw (t := 72) (st' := []) dk_34_1 (fun _ _ => rfl) (by rw [c7]; rfl) ?_
          refine Rn.pu (st' := [.long x1]) dk_34_72 L_34 rfl ?_
          refine Rn.pu (st' := [.long x3, .long x1]) dk_34_73 L_34 rfl ?_
          refine Rn.pu (st' := [.int (lg_cmp x1 x3)]) dk_34_74 L_34 rfl ?_
          by_cases c8 : 0 < (lg_cmp x1 x3)
          · rw [if_pos c8] at h
            refine Rn.i1t (t := 82) dk_34_75 rfl (decide_eq_true c8) ?_
            refine Rn.ic dk_34_82 cic_0 ?_
            cases h
            exact Rn.ri dk_34_83 R_34 rfl
          · rw [if_neg c8] at h
            refine Rn.i1f (t := 82) dk_34_75 rfl (decide_eq_false c8) ?_
            refine Rn.ic dk_34_78 cic_1 ?_
            refine Rn.gt (t := 83) dk_34_79 rfl ?_
            cases h
            exact Rn.ri dk_34_83 R_34 rfl
        · rw [if_neg c7] at h
          by_cases c9 : x0 = 22
          · rw [if_pos c9] at h
            refine Rn.sw (t := 84) (st' := []) dk_34_1 (fun _ _ => rfl) (by rw [c9]; rfl) ?_
            refine Rn.pu (st' := [.long x1]) dk_34_84 L_34 rfl ?_
            refine Rn.pu (st' := [.long x3, .long x1]) dk_34_85 L_34 rfl ?_
            refine Rn.pu (st' := [.int (lg_cmp x1 x3)]) dk_34_86 L_34 rfl ?_
            by_cases c10 : (lg_cmp x1 x3) ≤ 0
            · rw [if_pos c10] at h
              refine Rn.i1t (t := 94) dk_34_87 rfl (decide_eq_true c10) ?_
              refine Rn.ic dk_34_94 cic_0 ?_
              cases h
              exact Rn.ri dk_34_95 R_34 rfl
            · rw [if_neg c10] at h
              refine Rn.i1f (t := 94) dk_34_87 rfl (decide_eq_false c10) ?_
              refine Rn.ic dk_34_90 cic_1 ?_
              refine Rn.gt (t := 95) dk_34_91 rfl ?_
              cases h
              exact Rn.ri dk_34_95 R_34 rfl
          · rw [if_neg c9] at h
            have q0 : xm_br (.tableswitch (95) 18 22 #[35, 47, 59, 71, 83]) 35 1 (.int x0 :: []) = some (true, 96, []) := by
              have q1 := i_ne c1 (z := 18) rfl
              have q2 := i_ne c3 (z := 19) rfl
              have q3 := i_ne c5 (z := 20) rfl
              have q4 := i_ne c7 (z := 21) rfl
              have q5 := i_ne c9 (z := 22) rfl
              exact ts_def (by omega) rfl
            refine Rn.sw dk_34_1 (fun _ _ => rfl) q0 ?_
            refine Rn.pu (st' := [.long x1]) dk_34_96 L_34 rfl ?_
            refine Rn.pu (st' := [.long x3, .long x1]) dk_34_97 L_34 rfl ?_
            refine Rn.pu (st' := [.int (lg_cmp x1 x3)]) dk_34_98 L_34 rfl ?_
            by_cases c11 : (lg_cmp x1 x3) < 0
            · rw [if_pos c11] at h
              refine Rn.i1t (t := 106) dk_34_99 rfl (decide_eq_true c11) ?_
              refine Rn.ic dk_34_106 cic_0 ?_
              cases h
              exact Rn.ri dk_34_107 R_34 rfl
            · rw [if_neg c11] at h
              refine Rn.i1f (t := 106) dk_34_99 rfl (decide_eq_false c11) ?_
              refine Rn.ic dk_34_102 cic_1 ?_
              refine Rn.gt (t := 107) dk_34_103 rfl ?_
              cases h
              exact Rn.ri dk_34_107 R_34 rfl
def m_34 (x0 : Int32) (x1 : Int64) (x3 : Int64) (I : dI) (J : dJ) : Option Int32 := b_34_0 x0 x1 x3 I J
theorem x_34 {Q : Nat → Option Nat} {D : Nat} (hD : 2 ≤ D) {x0 : Int32} {x1 : Int64} {x3 : Int64} {I : dI} {J : dJ} {R : Int32} (h : m_34 x0 x1 x3 I J = some R) : Ex Q D 34 I J [.int x0, .long x1, .long x3] (some (.int R)) I J := by
  obtain ⟨D, rfl⟩ : ∃ D', D = D' + 1 := ⟨D - 1, by omega⟩
  exact Ex.of (by decide) (by rw [L_34]; exact Nat.le_of_ble_eq_true rfl) (show xm_sub [(0, .int x0), (1, .long x1), (3, .long x3)] [(0, .int x0), (1, .long x1), (3, .long x3)] from xm_sub_of [0, 1, 2] [0, 1, 3] rfl rfl (by decide)) (p_34_0 (Nat.le_of_succ_le_succ hD) _ _ _ _ _ _ h)
-- ConditionDesk$Worker.combine(IJJ)J
theorem L_35 : tb_mL 35 = 5 := by decide +kernel
theorem R_35 : tb_mr 35 = some .long := by decide +kernel
theorem dk_35_0 : decode (tb_mb 35) 0 = .ok (.iload_n 0, 1) := by decide +kernel
theorem dk_35_1 : decode (tb_mb 35) 1 = .ok (.tableswitch (81) 24 30 #[43, 47, 51, 55, 64, 73, 77], 43) := by decide +kernel
theorem dk_35_44 : decode (tb_mb 35) 44 = .ok (.lload_n 1, 1) := by decide +kernel
theorem dk_35_45 : decode (tb_mb 35) 45 = .ok (.lload_n 3, 1) := by decide +kernel
theorem dk_35_46 : decode (tb_mb 35) 46 = .ok (.lor, 1) := by decide +kernel
theorem dk_35_47 : decode (tb_mb 35) 47 = .ok (.lreturn, 1) := by decide +kernel
theorem dk_35_48 : decode (tb_mb 35) 48 = .ok (.lload_n 1, 1) := by decide +kernel
theorem dk_35_49 : decode (tb_mb 35) 49 = .ok (.lload_n 3, 1) := by decide +kernel
theorem dk_35_50 : decode (tb_mb 35) 50 = .ok (.lxor, 1) := by decide +kernel
theorem dk_35_51 : decode (tb_mb 35) 51 = .ok (.lreturn, 1) := by decide +kernel
theorem dk_35_52 : decode (tb_mb 35) 52 = .ok (.lload_n 1, 1) := by decide +kernel
theorem dk_35_53 : decode (tb_mb 35) 53 = .ok (.lload_n 3, 1) := by decide +kernel
theorem dk_35_54 : decode (tb_mb 35) 54 = .ok (.land, 1) := by decide +kernel
theorem dk_35_55 : decode (tb_mb 35) 55 = .ok (.lreturn, 1) := by decide +kernel
theorem dk_35_56 : decode (tb_mb 35) 56 = .ok (.lload_n 1, 1) := by decide +kernel
theorem dk_35_57 : decode (tb_mb 35) 57 = .ok (.lload_n 3, 1) := by decide +kernel
theorem dk_35_58 : decode (tb_mb 35) 58 = .ok (.ldc2_w 138, 3) := by decide +kernel
theorem kl_35_58 : tb_kl (tb_oc 35) 138 = some (63) := by decide +kernel
theorem dk_35_61 : decode (tb_mb 35) 61 = .ok (.land, 1) := by decide +kernel
theorem dk_35_62 : decode (tb_mb 35) 62 = .ok (.l2i, 1) := by decide +kernel
theorem dk_35_63 : decode (tb_mb 35) 63 = .ok (.lshl, 1) := by decide +kernel
theorem dk_35_64 : decode (tb_mb 35) 64 = .ok (.lreturn, 1) := by decide +kernel
theorem dk_35_65 : decode (tb_mb 35) 65 = .ok (.lload_n 1, 1) := by decide +kernel
theorem dk_35_66 : decode (tb_mb 35) 66 = .ok (.lload_n 3, 1) := by decide +kernel
theorem dk_35_67 : decode (tb_mb 35) 67 = .ok (.ldc2_w 138, 3) := by decide +kernel
theorem kl_35_67 : tb_kl (tb_oc 35) 138 = some (63) := by decide +kernel
theorem dk_35_70 : decode (tb_mb 35) 70 = .ok (.land, 1) := by decide +kernel
theorem dk_35_71 : decode (tb_mb 35) 71 = .ok (.l2i, 1) := by decide +kernel
theorem dk_35_72 : decode (tb_mb 35) 72 = .ok (.lshr, 1) := by decide +kernel
theorem dk_35_73 : decode (tb_mb 35) 73 = .ok (.lreturn, 1) := by decide +kernel
theorem dk_35_74 : decode (tb_mb 35) 74 = .ok (.lload_n 1, 1) := by decide +kernel
theorem dk_35_75 : decode (tb_mb 35) 75 = .ok (.lload_n 3, 1) := by decide +kernel
theorem dk_35_76 : decode (tb_mb 35) 76 = .ok (.ladd, 1) := by decide +kernel
theorem dk_35_77 : decode (tb_mb 35) 77 = .ok (.lreturn, 1) := by decide +kernel
theorem dk_35_78 : decode (tb_mb 35) 78 = .ok (.lload_n 1, 1) := by decide +kernel
theorem dk_35_79 : decode (tb_mb 35) 79 = .ok (.lload_n 3, 1) := by decide +kernel
theorem dk_35_80 : decode (tb_mb 35) 80 = .ok (.lsub, 1) := by decide +kernel
theorem dk_35_81 : decode (tb_mb 35) 81 = .ok (.lreturn, 1) := by decide +kernel
theorem dk_35_82 : decode (tb_mb 35) 82 = .ok (.lload_n 1, 1) := by decide +kernel
theorem dk_35_83 : decode (tb_mb 35) 83 = .ok (.lload_n 3, 1) := by decide +kernel
theorem dk_35_84 : decode (tb_mb 35) 84 = .ok (.lmul, 1) := by decide +kernel
theorem dk_35_85 : decode (tb_mb 35) 85 = .ok (.lreturn, 1) := by decide +kernel
def b_35_0 (x0 : Int32) (x1 : Int64) (x3 : Int64) (I : dI) (J : dJ) : Option Int64 := if x0 = 24 then (some (x1 ||| x3)) else if x0 = 25 then (some (x1 ^^^ x3)) else if x0 = 26 then (some (x1 &&& x3)) else if x0 = 27 then (some (x1 <<< ((Int32.toInt64 (Int64.toInt32 (x3 &&& 63))) &&& 63))) else if x0 = 28 then (some (x1 >>> ((Int32.toInt64 (Int64.toInt32 (x3 &&& 63))) &&& 63))) else if x0 = 29 then (some (x1 + x3)) else if x0 = 30 then (some (x1 - x3)) else (some (x1 * x3))
theorem p_35_0 {Q : Nat → Option Nat} {D : Nat} (hD : 1 ≤ D) (x0 : Int32) (x1 : Int64) (x3 : Int64) (I : dI) (J : dJ) (R : Int64) (h : b_35_0 x0 x1 x3 I J = some R) : Rn Q D 35 0 [(0, .int x0), (1, .long x1), (3, .long x3)] [] I J (some (.long R)) I J := by
  replace h : (if x0 = 24 then (some (x1 ||| x3)) else if x0 = 25 then (some (x1 ^^^ x3)) else if x0 = 26 then (some (x1 &&& x3)) else if x0 = 27 then (some (x1 <<< ((Int32.toInt64 (Int64.toInt32 (x3 &&& 63))) &&& 63))) else if x0 = 28 then (some (x1 >>> ((Int32.toInt64 (Int64.toInt32 (x3 &&& 63))) &&& 63))) else if x0 = 29 then (some (x1 + x3)) else if x0 = 30 then (some (x1 - x3)) else (some (x1 * x3))) = some R := h
  refine Rn.pu (st' := [.int x0]) dk_35_0 L_35 rfl ?_
  by_cases c1 : x0 = 24
  · rw [if_pos c1] at h
    refine Rn.sw (t := 44) (st' := []) dk_35_1 (fun _ _ => rfl) (by rw [c1]; rfl) ?_
    refine Rn.pu (st' := [.long x1]) dk_35_44 L_35 rfl ?_
    refine Rn.pu (st' := [.long x3, .long x1]) dk_35_45 L_35 rfl ?_
    refine Rn.pu (st' := [.long (x1 ||| x3)]) dk_35_46 L_35 rfl ?_
    cases h
    exact Rn.rl dk_35_47 R_35
  · rw [if_neg c1] at h
    by_cases c2 : x0 = 25
    · rw [if_pos c2] at h
      refine Rn.sw (t := 48) (st' := []) dk_35_1 (fun _ _ => rfl) (by rw [c2]; rfl) ?_
      refine Rn.pu (st' := [.long x1]) dk_35_48 L_35 rfl ?_
      refine Rn.pu (st' := [.long x3, .long x1]) dk_35_49 L_35 rfl ?_
      refine Rn.pu (st' := [.long (x1 ^^^ x3)]) dk_35_50 L_35 rfl ?_
      cases h
      exact Rn.rl dk_35_51 R_35
    · rw [if_neg c2] at h
      by_cases c3 : x0 = 26
      · rw [if_pos c3] at h
        refine Rn.sw (t := 52) (st' := []) dk_35_1 (fun _ _ => rfl) (by rw [c3]; rfl) ?_
        refine Rn.pu (st' := [.long x1]) dk_35_52 L_35 rfl ?_
        refine Rn.pu (st' := [.long x3, .long x1]) dk_35_53 L_35 rfl ?_
        refine Rn.pu (st' := [.long (x1 &&& x3)]) dk_35_54 L_35 rfl ?_
        cases h
        exact Rn.rl dk_35_55 R_35
      · rw [if_neg c3] at h
        by_cases c4 : x0 = 27
        · rw [if_pos c4] at h
          refine Rn.sw (t := 56) (st' := []) dk_35_1 (fun _ _ => rfl) (by rw [c4]; rfl) ?_
          refine Rn.pu (st' := [.long x1]) dk_35_56 L_35 rfl ?_
          refine Rn.pu (st' := [.long x3, .long x1]) dk_35_57 L_35 rfl ?_
          refine Rn.ldl dk_35_58 kl_35_58 ?_
          refine Rn.pu (st' := [.long (x3 &&& 63), .long x1]) dk_35_61 L_35 rfl ?_
          refine Rn.pu (st' := [.int (Int64.toInt32 (x3 &&& 63)), .long x1]) dk_35_62 L_35 rfl ?_
          refine Rn.pu (st' := [.long (x1 <<< ((Int32.toInt64 (Int64.toInt32 (x3 &&& 63))) &&& 63))]) dk_35_63 L_35 rfl ?_
          cases h
          exact Rn.rl dk_35_64 R_35
        · rw [if_neg c4] at h
          by_cases c5 : x0 = 28
          · rw [if_pos c5] at h
            refine Rn.sw (t := 65) (st' := []) dk_35_1 (fun _ _ => rfl) (by rw [c5]; rfl) ?_
            refine Rn.pu (st' := [.long x1]) dk_35_65 L_35 rfl ?_
            refine Rn.pu (st' := [.long x3, .long x1]) dk_35_66 L_35 rfl ?_
            refine Rn.ldl dk_35_67 kl_35_67 ?_
            refine Rn.pu (st' := [.long (x3 &&& 63), .long x1]) dk_35_70 L_35 rfl ?_
            refine Rn.pu (st' := [.int (Int64.toInt32 (x3 &&& 63)), .long x1]) dk_35_71 L_35 rfl ?_
            refine Rn.pu (st' := [.long (x1 >>> ((Int32.toInt64 (Int64.toInt32 (x3 &&& 63))) &&& 63))]) dk_35_72 L_35 rfl ?_
            cases h
            exact Rn.rl dk_35_73 R_35
          · rw [if_neg c5] at h
            by_cases c6 : x0 = 29
            · rw [if_pos c6] at h
              refine Rn.sw (t := 74) (st' := []) dk_35_1 (fun _ _ => rfl) (by rw [c6]; rfl) ?_
              refine Rn.pu (st' := [.long x1]) dk_35_74 L_35 rfl ?_
              refine Rn.pu (st' := [.long x3, .long x1]) dk_35_75 L_35 rfl ?_
              refine Rn.pu (st' := [.long (x1 + x3)]) dk_35_76 L_35 rfl ?_
              cases h
              exact Rn.rl dk_35_77 R_35
            · rw [if_neg c6] at h
              by_cases c7 : x0 = 30
              · rw [if_pos c7] at h
                refine Rn.sw (t := 78) (st' := []) dk_35_1 (fun _ _ => rfl) (by rw [c7]; rfl) ?_
                refine Rn.pu (st' := [.long x1]) dk_35_78 L_35 rfl ?_
                refine Rn.pu (st' := [.long x3, .long x1]) dk_35_79 L_35 rfl ?_
                refine Rn.pu (st' := [.long (x1 - x3)]) dk_35_80 L_35 rfl ?_
                cases h
                exact Rn.rl dk_35_81 R_35
              · rw [if_neg c7] at h
                have q0 : xm_br (.tableswitch (81) 24 30 #[43, 47, 51, 55, 64, 73, 77]) 43 1 (.int x0 :: []) = some (true, 82, []) := by
                  have q1 := i_ne c1 (z := 24) rfl
                  have q2 := i_ne c2 (z := 25) rfl
                  have q3 := i_ne c3 (z := 26) rfl
                  have q4 := i_ne c4 (z := 27) rfl
                  have q5 := i_ne c5 (z := 28) rfl
                  have q6 := i_ne c6 (z := 29) rfl
                  have q7 := i_ne c7 (z := 30) rfl
                  exact ts_def (by omega) rfl
                refine Rn.sw dk_35_1 (fun _ _ => rfl) q0 ?_
                refine Rn.pu (st' := [.long x1]) dk_35_82 L_35 rfl ?_
                refine Rn.pu (st' := [.long x3, .long x1]) dk_35_83 L_35 rfl ?_
                refine Rn.pu (st' := [.long (x1 * x3)]) dk_35_84 L_35 rfl ?_
                cases h
                exact Rn.rl dk_35_85 R_35
def m_35 (x0 : Int32) (x1 : Int64) (x3 : Int64) (I : dI) (J : dJ) : Option Int64 := b_35_0 x0 x1 x3 I J
theorem x_35 {Q : Nat → Option Nat} {D : Nat} (hD : 2 ≤ D) {x0 : Int32} {x1 : Int64} {x3 : Int64} {I : dI} {J : dJ} {R : Int64} (h : m_35 x0 x1 x3 I J = some R) : Ex Q D 35 I J [.int x0, .long x1, .long x3] (some (.long R)) I J := by
  obtain ⟨D, rfl⟩ : ∃ D', D = D' + 1 := ⟨D - 1, by omega⟩
  exact Ex.of (by decide) (by rw [L_35]; exact Nat.le_of_ble_eq_true rfl) (show xm_sub [(0, .int x0), (1, .long x1), (3, .long x3)] [(0, .int x0), (1, .long x1), (3, .long x3)] from xm_sub_of [0, 1, 2] [0, 1, 3] rfl rfl (by decide)) (p_35_0 (Nat.le_of_succ_le_succ hD) _ _ _ _ _ _ h)
-- ConditionDesk$Worker.workChanged(II)J
theorem L_22 : tb_mL 22 = 5 := by decide +kernel
theorem R_22 : tb_mr 22 = some .long := by decide +kernel
theorem dk_22_0 : decode (tb_mb 22) 0 = .ok (.aload_n 0, 1) := by decide +kernel
theorem dk_22_1 : decode (tb_mb 22) 1 = .ok (.aload_n 0, 1) := by decide +kernel
theorem dk_22_2 : decode (tb_mb 22) 2 = .ok (.getfield 12, 3) := by decide +kernel
theorem f_22_2 : ∃ b, tb_fr (tb_oc 22) 12 = some (7, 1, b) := ⟨_, rfl⟩
theorem dk_22_5 : decode (tb_mb 22) 5 = .ok (.iload_n 1, 1) := by decide +kernel
theorem dk_22_6 : decode (tb_mb 22) 6 = .ok (.invokevirtual 58, 3) := by decide +kernel
theorem ck_22_6 : ∃ b, tb_cr (tb_oc 22) 58 = some (0, 21, b, 1) := ⟨_, rfl⟩
theorem dk_22_9 : decode (tb_mb 22) 9 = .ok (.iload_n 2, 1) := by decide +kernel
theorem dk_22_10 : decode (tb_mb 22) 10 = .ok (.iconst (1), 1) := by decide +kernel
theorem dk_22_11 : decode (tb_mb 22) 11 = .ok (.iadd, 1) := by decide +kernel
theorem dk_22_12 : decode (tb_mb 22) 12 = .ok (.invokevirtual 47, 3) := by decide +kernel
theorem ck_22_12 : ∃ b, tb_cr (tb_oc 22) 47 = some (0, 15, b, 2) := ⟨_, rfl⟩
theorem dk_22_15 : decode (tb_mb 22) 15 = .ok (.lstore_n 3, 1) := by decide +kernel
theorem dk_22_16 : decode (tb_mb 22) 16 = .ok (.aload_n 0, 1) := by decide +kernel
theorem dk_22_17 : decode (tb_mb 22) 17 = .ok (.getfield 25, 3) := by decide +kernel
theorem f_22_17 : ∃ b, tb_fr (tb_oc 22) 25 = some (7, 4, b) := ⟨_, rfl⟩
theorem dk_22_20 : decode (tb_mb 22) 20 = .ok (.ifCond .eq (17), 3) := by decide +kernel
theorem dk_22_37 : decode (tb_mb 22) 37 = .ok (.iconst (0), 1) := by decide +kernel
theorem dk_22_38 : decode (tb_mb 22) 38 = .ok (.invokestatic 104, 3) := by decide +kernel
theorem ck_22_38 : ∃ b, tb_cr (tb_oc 22) 104 = some (1, 23, b, 1) := ⟨_, rfl⟩
theorem dk_22_41 : decode (tb_mb 22) 41 = .ok (.lreturn, 1) := by decide +kernel
theorem dk_22_23 : decode (tb_mb 22) 23 = .ok (.lload_n 3, 1) := by decide +kernel
theorem dk_22_24 : decode (tb_mb 22) 24 = .ok (.aload_n 0, 1) := by decide +kernel
theorem dk_22_25 : decode (tb_mb 22) 25 = .ok (.iload_n 1, 1) := by decide +kernel
theorem dk_22_26 : decode (tb_mb 22) 26 = .ok (.invokevirtual 85, 3) := by decide +kernel
theorem ck_22_26 : ∃ b, tb_cr (tb_oc 22) 85 = some (0, 20, b, 1) := ⟨_, rfl⟩
theorem dk_22_29 : decode (tb_mb 22) 29 = .ok (.lcmp, 1) := by decide +kernel
theorem dk_22_30 : decode (tb_mb 22) 30 = .ok (.ifCond .eq (7), 3) := by decide +kernel
theorem dk_22_33 : decode (tb_mb 22) 33 = .ok (.iconst (1), 1) := by decide +kernel
theorem dk_22_34 : decode (tb_mb 22) 34 = .ok (.goto (4), 3) := by decide +kernel
def b_22_38 (W : Int32 → Int32 → dI → dJ → Option (Int64 × dI × dJ)) (s0 : Int32) (I : dI) (J : dJ) : Option (Int64 × dI × dJ) := (m_23 s0 I J).bind (fun r6 => some (r6, I, J))
theorem p_22_38 {Q : Nat → Option Nat} {D : Nat} {p : Nat} (hD : 2 ≤ D) {W : Int32 → Int32 → dI → dJ → Option (Int64 × dI × dJ)} (hW : ∀ (a b : Int32) (I : dI) (J : dJ) (R : Int64 × dI × dJ), W a b I J = some R → Ex Q D 15 I J [.ref p, .int a, .int b] (some (.long R.1)) R.2.1 R.2.2) (s0 : Int32) (I : dI) (J : dJ) (R : (Int64 × dI × dJ)) (h : b_22_38 W s0 I J = some R) : Rn Q D 22 38 [] [.int s0] I J (some (.long R.1)) R.2.1 R.2.2 := by
  replace h : ((m_23 s0 I J).bind (fun r6 => some (r6, I, J))) = some R := h
  obtain ⟨r6, e7, h⟩ := bindS h
  refine Rn.csJ (As := [.int s0]) (rest := []) dk_22_38 ck_22_38.choose_spec rfl (x_23 (Nat.le_trans (Nat.le_of_ble_eq_true rfl) hD) e7) ?_
  cases h
  exact Rn.rl dk_22_41 R_22
def b_22_37 (W : Int32 → Int32 → dI → dJ → Option (Int64 × dI × dJ)) (I : dI) (J : dJ) : Option (Int64 × dI × dJ) := b_22_38 W 0 I J
theorem p_22_37 {Q : Nat → Option Nat} {D : Nat} {p : Nat} (hD : 2 ≤ D) {W : Int32 → Int32 → dI → dJ → Option (Int64 × dI × dJ)} (hW : ∀ (a b : Int32) (I : dI) (J : dJ) (R : Int64 × dI × dJ), W a b I J = some R → Ex Q D 15 I J [.ref p, .int a, .int b] (some (.long R.1)) R.2.1 R.2.2) (I : dI) (J : dJ) (R : (Int64 × dI × dJ)) (h : b_22_37 W I J = some R) : Rn Q D 22 37 [] [] I J (some (.long R.1)) R.2.1 R.2.2 := by
  replace h : (b_22_38 W 0 I J) = some R := h
  refine Rn.ic dk_22_37 cic_0 ?_
  exact Rn.wk [] rfl (p_22_38 hD hW _ _ _ _ h)
def b_22_0 (W : Int32 → Int32 → dI → dJ → Option (Int64 × dI × dJ)) (p : Nat) (x1 : Int32) (x2 : Int32) (I : dI) (J : dJ) : Option (Int64 × dI × dJ) := (m_21 (p + 1) x1 I J).bind (fun r1 => (W r1 (x2 + 1) I J).bind (fun r3 => if (r3.2.1 p 4) = 0 then (b_22_37 W r3.2.1 r3.2.2) else ((m_20 p x1 r3.2.1 r3.2.2).bind (fun r6 => if (lg_cmp r3.1 r6) = 0 then (b_22_37 W r3.2.1 r3.2.2) else (b_22_38 W 1 r3.2.1 r3.2.2)))))
theorem p_22_0 {Q : Nat → Option Nat} {D : Nat} {p : Nat} (hD : 2 ≤ D) {W : Int32 → Int32 → dI → dJ → Option (Int64 × dI × dJ)} (hW : ∀ (a b : Int32) (I : dI) (J : dJ) (R : Int64 × dI × dJ), W a b I J = some R → Ex Q D 15 I J [.ref p, .int a, .int b] (some (.long R.1)) R.2.1 R.2.2) (okp : okW p) (x1 : Int32) (x2 : Int32) (I : dI) (J : dJ) (R : (Int64 × dI × dJ)) (h : b_22_0 W p x1 x2 I J = some R) : Rn Q D 22 0 [(0, .ref p), (1, .int x1), (2, .int x2)] [] I J (some (.long R.1)) R.2.1 R.2.2 := by
  replace h : ((m_21 (p + 1) x1 I J).bind (fun r1 => (W r1 (x2 + 1) I J).bind (fun r3 => if (r3.2.1 p 4) = 0 then (b_22_37 W r3.2.1 r3.2.2) else ((m_20 p x1 r3.2.1 r3.2.2).bind (fun r6 => if (lg_cmp r3.1 r6) = 0 then (b_22_37 W r3.2.1 r3.2.2) else (b_22_38 W 1 r3.2.1 r3.2.2)))))) = some R := h
  refine Rn.pu (st' := [.ref p]) dk_22_0 L_22 rfl ?_
  refine Rn.pu (st' := [.ref p, .ref p]) dk_22_1 L_22 rfl ?_
  refine Rn.gR (r := (p + 1)) dk_22_2 f_22_2.choose_spec okp.1 rfl ?_
  refine Rn.pu (st' := [.int x1, .ref (p + 1), .ref p]) dk_22_5 L_22 rfl ?_
  obtain ⟨r1, e2, h⟩ := bindS h
  refine Rn.cvI (p := (p + 1)) (As := [.int x1]) (rest := [.ref p]) dk_22_6 ck_22_6.choose_spec rfl okp.2.1.1 rfl (x_21 (Nat.le_trans (Nat.le_of_ble_eq_true rfl) hD) okp.2.1 e2) ?_
  refine Rn.pu (st' := [.int x2, .int r1, .ref p]) dk_22_9 L_22 rfl ?_
  refine Rn.ic dk_22_10 cic_1 ?_
  refine Rn.pu (st' := [.int (x2 + 1), .int r1, .ref p]) dk_22_11 L_22 rfl ?_
  obtain ⟨r3, e4, h⟩ := bindS h
  refine Rn.cvJ (p := p) (As := [.int r1, .int (x2 + 1)]) (rest := []) dk_22_12 ck_22_12.choose_spec rfl okp.1 rfl (hW _ _ _ _ _ e4) ?_
  refine Rn.pu (ls' := [(3, .long r3.1), (0, .ref p), (1, .int x1), (2, .int x2)]) (st' := []) dk_22_15 L_22 rfl ?_
  refine Rn.pu (st' := [.ref p]) dk_22_16 L_22 rfl ?_
  refine Rn.gI dk_22_17 f_22_17.choose_spec okp.1 rfl ?_
  by_cases c5 : (r3.2.1 p 4) = 0
  · rw [if_pos c5] at h
    refine Rn.i1t (t := 37) dk_22_20 rfl (decide_eq_true c5) ?_
    exact Rn.wk [] rfl (p_22_37 hD hW _ _ _ h)
  · rw [if_neg c5] at h
    refine Rn.i1f (t := 37) dk_22_20 rfl (decide_eq_false c5) ?_
    refine Rn.pu (st' := [.long r3.1]) dk_22_23 L_22 rfl ?_
    refine Rn.pu (st' := [.ref p, .long r3.1]) dk_22_24 L_22 rfl ?_
    refine Rn.pu (st' := [.int x1, .ref p, .long r3.1]) dk_22_25 L_22 rfl ?_
    obtain ⟨r6, e7, h⟩ := bindS h
    refine Rn.cvJ (p := p) (As := [.int x1]) (rest := [.long r3.1]) dk_22_26 ck_22_26.choose_spec rfl okp.1 rfl (x_20 (Nat.le_trans (Nat.le_of_ble_eq_true rfl) hD) okp e7) ?_
    refine Rn.pu (st' := [.int (lg_cmp r3.1 r6)]) dk_22_29 L_22 rfl ?_
    by_cases c8 : (lg_cmp r3.1 r6) = 0
    · rw [if_pos c8] at h
      refine Rn.i1t (t := 37) dk_22_30 rfl (decide_eq_true c8) ?_
      exact Rn.wk [] rfl (p_22_37 hD hW _ _ _ h)
    · rw [if_neg c8] at h
      refine Rn.i1f (t := 37) dk_22_30 rfl (decide_eq_false c8) ?_
      refine Rn.ic dk_22_33 cic_1 ?_
      refine Rn.gt (t := 38) dk_22_34 rfl ?_
      exact Rn.wk [] rfl (p_22_38 hD hW _ _ _ _ h)
def m_22 (W : Int32 → Int32 → dI → dJ → Option (Int64 × dI × dJ)) (p : Nat) (x1 : Int32) (x2 : Int32) (I : dI) (J : dJ) : Option (Int64 × dI × dJ) := b_22_0 W p x1 x2 I J
theorem x_22 {Q : Nat → Option Nat} {D : Nat} {p : Nat} (hD : 2 ≤ D) {W : Int32 → Int32 → dI → dJ → Option (Int64 × dI × dJ)} (hW : ∀ (a b : Int32) (I : dI) (J : dJ) (R : Int64 × dI × dJ), W a b I J = some R → Ex Q D 15 I J [.ref p, .int a, .int b] (some (.long R.1)) R.2.1 R.2.2) (okp : okW p) {x1 : Int32} {x2 : Int32} {I : dI} {J : dJ} {R : (Int64 × dI × dJ)} (h : m_22 W p x1 x2 I J = some R) : Ex Q (D + 1) 22 I J [.ref p, .int x1, .int x2] (some (.long R.1)) R.2.1 R.2.2 := by
  exact Ex.of (by decide) (by rw [L_22]; exact Nat.le_of_ble_eq_true rfl) (show xm_sub [(0, .ref p), (1, .int x1), (2, .int x2)] [(0, .ref p), (1, .int x1), (2, .int x2)] from xm_sub_of [0, 1, 2] [0, 1, 2] rfl rfl (by decide)) (p_22_0 hD hW okp _ _ _ _ _ h)
-- ConditionDesk$Worker.workTruth(II)J
theorem L_29 : tb_mL 29 = 5 := by decide +kernel
theorem R_29 : tb_mr 29 = some .long := by decide +kernel
theorem dk_29_0 : decode (tb_mb 29) 0 = .ok (.aload_n 0, 1) := by decide +kernel
theorem dk_29_1 : decode (tb_mb 29) 1 = .ok (.aload_n 0, 1) := by decide +kernel
theorem dk_29_2 : decode (tb_mb 29) 2 = .ok (.getfield 12, 3) := by decide +kernel
theorem f_29_2 : ∃ b, tb_fr (tb_oc 29) 12 = some (7, 1, b) := ⟨_, rfl⟩
theorem dk_29_5 : decode (tb_mb 29) 5 = .ok (.iload_n 1, 1) := by decide +kernel
theorem dk_29_6 : decode (tb_mb 29) 6 = .ok (.invokevirtual 58, 3) := by decide +kernel
theorem ck_29_6 : ∃ b, tb_cr (tb_oc 29) 58 = some (0, 21, b, 1) := ⟨_, rfl⟩
theorem dk_29_9 : decode (tb_mb 29) 9 = .ok (.iload_n 2, 1) := by decide +kernel
theorem dk_29_10 : decode (tb_mb 29) 10 = .ok (.iconst (1), 1) := by decide +kernel
theorem dk_29_11 : decode (tb_mb 29) 11 = .ok (.iadd, 1) := by decide +kernel
theorem dk_29_12 : decode (tb_mb 29) 12 = .ok (.invokevirtual 47, 3) := by decide +kernel
theorem ck_29_12 : ∃ b, tb_cr (tb_oc 29) 47 = some (0, 15, b, 2) := ⟨_, rfl⟩
theorem dk_29_15 : decode (tb_mb 29) 15 = .ok (.lconst 0, 1) := by decide +kernel
theorem dk_29_16 : decode (tb_mb 29) 16 = .ok (.lcmp, 1) := by decide +kernel
theorem dk_29_17 : decode (tb_mb 29) 17 = .ok (.ifCond .eq (7), 3) := by decide +kernel
theorem dk_29_24 : decode (tb_mb 29) 24 = .ok (.iconst (0), 1) := by decide +kernel
theorem dk_29_25 : decode (tb_mb 29) 25 = .ok (.istore_n 3, 1) := by decide +kernel
theorem dk_29_26 : decode (tb_mb 29) 26 = .ok (.aload_n 0, 1) := by decide +kernel
theorem dk_29_27 : decode (tb_mb 29) 27 = .ok (.getfield 12, 3) := by decide +kernel
theorem f_29_27 : ∃ b, tb_fr (tb_oc 29) 12 = some (7, 1, b) := ⟨_, rfl⟩
theorem dk_29_30 : decode (tb_mb 29) 30 = .ok (.iload_n 1, 1) := by decide +kernel
theorem dk_29_31 : decode (tb_mb 29) 31 = .ok (.invokevirtual 54, 3) := by decide +kernel
theorem ck_29_31 : ∃ b, tb_cr (tb_oc 29) 54 = some (0, 17, b, 1) := ⟨_, rfl⟩
theorem dk_29_34 : decode (tb_mb 29) 34 = .ok (.bipush (16), 2) := by decide +kernel
theorem dk_29_36 : decode (tb_mb 29) 36 = .ok (.if_icmp .ne (7), 3) := by decide +kernel
theorem dk_29_43 : decode (tb_mb 29) 43 = .ok (.iconst (0), 1) := by decide +kernel
theorem dk_29_44 : decode (tb_mb 29) 44 = .ok (.istore 4, 2) := by decide +kernel
theorem dk_29_46 : decode (tb_mb 29) 46 = .ok (.iload_n 3, 1) := by decide +kernel
theorem dk_29_47 : decode (tb_mb 29) 47 = .ok (.iload 4, 2) := by decide +kernel
theorem dk_29_49 : decode (tb_mb 29) 49 = .ok (.if_icmp .ne (8), 3) := by decide +kernel
theorem dk_29_57 : decode (tb_mb 29) 57 = .ok (.aload_n 0, 1) := by decide +kernel
theorem dk_29_58 : decode (tb_mb 29) 58 = .ok (.aload_n 0, 1) := by decide +kernel
theorem dk_29_59 : decode (tb_mb 29) 59 = .ok (.getfield 12, 3) := by decide +kernel
theorem f_29_59 : ∃ b, tb_fr (tb_oc 29) 12 = some (7, 1, b) := ⟨_, rfl⟩
theorem dk_29_62 : decode (tb_mb 29) 62 = .ok (.iload_n 1, 1) := by decide +kernel
theorem dk_29_63 : decode (tb_mb 29) 63 = .ok (.invokevirtual 108, 3) := by decide +kernel
theorem ck_29_63 : ∃ b, tb_cr (tb_oc 29) 108 = some (0, 30, b, 1) := ⟨_, rfl⟩
theorem dk_29_66 : decode (tb_mb 29) 66 = .ok (.iload_n 2, 1) := by decide +kernel
theorem dk_29_67 : decode (tb_mb 29) 67 = .ok (.iconst (1), 1) := by decide +kernel
theorem dk_29_68 : decode (tb_mb 29) 68 = .ok (.iadd, 1) := by decide +kernel
theorem dk_29_69 : decode (tb_mb 29) 69 = .ok (.invokevirtual 47, 3) := by decide +kernel
theorem ck_29_69 : ∃ b, tb_cr (tb_oc 29) 47 = some (0, 15, b, 2) := ⟨_, rfl⟩
theorem dk_29_72 : decode (tb_mb 29) 72 = .ok (.lconst 0, 1) := by decide +kernel
theorem dk_29_73 : decode (tb_mb 29) 73 = .ok (.lcmp, 1) := by decide +kernel
theorem dk_29_74 : decode (tb_mb 29) 74 = .ok (.ifCond .eq (7), 3) := by decide +kernel
theorem dk_29_81 : decode (tb_mb 29) 81 = .ok (.iconst (0), 1) := by decide +kernel
theorem dk_29_82 : decode (tb_mb 29) 82 = .ok (.invokestatic 104, 3) := by decide +kernel
theorem ck_29_82 : ∃ b, tb_cr (tb_oc 29) 104 = some (1, 23, b, 1) := ⟨_, rfl⟩
theorem dk_29_85 : decode (tb_mb 29) 85 = .ok (.lreturn, 1) := by decide +kernel
theorem dk_29_77 : decode (tb_mb 29) 77 = .ok (.iconst (1), 1) := by decide +kernel
theorem dk_29_78 : decode (tb_mb 29) 78 = .ok (.goto (4), 3) := by decide +kernel
theorem dk_29_52 : decode (tb_mb 29) 52 = .ok (.iload_n 3, 1) := by decide +kernel
theorem dk_29_53 : decode (tb_mb 29) 53 = .ok (.invokestatic 104, 3) := by decide +kernel
theorem ck_29_53 : ∃ b, tb_cr (tb_oc 29) 104 = some (1, 23, b, 1) := ⟨_, rfl⟩
theorem dk_29_56 : decode (tb_mb 29) 56 = .ok (.lreturn, 1) := by decide +kernel
theorem dk_29_39 : decode (tb_mb 29) 39 = .ok (.iconst (1), 1) := by decide +kernel
theorem dk_29_40 : decode (tb_mb 29) 40 = .ok (.goto (4), 3) := by decide +kernel
theorem dk_29_20 : decode (tb_mb 29) 20 = .ok (.iconst (1), 1) := by decide +kernel
theorem dk_29_21 : decode (tb_mb 29) 21 = .ok (.goto (4), 3) := by decide +kernel
def b_29_82 (W : Int32 → Int32 → dI → dJ → Option (Int64 × dI × dJ)) (s0 : Int32) (I : dI) (J : dJ) : Option (Int64 × dI × dJ) := (m_23 s0 I J).bind (fun r15 => some (r15, I, J))
theorem p_29_82 {Q : Nat → Option Nat} {D : Nat} {p : Nat} (hD : 2 ≤ D) {W : Int32 → Int32 → dI → dJ → Option (Int64 × dI × dJ)} (hW : ∀ (a b : Int32) (I : dI) (J : dJ) (R : Int64 × dI × dJ), W a b I J = some R → Ex Q D 15 I J [.ref p, .int a, .int b] (some (.long R.1)) R.2.1 R.2.2) (s0 : Int32) (I : dI) (J : dJ) (R : (Int64 × dI × dJ)) (h : b_29_82 W s0 I J = some R) : Rn Q D 29 82 [] [.int s0] I J (some (.long R.1)) R.2.1 R.2.2 := by
  replace h : ((m_23 s0 I J).bind (fun r15 => some (r15, I, J))) = some R := h
  obtain ⟨r15, e16, h⟩ := bindS h
  refine Rn.csJ (As := [.int s0]) (rest := []) dk_29_82 ck_29_82.choose_spec rfl (x_23 (Nat.le_trans (Nat.le_of_ble_eq_true rfl) hD) e16) ?_
  cases h
  exact Rn.rl dk_29_85 R_29
def b_29_44 (W : Int32 → Int32 → dI → dJ → Option (Int64 × dI × dJ)) (p : Nat) (x1 : Int32) (x2 : Int32) (x3 : Int32) (s0 : Int32) (I : dI) (J : dJ) : Option (Int64 × dI × dJ) := if ¬ x3 = s0 then ((m_30 (p + 1) x1 I J).bind (fun r10 => (W r10 (x2 + 1) I J).bind (fun r12 => if (lg_cmp r12.1 0) = 0 then (b_29_82 W 0 r12.2.1 r12.2.2) else (b_29_82 W 1 r12.2.1 r12.2.2)))) else ((m_23 x3 I J).bind (fun r15 => some (r15, I, J)))
theorem p_29_44 {Q : Nat → Option Nat} {D : Nat} {p : Nat} (hD : 2 ≤ D) {W : Int32 → Int32 → dI → dJ → Option (Int64 × dI × dJ)} (hW : ∀ (a b : Int32) (I : dI) (J : dJ) (R : Int64 × dI × dJ), W a b I J = some R → Ex Q D 15 I J [.ref p, .int a, .int b] (some (.long R.1)) R.2.1 R.2.2) (okp : okW p) (x1 : Int32) (x2 : Int32) (x3 : Int32) (s0 : Int32) (I : dI) (J : dJ) (R : (Int64 × dI × dJ)) (h : b_29_44 W p x1 x2 x3 s0 I J = some R) : Rn Q D 29 44 [(0, .ref p), (1, .int x1), (2, .int x2), (3, .int x3)] [.int s0] I J (some (.long R.1)) R.2.1 R.2.2 := by
  replace h : (if ¬ x3 = s0 then ((m_30 (p + 1) x1 I J).bind (fun r10 => (W r10 (x2 + 1) I J).bind (fun r12 => if (lg_cmp r12.1 0) = 0 then (b_29_82 W 0 r12.2.1 r12.2.2) else (b_29_82 W 1 r12.2.1 r12.2.2)))) else ((m_23 x3 I J).bind (fun r15 => some (r15, I, J)))) = some R := h
  refine Rn.pu (ls' := [(4, .int s0), (0, .ref p), (1, .int x1), (2, .int x2), (3, .int x3)]) (st' := []) dk_29_44 L_29 rfl ?_
  refine Rn.pu (st' := [.int x3]) dk_29_46 L_29 rfl ?_
  refine Rn.pu (st' := [.int s0, .int x3]) dk_29_47 L_29 rfl ?_
  by_cases c9 : ¬ x3 = s0
  · rw [if_pos c9] at h
    refine Rn.i2t (t := 57) dk_29_49 rfl (decide_eq_true c9) ?_
    refine Rn.pu (st' := [.ref p]) dk_29_57 L_29 rfl ?_
    refine Rn.pu (st' := [.ref p, .ref p]) dk_29_58 L_29 rfl ?_
    refine Rn.gR (r := (p + 1)) dk_29_59 f_29_59.choose_spec okp.1 rfl ?_
    refine Rn.pu (st' := [.int x1, .ref (p + 1), .ref p]) dk_29_62 L_29 rfl ?_
    obtain ⟨r10, e11, h⟩ := bindS h
    refine Rn.cvI (p := (p + 1)) (As := [.int x1]) (rest := [.ref p]) dk_29_63 ck_29_63.choose_spec rfl okp.2.1.1 rfl (x_30 (Nat.le_trans (Nat.le_of_ble_eq_true rfl) hD) okp.2.1 e11) ?_
    refine Rn.pu (st' := [.int x2, .int r10, .ref p]) dk_29_66 L_29 rfl ?_
    refine Rn.ic dk_29_67 cic_1 ?_
    refine Rn.pu (st' := [.int (x2 + 1), .int r10, .ref p]) dk_29_68 L_29 rfl ?_
    obtain ⟨r12, e13, h⟩ := bindS h
    refine Rn.cvJ (p := p) (As := [.int r10, .int (x2 + 1)]) (rest := []) dk_29_69 ck_29_69.choose_spec rfl okp.1 rfl (hW _ _ _ _ _ e13) ?_
    refine Rn.lc dk_29_72 clc_0 ?_
    refine Rn.pu (st' := [.int (lg_cmp r12.1 0)]) dk_29_73 L_29 rfl ?_
    by_cases c14 : (lg_cmp r12.1 0) = 0
    · rw [if_pos c14] at h
      refine Rn.i1t (t := 81) dk_29_74 rfl (decide_eq_true c14) ?_
      refine Rn.ic dk_29_81 cic_0 ?_
      exact Rn.wk [] rfl (p_29_82 hD hW _ _ _ _ h)
    · rw [if_neg c14] at h
      refine Rn.i1f (t := 81) dk_29_74 rfl (decide_eq_false c14) ?_
      refine Rn.ic dk_29_77 cic_1 ?_
      refine Rn.gt (t := 82) dk_29_78 rfl ?_
      exact Rn.wk [] rfl (p_29_82 hD hW _ _ _ _ h)
  · rw [if_neg c9] at h
    refine Rn.i2f (t := 57) dk_29_49 rfl (decide_eq_false c9) ?_
    refine Rn.pu (st' := [.int x3]) dk_29_52 L_29 rfl ?_
    obtain ⟨r15, e16, h⟩ := bindS h
    refine Rn.csJ (As := [.int x3]) (rest := []) dk_29_53 ck_29_53.choose_spec rfl (x_23 (Nat.le_trans (Nat.le_of_ble_eq_true rfl) hD) e16) ?_
    cases h
    exact Rn.rl dk_29_56 R_29
def b_29_25 (W : Int32 → Int32 → dI → dJ → Option (Int64 × dI × dJ)) (p : Nat) (x1 : Int32) (x2 : Int32) (s0 : Int32) (I : dI) (J : dJ) : Option (Int64 × dI × dJ) := (m_17 (p + 1) x1 I J).bind (fun r6 => if ¬ r6 = 16 then (b_29_44 W p x1 x2 s0 0 I J) else (b_29_44 W p x1 x2 s0 1 I J))
theorem p_29_25 {Q : Nat → Option Nat} {D : Nat} {p : Nat} (hD : 2 ≤ D) {W : Int32 → Int32 → dI → dJ → Option (Int64 × dI × dJ)} (hW : ∀ (a b : Int32) (I : dI) (J : dJ) (R : Int64 × dI × dJ), W a b I J = some R → Ex Q D 15 I J [.ref p, .int a, .int b] (some (.long R.1)) R.2.1 R.2.2) (okp : okW p) (x1 : Int32) (x2 : Int32) (s0 : Int32) (I : dI) (J : dJ) (R : (Int64 × dI × dJ)) (h : b_29_25 W p x1 x2 s0 I J = some R) : Rn Q D 29 25 [(0, .ref p), (1, .int x1), (2, .int x2)] [.int s0] I J (some (.long R.1)) R.2.1 R.2.2 := by
  replace h : ((m_17 (p + 1) x1 I J).bind (fun r6 => if ¬ r6 = 16 then (b_29_44 W p x1 x2 s0 0 I J) else (b_29_44 W p x1 x2 s0 1 I J))) = some R := h
  refine Rn.pu (ls' := [(3, .int s0), (0, .ref p), (1, .int x1), (2, .int x2)]) (st' := []) dk_29_25 L_29 rfl ?_
  refine Rn.pu (st' := [.ref p]) dk_29_26 L_29 rfl ?_
  refine Rn.gR (r := (p + 1)) dk_29_27 f_29_27.choose_spec okp.1 rfl ?_
  refine Rn.pu (st' := [.int x1, .ref (p + 1)]) dk_29_30 L_29 rfl ?_
  obtain ⟨r6, e7, h⟩ := bindS h
  refine Rn.cvI (p := (p + 1)) (As := [.int x1]) (rest := []) dk_29_31 ck_29_31.choose_spec rfl okp.2.1.1 rfl (x_17 (Nat.le_trans (Nat.le_of_ble_eq_true rfl) hD) okp.2.1 e7) ?_
  refine Rn.bp dk_29_34 cbp_16 ?_
  by_cases c8 : ¬ r6 = 16
  · rw [if_pos c8] at h
    refine Rn.i2t (t := 43) dk_29_36 rfl (decide_eq_true c8) ?_
    refine Rn.ic dk_29_43 cic_0 ?_
    exact Rn.wk [1, 2, 3, 0] rfl (p_29_44 hD hW okp _ _ _ _ _ _ _ h)
  · rw [if_neg c8] at h
    refine Rn.i2f (t := 43) dk_29_36 rfl (decide_eq_false c8) ?_
    refine Rn.ic dk_29_39 cic_1 ?_
    refine Rn.gt (t := 44) dk_29_40 rfl ?_
    exact Rn.wk [1, 2, 3, 0] rfl (p_29_44 hD hW okp _ _ _ _ _ _ _ h)
def b_29_0 (W : Int32 → Int32 → dI → dJ → Option (Int64 × dI × dJ)) (p : Nat) (x1 : Int32) (x2 : Int32) (I : dI) (J : dJ) : Option (Int64 × dI × dJ) := (m_21 (p + 1) x1 I J).bind (fun r1 => (W r1 (x2 + 1) I J).bind (fun r3 => if (lg_cmp r3.1 0) = 0 then (b_29_25 W p x1 x2 0 r3.2.1 r3.2.2) else (b_29_25 W p x1 x2 1 r3.2.1 r3.2.2)))
theorem p_29_0 {Q : Nat → Option Nat} {D : Nat} {p : Nat} (hD : 2 ≤ D) {W : Int32 → Int32 → dI → dJ → Option (Int64 × dI × dJ)} (hW : ∀ (a b : Int32) (I : dI) (J : dJ) (R : Int64 × dI × dJ), W a b I J = some R → Ex Q D 15 I J [.ref p, .int a, .int b] (some (.long R.1)) R.2.1 R.2.2) (okp : okW p) (x1 : Int32) (x2 : Int32) (I : dI) (J : dJ) (R : (Int64 × dI × dJ)) (h : b_29_0 W p x1 x2 I J = some R) : Rn Q D 29 0 [(0, .ref p), (1, .int x1), (2, .int x2)] [] I J (some (.long R.1)) R.2.1 R.2.2 := by
  replace h : ((m_21 (p + 1) x1 I J).bind (fun r1 => (W r1 (x2 + 1) I J).bind (fun r3 => if (lg_cmp r3.1 0) = 0 then (b_29_25 W p x1 x2 0 r3.2.1 r3.2.2) else (b_29_25 W p x1 x2 1 r3.2.1 r3.2.2)))) = some R := h
  refine Rn.pu (st' := [.ref p]) dk_29_0 L_29 rfl ?_
  refine Rn.pu (st' := [.ref p, .ref p]) dk_29_1 L_29 rfl ?_
  refine Rn.gR (r := (p + 1)) dk_29_2 f_29_2.choose_spec okp.1 rfl ?_
  refine Rn.pu (st' := [.int x1, .ref (p + 1), .ref p]) dk_29_5 L_29 rfl ?_
  obtain ⟨r1, e2, h⟩ := bindS h
  refine Rn.cvI (p := (p + 1)) (As := [.int x1]) (rest := [.ref p]) dk_29_6 ck_29_6.choose_spec rfl okp.2.1.1 rfl (x_21 (Nat.le_trans (Nat.le_of_ble_eq_true rfl) hD) okp.2.1 e2) ?_
  refine Rn.pu (st' := [.int x2, .int r1, .ref p]) dk_29_9 L_29 rfl ?_
  refine Rn.ic dk_29_10 cic_1 ?_
  refine Rn.pu (st' := [.int (x2 + 1), .int r1, .ref p]) dk_29_11 L_29 rfl ?_
  obtain ⟨r3, e4, h⟩ := bindS h
  refine Rn.cvJ (p := p) (As := [.int r1, .int (x2 + 1)]) (rest := []) dk_29_12 ck_29_12.choose_spec rfl okp.1 rfl (hW _ _ _ _ _ e4) ?_
  refine Rn.lc dk_29_15 clc_0 ?_
  refine Rn.pu (st' := [.int (lg_cmp r3.1 0)]) dk_29_16 L_29 rfl ?_
  by_cases c5 : (lg_cmp r3.1 0) = 0
  · rw [if_pos c5] at h
    refine Rn.i1t (t := 24) dk_29_17 rfl (decide_eq_true c5) ?_
    refine Rn.ic dk_29_24 cic_0 ?_
    exact Rn.wk [0, 1, 2] rfl (p_29_25 hD hW okp _ _ _ _ _ _ h)
  · rw [if_neg c5] at h
    refine Rn.i1f (t := 24) dk_29_17 rfl (decide_eq_false c5) ?_
    refine Rn.ic dk_29_20 cic_1 ?_
    refine Rn.gt (t := 25) dk_29_21 rfl ?_
    exact Rn.wk [0, 1, 2] rfl (p_29_25 hD hW okp _ _ _ _ _ _ h)
def m_29 (W : Int32 → Int32 → dI → dJ → Option (Int64 × dI × dJ)) (p : Nat) (x1 : Int32) (x2 : Int32) (I : dI) (J : dJ) : Option (Int64 × dI × dJ) := b_29_0 W p x1 x2 I J
theorem x_29 {Q : Nat → Option Nat} {D : Nat} {p : Nat} (hD : 2 ≤ D) {W : Int32 → Int32 → dI → dJ → Option (Int64 × dI × dJ)} (hW : ∀ (a b : Int32) (I : dI) (J : dJ) (R : Int64 × dI × dJ), W a b I J = some R → Ex Q D 15 I J [.ref p, .int a, .int b] (some (.long R.1)) R.2.1 R.2.2) (okp : okW p) {x1 : Int32} {x2 : Int32} {I : dI} {J : dJ} {R : (Int64 × dI × dJ)} (h : m_29 W p x1 x2 I J = some R) : Ex Q (D + 1) 29 I J [.ref p, .int x1, .int x2] (some (.long R.1)) R.2.1 R.2.2 := by
  exact Ex.of (by decide) (by rw [L_29]; exact Nat.le_of_ble_eq_true rfl) (show xm_sub [(0, .ref p), (1, .int x1), (2, .int x2)] [(0, .ref p), (1, .int x1), (2, .int x2)] from xm_sub_of [0, 1, 2] [0, 1, 2] rfl rfl (by decide)) (p_29_0 hD hW okp _ _ _ _ _ h)
