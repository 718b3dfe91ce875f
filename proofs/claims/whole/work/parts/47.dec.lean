/-! Printed by wip/whole/gen_dec.py: methods read back. -/
-- ConditionDesk$Builder.fits(I)Z
theorem L_63 : tb_mL 63 = 2 := by decide +kernel
theorem R_63 : tb_mr 63 = some .boolean := by decide +kernel
theorem dk_63_0 : decode (tb_mb 63) 0 = .ok (.aload_n 0, 1) := by decide +kernel
theorem dk_63_1 : decode (tb_mb 63) 1 = .ok (.getfield 33, 3) := by decide +kernel
theorem f_63_1 : ∃ b, tb_fr (tb_oc 63) 33 = some (0, 6, b) := ⟨_, rfl⟩
theorem dk_63_4 : decode (tb_mb 63) 4 = .ok (.tableswitch (61) 0 3 #[32, 61, 37, 49], 32) := by decide +kernel
theorem dk_63_36 : decode (tb_mb 63) 36 = .ok (.iload_n 1, 1) := by decide +kernel
theorem dk_63_37 : decode (tb_mb 63) 37 = .ok (.invokestatic 98, 3) := by decide +kernel
theorem ck_63_37 : ∃ b, tb_cr (tb_oc 63) 98 = some (1, 64, b, 1) := ⟨_, rfl⟩
theorem dk_63_40 : decode (tb_mb 63) 40 = .ok (.ireturn, 1) := by decide +kernel
theorem dk_63_41 : decode (tb_mb 63) 41 = .ok (.iload_n 1, 1) := by decide +kernel
theorem dk_63_42 : decode (tb_mb 63) 42 = .ok (.bipush (10), 2) := by decide +kernel
theorem dk_63_44 : decode (tb_mb 63) 44 = .ok (.if_icmp .ne (7), 3) := by decide +kernel
theorem dk_63_51 : decode (tb_mb 63) 51 = .ok (.iconst (0), 1) := by decide +kernel
theorem dk_63_52 : decode (tb_mb 63) 52 = .ok (.ireturn, 1) := by decide +kernel
theorem dk_63_47 : decode (tb_mb 63) 47 = .ok (.iconst (1), 1) := by decide +kernel
theorem dk_63_48 : decode (tb_mb 63) 48 = .ok (.goto (4), 3) := by decide +kernel
theorem dk_63_53 : decode (tb_mb 63) 53 = .ok (.iload_n 1, 1) := by decide +kernel
theorem dk_63_54 : decode (tb_mb 63) 54 = .ok (.bipush (12), 2) := by decide +kernel
theorem dk_63_56 : decode (tb_mb 63) 56 = .ok (.if_icmp .ne (7), 3) := by decide +kernel
theorem dk_63_63 : decode (tb_mb 63) 63 = .ok (.iconst (0), 1) := by decide +kernel
theorem dk_63_64 : decode (tb_mb 63) 64 = .ok (.ireturn, 1) := by decide +kernel
theorem dk_63_59 : decode (tb_mb 63) 59 = .ok (.iconst (1), 1) := by decide +kernel
theorem dk_63_60 : decode (tb_mb 63) 60 = .ok (.goto (4), 3) := by decide +kernel
theorem dk_63_65 : decode (tb_mb 63) 65 = .ok (.aload_n 0, 1) := by decide +kernel
theorem dk_63_66 : decode (tb_mb 63) 66 = .ok (.iload_n 1, 1) := by decide +kernel
theorem dk_63_67 : decode (tb_mb 63) 67 = .ok (.invokevirtual 101, 3) := by decide +kernel
theorem ck_63_67 : ∃ b, tb_cr (tb_oc 63) 101 = some (0, 65, b, 1) := ⟨_, rfl⟩
theorem dk_63_70 : decode (tb_mb 63) 70 = .ok (.ireturn, 1) := by decide +kernel
def b_63_0 (x1 : Int32) (I : dI) (J : dJ) : Option Int32 := if (I 6 6) = 0 then ((m_64 x1 I J).bind (fun r2 => if r2 = 0 ∨ r2 = 1 then (some r2) else none)) else if (I 6 6) = 2 then (if ¬ x1 = 10 then (some 0) else (some 1)) else if (I 6 6) = 3 then (if ¬ x1 = 12 then (some 0) else (some 1)) else ((m_65 x1 I J).bind (fun r9 => if r9 = 0 ∨ r9 = 1 then (some r9) else none))
theorem p_63_0 {Q : Nat → Option Nat} {D : Nat} (hD : 3 ≤ D) (x1 : Int32) (I : dI) (J : dJ) (R : Int32) (h : b_63_0 x1 I J = some R) : Rn Q D 63 0 [(0, .ref 6), (1, .int x1)] [] I J (some (.int R)) I J := by
  replace h : (if (I 6 6) = 0 then ((m_64 x1 I J).bind (fun r2 => if r2 = 0 ∨ r2 = 1 then (some r2) else none)) else if (I 6 6) = 2 then (if ¬ x1 = 10 then (some 0) else (some 1)) else if (I 6 6) = 3 then (if ¬ x1 = 12 then (some 0) else (some 1)) else ((m_65 x1 I J).bind (fun r9 => if r9 = 0 ∨ r9 = 1 then (some r9) else none))) = some R := h
  refine Rn.pu (st' := [.ref 6]) dk_63_0 L_63 rfl ?_
  refine Rn.gI dk_63_1 f_63_1.choose_spec sk_6 rfl ?_
  by_cases c1 : (I 6 6) = 0
  · rw [if_pos c1] at h
    refine Rn.sw (t := 36) (st' := []) dk_63_4 (fun _ _ => rfl) (by rw [c1]; rfl) ?_
    refine Rn.pu (st' := [.int x1]) dk_63_36 L_63 rfl ?_
    obtain ⟨r2, e3, h⟩ := bindS h
    refine Rn.csI (As := [.int x1]) (rest := []) dk_63_37 ck_63_37.choose_spec rfl (x_64 (Nat.le_trans (Nat.le_of_ble_eq_true rfl) hD) e3) ?_
    obtain ⟨c4, h⟩ := xm_if h
    cases h
    exact Rn.ri dk_63_40 R_63 (nar_b c4)
  · rw [if_neg c1] at h
    by_cases c5 : (I 6 6) = 2
    · rw [if_pos c5] at h
      refine Rn.sw (t := 41) (st' := []) dk_63_4 (fun _ _ => rfl) (by rw [c5]; rfl) ?_
      refine Rn.pu (st' := [.int x1]) dk_63_41 L_63 rfl ?_
      refine Rn.bp dk_63_42 cbp_10 ?_
      by_cases c6 : ¬ x1 = 10
      · rw [if_pos c6] at h
        refine Rn.i2t (t := 51) dk_63_44 rfl (decide_eq_true c6) ?_
        refine Rn.ic dk_63_51 cic_0 ?_
        cases h
        exact Rn.ri dk_63_52 R_63 rfl
      · rw [if_neg c6] at h
        refine Rn.i2f (t := 51) dk_63_44 rfl (decide_eq_false c6) ?_
        refine Rn.ic dk_63_47 cic_1 ?_
        refine Rn.gt (t := 52) dk_63_48 rfl ?_
        cases h
        exact Rn.ri dk_63_52 R_63 rfl
    · rw [if_neg c5] at h
      by_cases c7 : (I 6 6) = 3
      · rw [if_pos c7] at h
        refine Rn.sw (t := 53) (st' := []) dk_63_4 (fun _ _ => rfl) (by rw [c7]; rfl) ?_
        refine Rn.pu (st' := [.int x1]) dk_63_53 L_63 rfl ?_
        refine Rn.bp dk_63_54 cbp_12 ?_
        by_cases c8 : ¬ x1 = 12
        · rw [if_pos c8] at h
          refine Rn.i2t (t := 63) dk_63_56 rfl (decide_eq_true c8) ?_
          refine Rn.ic dk_63_63 cic_0 ?_
          cases h
          exact Rn.ri dk_63_64 R_63 rfl
        · rw [if_neg c8] at h
          refine Rn.i2f (t := 63) dk_63_56 rfl (decide_eq_false c8) ?_
          refine Rn.ic dk_63_59 cic_1 ?_
          refine Rn.gt (t := 64) dk_63_60 rfl ?_
          cases h
          exact Rn.ri dk_63_64 R_63 rfl
      · rw [if_neg c7] at h
        have q0 : xm_br (.tableswitch (61) 0 3 #[32, 61, 37, 49]) 32 4 (.int (I 6 6) :: []) = some (true, 65, []) := by
          by_cases c12 : (I 6 6) = 1
          · rw [c12]; rfl
          ·
            have q1 := i_ne c1 (z := 0) rfl
            have q2 := i_ne c5 (z := 2) rfl
            have q3 := i_ne c7 (z := 3) rfl
            have q4 := i_ne c12 (z := 1) rfl
            exact ts_def (by omega) rfl
        refine Rn.sw dk_63_4 (fun _ _ => rfl) q0 ?_
        refine Rn.pu (st' := [.ref 6]) dk_63_65 L_63 rfl ?_
        refine Rn.pu (st' := [.int x1, .ref 6]) dk_63_66 L_63 rfl ?_
        obtain ⟨r9, e10, h⟩ := bindS h
        refine Rn.cvI (p := 6) (As := [.int x1]) (rest := []) dk_63_67 ck_63_67.choose_spec rfl sk_6 rfl (x_65 (Nat.le_trans (Nat.le_of_ble_eq_true rfl) hD) e10) ?_
        obtain ⟨c11, h⟩ := xm_if h
        cases h
        exact Rn.ri dk_63_70 R_63 (nar_b c11)
def m_63 (x1 : Int32) (I : dI) (J : dJ) : Option Int32 := b_63_0 x1 I J
theorem x_63 {Q : Nat → Option Nat} {D : Nat} (hD : 4 ≤ D) {x1 : Int32} {I : dI} {J : dJ} {R : Int32} (h : m_63 x1 I J = some R) : Ex Q D 63 I J [.ref 6, .int x1] (some (.int R)) I J := by
  obtain ⟨D, rfl⟩ : ∃ D', D = D' + 1 := ⟨D - 1, by omega⟩
  exact Ex.of (by decide) (by rw [L_63]; exact Nat.le_of_ble_eq_true rfl) (show xm_sub [(0, .ref 6), (1, .int x1)] [(0, .ref 6), (1, .int x1)] from xm_sub_of [0, 1] [0, 1] rfl rfl (by decide)) (p_63_0 (Nat.le_of_succ_le_succ hD) _ _ _ _ h)
-- ConditionDesk$Builder.isPart(I)Z
theorem L_68 : tb_mL 68 = 1 := by decide +kernel
theorem R_68 : tb_mr 68 = some .boolean := by decide +kernel
theorem dk_68_0 : decode (tb_mb 68) 0 = .ok (.iload_n 0, 1) := by decide +kernel
theorem dk_68_1 : decode (tb_mb 68) 1 = .ok (.ifCond .eq (19), 3) := by decide +kernel
theorem dk_68_20 : decode (tb_mb 68) 20 = .ok (.iconst (0), 1) := by decide +kernel
theorem dk_68_21 : decode (tb_mb 68) 21 = .ok (.ireturn, 1) := by decide +kernel
theorem dk_68_4 : decode (tb_mb 68) 4 = .ok (.iload_n 0, 1) := by decide +kernel
theorem dk_68_5 : decode (tb_mb 68) 5 = .ok (.bipush (11), 2) := by decide +kernel
theorem dk_68_7 : decode (tb_mb 68) 7 = .ok (.if_icmp .eq (13), 3) := by decide +kernel
theorem dk_68_10 : decode (tb_mb 68) 10 = .ok (.iload_n 0, 1) := by decide +kernel
theorem dk_68_11 : decode (tb_mb 68) 11 = .ok (.bipush (13), 2) := by decide +kernel
theorem dk_68_13 : decode (tb_mb 68) 13 = .ok (.if_icmp .eq (7), 3) := by decide +kernel
theorem dk_68_16 : decode (tb_mb 68) 16 = .ok (.iconst (1), 1) := by decide +kernel
theorem dk_68_17 : decode (tb_mb 68) 17 = .ok (.goto (4), 3) := by decide +kernel
def b_68_0 (x0 : Int32) (I : dI) (J : dJ) : Option Int32 := if x0 = 0 then (some 0) else (if x0 = 11 then (some 0) else (if x0 = 13 then (some 0) else (some 1)))
theorem p_68_0 {Q : Nat → Option Nat} {D : Nat} (hD : 1 ≤ D) (x0 : Int32) (I : dI) (J : dJ) (R : Int32) (h : b_68_0 x0 I J = some R) : Rn Q D 68 0 [(0, .int x0)] [] I J (some (.int R)) I J := by
  replace h : (if x0 = 0 then (some 0) else (if x0 = 11 then (some 0) else (if x0 = 13 then (some 0) else (some 1)))) = some R := h
  refine Rn.pu (st' := [.int x0]) dk_68_0 L_68 rfl ?_
  by_cases c1 : x0 = 0
  · rw [if_pos c1] at h
    refine Rn.i1t (t := 20) dk_68_1 rfl (decide_eq_true c1) ?_
    refine Rn.ic dk_68_20 cic_0 ?_
    cases h
    exact Rn.ri dk_68_21 R_68 rfl
  · rw [if_neg c1] at h
    refine Rn.i1f (t := 20) dk_68_1 rfl (decide_eq_false c1) ?_
    refine Rn.pu (st' := [.int x0]) dk_68_4 L_68 rfl ?_
    refine Rn.bp dk_68_5 cbp_11 ?_
    by_cases c2 : x0 = 11
    · rw [if_pos c2] at h
      refine Rn.i2t (t := 20) dk_68_7 rfl (decide_eq_true c2) ?_
      refine Rn.ic dk_68_20 cic_0 ?_
      cases h
      exact Rn.ri dk_68_21 R_68 rfl
    · rw [if_neg c2] at h
      refine Rn.i2f (t := 20) dk_68_7 rfl (decide_eq_false c2) ?_
      refine Rn.pu (st' := [.int x0]) dk_68_10 L_68 rfl ?_
      refine Rn.bp dk_68_11 cbp_13 ?_
      by_cases c3 : x0 = 13
      · rw [if_pos c3] at h
        refine Rn.i2t (t := 20) dk_68_13 rfl (decide_eq_true c3) ?_
        refine Rn.ic dk_68_20 cic_0 ?_
        cases h
        exact Rn.ri dk_68_21 R_68 rfl
      · rw [if_neg c3] at h
        refine Rn.i2f (t := 20) dk_68_13 rfl (decide_eq_false c3) ?_
        refine Rn.ic dk_68_16 cic_1 ?_
        refine Rn.gt (t := 21) dk_68_17 rfl ?_
        cases h
        exact Rn.ri dk_68_21 R_68 rfl
def m_68 (x0 : Int32) (I : dI) (J : dJ) : Option Int32 := b_68_0 x0 I J
theorem x_68 {Q : Nat → Option Nat} {D : Nat} (hD : 2 ≤ D) {x0 : Int32} {I : dI} {J : dJ} {R : Int32} (h : m_68 x0 I J = some R) : Ex Q D 68 I J [.int x0] (some (.int R)) I J := by
  obtain ⟨D, rfl⟩ : ∃ D', D = D' + 1 := ⟨D - 1, by omega⟩
  exact Ex.of (by decide) (by rw [L_68]; exact Nat.le_of_ble_eq_true rfl) (show xm_sub [(0, .int x0)] [(0, .int x0)] from xm_sub_of [0] [0] rfl rfl (by decide)) (p_68_0 (Nat.le_of_succ_le_succ hD) _ _ _ _ h)
-- ConditionDesk$Builder.opens(I)Z
theorem L_69 : tb_mL 69 = 1 := by decide +kernel
theorem R_69 : tb_mr 69 = some .boolean := by decide +kernel
theorem dk_69_0 : decode (tb_mb 69) 0 = .ok (.iload_n 0, 1) := by decide +kernel
theorem dk_69_1 : decode (tb_mb 69) 1 = .ok (.bipush (10), 2) := by decide +kernel
theorem dk_69_3 : decode (tb_mb 69) 3 = .ok (.if_icmp .eq (9), 3) := by decide +kernel
theorem dk_69_12 : decode (tb_mb 69) 12 = .ok (.iconst (1), 1) := by decide +kernel
theorem dk_69_13 : decode (tb_mb 69) 13 = .ok (.goto (4), 3) := by decide +kernel
theorem dk_69_17 : decode (tb_mb 69) 17 = .ok (.ireturn, 1) := by decide +kernel
theorem dk_69_6 : decode (tb_mb 69) 6 = .ok (.iload_n 0, 1) := by decide +kernel
theorem dk_69_7 : decode (tb_mb 69) 7 = .ok (.bipush (12), 2) := by decide +kernel
theorem dk_69_9 : decode (tb_mb 69) 9 = .ok (.if_icmp .ne (7), 3) := by decide +kernel
theorem dk_69_16 : decode (tb_mb 69) 16 = .ok (.iconst (0), 1) := by decide +kernel
def b_69_0 (x0 : Int32) (I : dI) (J : dJ) : Option Int32 := if x0 = 10 then (some 1) else (if ¬ x0 = 12 then (some 0) else (some 1))
theorem p_69_0 {Q : Nat → Option Nat} {D : Nat} (hD : 1 ≤ D) (x0 : Int32) (I : dI) (J : dJ) (R : Int32) (h : b_69_0 x0 I J = some R) : Rn Q D 69 0 [(0, .int x0)] [] I J (some (.int R)) I J := by
  replace h : (if x0 = 10 then (some 1) else (if ¬ x0 = 12 then (some 0) else (some 1))) = some R := h
  refine Rn.pu (st' := [.int x0]) dk_69_0 L_69 rfl ?_
  refine Rn.bp dk_69_1 cbp_10 ?_
  by_cases c1 : x0 = 10
  · rw [if_pos c1] at h
    refine Rn.i2t (t := 12) dk_69_3 rfl (decide_eq_true c1) ?_
    refine Rn.ic dk_69_12 cic_1 ?_
    refine Rn.gt (t := 17) dk_69_13 rfl ?_
    cases h
    exact Rn.ri dk_69_17 R_69 rfl
  · rw [if_neg c1] at h
    refine Rn.i2f (t := 12) dk_69_3 rfl (decide_eq_false c1) ?_
    refine Rn.pu (st' := [.int x0]) dk_69_6 L_69 rfl ?_
    refine Rn.bp dk_69_7 cbp_12 ?_
    by_cases c2 : ¬ x0 = 12
    · rw [if_pos c2] at h
      refine Rn.i2t (t := 16) dk_69_9 rfl (decide_eq_true c2) ?_
      refine Rn.ic dk_69_16 cic_0 ?_
      cases h
      exact Rn.ri dk_69_17 R_69 rfl
    · rw [if_neg c2] at h
      refine Rn.i2f (t := 16) dk_69_9 rfl (decide_eq_false c2) ?_
      refine Rn.ic dk_69_12 cic_1 ?_
      refine Rn.gt (t := 17) dk_69_13 rfl ?_
      cases h
      exact Rn.ri dk_69_17 R_69 rfl
def m_69 (x0 : Int32) (I : dI) (J : dJ) : Option Int32 := b_69_0 x0 I J
theorem x_69 {Q : Nat → Option Nat} {D : Nat} (hD : 2 ≤ D) {x0 : Int32} {I : dI} {J : dJ} {R : Int32} (h : m_69 x0 I J = some R) : Ex Q D 69 I J [.int x0] (some (.int R)) I J := by
  obtain ⟨D, rfl⟩ : ∃ D', D = D' + 1 := ⟨D - 1, by omega⟩
  exact Ex.of (by decide) (by rw [L_69]; exact Nat.le_of_ble_eq_true rfl) (show xm_sub [(0, .int x0)] [(0, .int x0)] from xm_sub_of [0] [0] rfl rfl (by decide)) (p_69_0 (Nat.le_of_succ_le_succ hD) _ _ _ _ h)
-- ConditionDesk$Builder.faultOf(I)I
theorem L_62 : tb_mL 62 = 2 := by decide +kernel
theorem R_62 : tb_mr 62 = some .int := by decide +kernel
theorem dk_62_0 : decode (tb_mb 62) 0 = .ok (.aload_n 0, 1) := by decide +kernel
theorem dk_62_1 : decode (tb_mb 62) 1 = .ok (.iload_n 1, 1) := by decide +kernel
theorem dk_62_2 : decode (tb_mb 62) 2 = .ok (.invokevirtual 82, 3) := by decide +kernel
theorem ck_62_2 : ∃ b, tb_cr (tb_oc 62) 82 = some (0, 63, b, 1) := ⟨_, rfl⟩
theorem dk_62_5 : decode (tb_mb 62) 5 = .ok (.ifCond .ne (5), 3) := by decide +kernel
theorem dk_62_10 : decode (tb_mb 62) 10 = .ok (.iload_n 1, 1) := by decide +kernel
theorem dk_62_11 : decode (tb_mb 62) 11 = .ok (.iconst (2), 1) := by decide +kernel
theorem dk_62_12 : decode (tb_mb 62) 12 = .ok (.if_icmp .ne (5), 3) := by decide +kernel
theorem dk_62_17 : decode (tb_mb 62) 17 = .ok (.iload_n 1, 1) := by decide +kernel
theorem dk_62_18 : decode (tb_mb 62) 18 = .ok (.invokestatic 86, 3) := by decide +kernel
theorem ck_62_18 : ∃ b, tb_cr (tb_oc 62) 86 = some (1, 68, b, 1) := ⟨_, rfl⟩
theorem dk_62_21 : decode (tb_mb 62) 21 = .ok (.ifCond .eq (17), 3) := by decide +kernel
theorem dk_62_38 : decode (tb_mb 62) 38 = .ok (.iload_n 1, 1) := by decide +kernel
theorem dk_62_39 : decode (tb_mb 62) 39 = .ok (.invokestatic 92, 3) := by decide +kernel
theorem ck_62_39 : ∃ b, tb_cr (tb_oc 62) 92 = some (1, 69, b, 1) := ⟨_, rfl⟩
theorem dk_62_42 : decode (tb_mb 62) 42 = .ok (.ifCond .eq (19), 3) := by decide +kernel
theorem dk_62_61 : decode (tb_mb 62) 61 = .ok (.iconst (0), 1) := by decide +kernel
theorem dk_62_62 : decode (tb_mb 62) 62 = .ok (.ireturn, 1) := by decide +kernel
theorem dk_62_45 : decode (tb_mb 62) 45 = .ok (.aload_n 0, 1) := by decide +kernel
theorem dk_62_46 : decode (tb_mb 62) 46 = .ok (.getfield 30, 3) := by decide +kernel
theorem f_62_46 : ∃ b, tb_fr (tb_oc 62) 30 = some (0, 5, b) := ⟨_, rfl⟩
theorem dk_62_49 : decode (tb_mb 62) 49 = .ok (.getfield 95, 3) := by decide +kernel
theorem f_62_49 : ∃ b, tb_fr (tb_oc 62) 95 = some (3, 1, b) := ⟨_, rfl⟩
theorem dk_62_52 : decode (tb_mb 62) 52 = .ok (.bipush (8), 2) := by decide +kernel
theorem dk_62_54 : decode (tb_mb 62) 54 = .ok (.if_icmp .lt (7), 3) := by decide +kernel
theorem dk_62_57 : decode (tb_mb 62) 57 = .ok (.iconst (4), 1) := by decide +kernel
theorem dk_62_58 : decode (tb_mb 62) 58 = .ok (.goto (4), 3) := by decide +kernel
theorem dk_62_24 : decode (tb_mb 62) 24 = .ok (.aload_n 0, 1) := by decide +kernel
theorem dk_62_25 : decode (tb_mb 62) 25 = .ok (.getfield 12, 3) := by decide +kernel
theorem f_62_25 : ∃ b, tb_fr (tb_oc 62) 12 = some (0, 2, b) := ⟨_, rfl⟩
theorem dk_62_28 : decode (tb_mb 62) 28 = .ok (.getfield 89, 3) := by decide +kernel
theorem f_62_28 : ∃ b, tb_fr (tb_oc 62) 89 = some (4, 5, b) := ⟨_, rfl⟩
theorem dk_62_31 : decode (tb_mb 62) 31 = .ok (.bipush (40), 2) := by decide +kernel
theorem dk_62_33 : decode (tb_mb 62) 33 = .ok (.if_icmp .lt (5), 3) := by decide +kernel
theorem dk_62_36 : decode (tb_mb 62) 36 = .ok (.iconst (3), 1) := by decide +kernel
theorem dk_62_37 : decode (tb_mb 62) 37 = .ok (.ireturn, 1) := by decide +kernel
theorem dk_62_15 : decode (tb_mb 62) 15 = .ok (.iconst (2), 1) := by decide +kernel
theorem dk_62_16 : decode (tb_mb 62) 16 = .ok (.ireturn, 1) := by decide +kernel
theorem dk_62_8 : decode (tb_mb 62) 8 = .ok (.iconst (1), 1) := by decide +kernel
theorem dk_62_9 : decode (tb_mb 62) 9 = .ok (.ireturn, 1) := by decide +kernel
def b_62_38 (x1 : Int32) (I : dI) (J : dJ) : Option Int32 := (m_69 x1 I J).bind (fun r8 => if r8 = 0 then (some 0) else (if (I 16 1) < 8 then (some 0) else (some 4)))
theorem p_62_38 {Q : Nat → Option Nat} {D : Nat} (hD : 4 ≤ D) (x1 : Int32) (I : dI) (J : dJ) (R : Int32) (h : b_62_38 x1 I J = some R) : Rn Q D 62 38 [(0, .ref 6), (1, .int x1)] [] I J (some (.int R)) I J := by
  replace h : ((m_69 x1 I J).bind (fun r8 => if r8 = 0 then (some 0) else (if (I 16 1) < 8 then (some 0) else (some 4)))) = some R := h
  refine Rn.pu (st' := [.int x1]) dk_62_38 L_62 rfl ?_
  obtain ⟨r8, e9, h⟩ := bindS h
  refine Rn.csI (As := [.int x1]) (rest := []) dk_62_39 ck_62_39.choose_spec rfl (x_69 (Nat.le_trans (Nat.le_of_ble_eq_true rfl) hD) e9) ?_
  by_cases c10 : r8 = 0
  · rw [if_pos c10] at h
    refine Rn.i1t (t := 61) dk_62_42 rfl (decide_eq_true c10) ?_
    refine Rn.ic dk_62_61 cic_0 ?_
    cases h
    exact Rn.ri dk_62_62 R_62 rfl
  · rw [if_neg c10] at h
    refine Rn.i1f (t := 61) dk_62_42 rfl (decide_eq_false c10) ?_
    refine Rn.pu (st' := [.ref 6]) dk_62_45 L_62 rfl ?_
    refine Rn.gR (r := 16) dk_62_46 f_62_46.choose_spec sk_6 rfl ?_
    refine Rn.gI dk_62_49 f_62_49.choose_spec sk_16 rfl ?_
    refine Rn.bp dk_62_52 cbp_8 ?_
    by_cases c11 : (I 16 1) < 8
    · rw [if_pos c11] at h
      refine Rn.i2t (t := 61) dk_62_54 rfl (decide_eq_true c11) ?_
      refine Rn.ic dk_62_61 cic_0 ?_
      cases h
      exact Rn.ri dk_62_62 R_62 rfl
    · rw [if_neg c11] at h
      refine Rn.i2f (t := 61) dk_62_54 rfl (decide_eq_false c11) ?_
      refine Rn.ic dk_62_57 cic_4 ?_
      refine Rn.gt (t := 62) dk_62_58 rfl ?_
      cases h
      exact Rn.ri dk_62_62 R_62 rfl
def b_62_0 (x1 : Int32) (I : dI) (J : dJ) : Option Int32 := (m_63 x1 I J).bind (fun r1 => if ¬ r1 = 0 then (if ¬ x1 = 2 then ((m_68 x1 I J).bind (fun r5 => if r5 = 0 then (b_62_38 x1 I J) else (if (I 7 5) < 40 then (b_62_38 x1 I J) else (some 3)))) else (some 2)) else (some 1))
theorem p_62_0 {Q : Nat → Option Nat} {D : Nat} (hD : 4 ≤ D) (x1 : Int32) (I : dI) (J : dJ) (R : Int32) (h : b_62_0 x1 I J = some R) : Rn Q D 62 0 [(0, .ref 6), (1, .int x1)] [] I J (some (.int R)) I J := by
  replace h : ((m_63 x1 I J).bind (fun r1 => if ¬ r1 = 0 then (if ¬ x1 = 2 then ((m_68 x1 I J).bind (fun r5 => if r5 = 0 then (b_62_38 x1 I J) else (if (I 7 5) < 40 then (b_62_38 x1 I J) else (some 3)))) else (some 2)) else (some 1))) = some R := h
  refine Rn.pu (st' := [.ref 6]) dk_62_0 L_62 rfl ?_
  refine Rn.pu (st' := [.int x1, .ref 6]) dk_62_1 L_62 rfl ?_
  obtain ⟨r1, e2, h⟩ := bindS h
  refine Rn.cvI (p := 6) (As := [.int x1]) (rest := []) dk_62_2 ck_62_2.choose_spec rfl sk_6 rfl (x_63 (Nat.le_trans (Nat.le_of_ble_eq_true rfl) hD) e2) ?_
  by_cases c3 : ¬ r1 = 0
  · rw [if_pos c3] at h
    refine Rn.i1t (t := 10) dk_62_5 rfl (decide_eq_true c3) ?_
    refine Rn.pu (st' := [.int x1]) dk_62_10 L_62 rfl ?_
    refine Rn.ic dk_62_11 cic_2 ?_
    by_cases c4 : ¬ x1 = 2
    · rw [if_pos c4] at h
      refine Rn.i2t (t := 17) dk_62_12 rfl (decide_eq_true c4) ?_
      refine Rn.pu (st' := [.int x1]) dk_62_17 L_62 rfl ?_
      obtain ⟨r5, e6, h⟩ := bindS h
      refine Rn.csI (As := [.int x1]) (rest := []) dk_62_18 ck_62_18.choose_spec rfl (x_68 (Nat.le_trans (Nat.le_of_ble_eq_true rfl) hD) e6) ?_
      by_cases c7 : r5 = 0
      · rw [if_pos c7] at h
        refine Rn.i1t (t := 38) dk_62_21 rfl (decide_eq_true c7) ?_
        exact Rn.wk [0, 1] rfl (p_62_38 hD _ _ _ _ h)
      · rw [if_neg c7] at h
        refine Rn.i1f (t := 38) dk_62_21 rfl (decide_eq_false c7) ?_
        refine Rn.pu (st' := [.ref 6]) dk_62_24 L_62 rfl ?_
        refine Rn.gR (r := 7) dk_62_25 f_62_25.choose_spec sk_6 rfl ?_
        refine Rn.gI dk_62_28 f_62_28.choose_spec sk_7 rfl ?_
        refine Rn.bp dk_62_31 cbp_40 ?_
        by_cases c8 : (I 7 5) < 40
        · rw [if_pos c8] at h
          refine Rn.i2t (t := 38) dk_62_33 rfl (decide_eq_true c8) ?_
          exact Rn.wk [0, 1] rfl (p_62_38 hD _ _ _ _ h)
        · rw [if_neg c8] at h
          refine Rn.i2f (t := 38) dk_62_33 rfl (decide_eq_false c8) ?_
          refine Rn.ic dk_62_36 cic_3 ?_
          cases h
          exact Rn.ri dk_62_37 R_62 rfl
    · rw [if_neg c4] at h
      refine Rn.i2f (t := 17) dk_62_12 rfl (decide_eq_false c4) ?_
      refine Rn.ic dk_62_15 cic_2 ?_
      cases h
      exact Rn.ri dk_62_16 R_62 rfl
  · rw [if_neg c3] at h
    refine Rn.i1f (t := 10) dk_62_5 rfl (decide_eq_false c3) ?_
    refine Rn.ic dk_62_8 cic_1 ?_
    cases h
    exact Rn.ri dk_62_9 R_62 rfl
def m_62 (x1 : Int32) (I : dI) (J : dJ) : Option Int32 := b_62_0 x1 I J
theorem x_62 {Q : Nat → Option Nat} {D : Nat} (hD : 5 ≤ D) {x1 : Int32} {I : dI} {J : dJ} {R : Int32} (h : m_62 x1 I J = some R) : Ex Q D 62 I J [.ref 6, .int x1] (some (.int R)) I J := by
  obtain ⟨D, rfl⟩ : ∃ D', D = D' + 1 := ⟨D - 1, by omega⟩
  exact Ex.of (by decide) (by rw [L_62]; exact Nat.le_of_ble_eq_true rfl) (show xm_sub [(0, .ref 6), (1, .int x1)] [(0, .ref 6), (1, .int x1)] from xm_sub_of [0, 1] [0, 1] rfl rfl (by decide)) (p_62_0 (Nat.le_of_succ_le_succ hD) _ _ _ _ h)
-- ConditionDesk.strengthOf(I)I
theorem L_71 : tb_mL 71 = 1 := by decide +kernel
theorem R_71 : tb_mr 71 = some .int := by decide +kernel
theorem dk_71_0 : decode (tb_mb 71) 0 = .ok (.iload_n 0, 1) := by decide +kernel
theorem dk_71_1 : decode (tb_mb 71) 1 = .ok (.tableswitch (128) 14 35 #[125, 125, 103, 105, 107, 107, 107, 107, 107, 107, 109, 111, 113, 116, 116, 119, 119, 122, 122, 122, 128, 125], 103) := by decide +kernel
theorem dk_71_126 : decode (tb_mb 71) 126 = .ok (.bipush (10), 2) := by decide +kernel
theorem dk_71_128 : decode (tb_mb 71) 128 = .ok (.ireturn, 1) := by decide +kernel
theorem dk_71_104 : decode (tb_mb 71) 104 = .ok (.iconst (1), 1) := by decide +kernel
theorem dk_71_105 : decode (tb_mb 71) 105 = .ok (.ireturn, 1) := by decide +kernel
theorem dk_71_106 : decode (tb_mb 71) 106 = .ok (.iconst (2), 1) := by decide +kernel
theorem dk_71_107 : decode (tb_mb 71) 107 = .ok (.ireturn, 1) := by decide +kernel
theorem dk_71_108 : decode (tb_mb 71) 108 = .ok (.iconst (3), 1) := by decide +kernel
theorem dk_71_109 : decode (tb_mb 71) 109 = .ok (.ireturn, 1) := by decide +kernel
theorem dk_71_110 : decode (tb_mb 71) 110 = .ok (.iconst (4), 1) := by decide +kernel
theorem dk_71_111 : decode (tb_mb 71) 111 = .ok (.ireturn, 1) := by decide +kernel
theorem dk_71_112 : decode (tb_mb 71) 112 = .ok (.iconst (5), 1) := by decide +kernel
theorem dk_71_113 : decode (tb_mb 71) 113 = .ok (.ireturn, 1) := by decide +kernel
theorem dk_71_114 : decode (tb_mb 71) 114 = .ok (.bipush (6), 2) := by decide +kernel
theorem dk_71_116 : decode (tb_mb 71) 116 = .ok (.ireturn, 1) := by decide +kernel
theorem dk_71_117 : decode (tb_mb 71) 117 = .ok (.bipush (7), 2) := by decide +kernel
theorem dk_71_119 : decode (tb_mb 71) 119 = .ok (.ireturn, 1) := by decide +kernel
theorem dk_71_120 : decode (tb_mb 71) 120 = .ok (.bipush (8), 2) := by decide +kernel
theorem dk_71_122 : decode (tb_mb 71) 122 = .ok (.ireturn, 1) := by decide +kernel
theorem dk_71_123 : decode (tb_mb 71) 123 = .ok (.bipush (9), 2) := by decide +kernel
theorem dk_71_125 : decode (tb_mb 71) 125 = .ok (.ireturn, 1) := by decide +kernel
theorem dk_71_129 : decode (tb_mb 71) 129 = .ok (.iconst (0), 1) := by decide +kernel
theorem dk_71_130 : decode (tb_mb 71) 130 = .ok (.ireturn, 1) := by decide +kernel
def b_71_0 (x0 : Int32) (I : dI) (J : dJ) : Option Int32 := if x0 = 14 then (some 10) else if x0 = 15 then (some 10) else if x0 = 16 then (some 1) else if x0 = 17 then (some 2) else if x0 = 18 then (some 3) else if x0 = 19 then (some 3) else if x0 = 20 then (some 3) else if x0 = 21 then (some 3) else if x0 = 22 then (some 3) else if x0 = 23 then (some 3) else if x0 = 24 then (some 4) else if x0 = 25 then (some 5) else if x0 = 26 then (some 6) else if x0 = 27 then (some 7) else if x0 = 28 then (some 7) else if x0 = 29 then (some 8) else if x0 = 30 then (some 8) else if x0 = 31 then (some 9) else if x0 = 32 then (some 9) else if x0 = 33 then (some 9) else if x0 = 35 then (some 10) else (some 0)
theorem p_71_0 {Q : Nat → Option Nat} {D : Nat} (hD : 1 ≤ D) (x0 : Int32) (I : dI) (J : dJ) (R : Int32) (h : b_71_0 x0 I J = some R) : Rn Q D 71 0 [(0, .int x0)] [] I J (some (.int R)) I J := by
  replace h : (if x0 = 14 then (some 10) else if x0 = 15 then (some 10) else if x0 = 16 then (some 1) else if x0 = 17 then (some 2) else if x0 = 18 then (some 3) else if x0 = 19 then (some 3) else if x0 = 20 then (some 3) else if x0 = 21 then (some 3) else if x0 = 22 then (some 3) else if x0 = 23 then (some 3) else if x0 = 24 then (some 4) else if x0 = 25 then (some 5) else if x0 = 26 then (some 6) else if x0 = 27 then (some 7) else if x0 = 28 then (some 7) else if x0 = 29 then (some 8) else if x0 = 30 then (some 8) else if x0 = 31 then (some 9) else if x0 = 32 then (some 9) else if x0 = 33 then (some 9) else if x0 = 35 then (some 10) else (some 0)) = some R := h
  refine Rn.pu (st' := [.int x0]) dk_71_0 L_71 rfl ?_
  by_cases c1 : x0 = 14
  · rw [if_pos c1] at h
    refine Rn.sw (t := 126) (st' := []) dk_71_1 (fun _ _ => rfl) (by rw [c1]; rfl) ?_
    refine Rn.bp dk_71_126 cbp_10 ?_
    cases h
    exact Rn.ri dk_71_128 R_71 rfl
  · rw [if_neg c1] at h
    by_cases c2 : x0 = 15
    · rw [if_pos c2] at h
      refine Rn.sw (t := 126) (st' := []) dk_71_1 (fun _ _ => rfl) (by rw [c2]; rfl) ?_
      refine Rn.bp dk_71_126 cbp_10 ?_
      cases h
      exact Rn.ri dk_71_128 R_71 rfl
    · rw [if_neg c2] at h
      by_cases c3 : x0 = 16
      · rw [if_pos c3] at h
        refine Rn.sw (t := 104) (st' := []) dk_71_1 (fun _ _ => rfl) (by rw [c3]; rfl) ?_
        refine Rn.ic dk_71_104 cic_1 ?_
        cases h
        exact Rn.ri dk_71_105 R_71 rfl
      · rw [if_neg c3] at h
        by_cases c4 : x0 = 17
        · rw [if_pos c4] at h
          refine Rn.sw (t := 106) (st' := []) dk_71_1 (fun _ _ => rfl) (by rw [c4]; rfl) ?_
          refine Rn.ic dk_71_106 cic_2 ?_
          cases h
          exact Rn.ri dk_71_107 R_71 rfl
        · rw [if_neg c4] at h
          by_cases c5 : x0 = 18
          · rw [if_pos c5] at h
            refine Rn.sw (t := 108) (st' := []) dk_71_1 (fun _ _ => rfl) (by rw [c5]; rfl) ?_
            refine Rn.ic dk_71_108 cic_3 ?_
            cases h
            exact Rn.ri dk_71_109 R_71 rfl
          · rw [if_neg c5] at h
            by_cases c6 : x0 = 19
            · rw [if_pos c6] at h
              refine Rn.sw (t := 108) (st' := []) dk_71_1 (fun _ _ => rfl) (by rw [c6]; rfl) ?_
              refine Rn.ic dk_71_108 cic_3 ?_
              cases h
              exact Rn.ri dk_71_109 R_71 rfl
            · rw [if_neg c6] at h
              by_cases c7 : x0 = 20
              · rw [if_pos c7] at h
                refine Rn.sw (t := 108) (st' := []) dk_71_1 (fun _ _ => rfl) (by rw [c7]; rfl) ?_
                refine Rn.ic dk_71_108 cic_3 ?_
                cases h
                exact Rn.ri dk_71_109 R_71 rfl
              · rw [if_neg c7] at h
                by_cases c8 : x0 = 21
                · rw [if_pos c8] at h
                  refine Rn.sw (t := 108) (st' := []) dk_71_1 (fun _ _ => rfl) (by rw [c8]; rfl) ?_
                  refine Rn.ic dk_71_108 cic_3 ?_
                  cases h
                  exact Rn.ri dk_71_109 R_71 rfl
                · rw [if_neg c8] at h
                  by_cases c9 : x0 = 22
                  · rw [if_pos c9] at h
                    refine Rn.sw (t := 108) (st' := []) dk_71_1 (fun _ _ => rfl) (by rw [c9]; rfl) ?_
                    refine Rn.ic dk_71_108 cic_3 ?_
                    cases h
                    exact Rn.ri dk_71_109 R_71 rfl
                  · rw [if_neg c9] at h
                    by_cases c10 : x0 = 23
                    · rw [if_pos c10] at h
                      refine Rn.sw (t := 108) (st' := []) dk_71_1 (fun _ _ => rfl) (by rw [c10]; rfl) ?_
                      refine Rn.ic dk_71_108 cic_3 ?_
                      cases h
                      exact Rn.ri dk_71_109 R_71 rfl
                    · rw [if_neg c10] at h
                      by_cases c11 : x0 = 24
                      · rw [if_pos c11] at h
                        refine Rn.sw (t := 110) (st' := []) dk_71_1 (fun _ _ => rfl) (by rw [c11]; rfl) ?_
                        refine Rn.ic dk_71_110 cic_4 ?_
                        cases h
                        exact Rn.ri dk_71_111 R_71 rfl
                      · rw [if_neg c11] at h
                        by_cases c12 : x0 = 25
                        · rw [if_pos c12] at h
                          refine Rn.sw (t := 112) (st' := []) dk_71_1 (fun _ _ => rfl) (by rw [c12]; rfl) ?_
                          refine Rn.ic dk_71_112 cic_5 ?_
                          cases h
                          exact Rn.ri dk_71_113 R_71 rfl
                        · rw [if_neg c12] at h
                          by_cases c13 : x0 = 26
                          · rw [if_pos c13] at h
                            refine Rn.sw (t := 114) (st' := []) dk_71_1 (fun _ _ => rfl) (by rw [c13]; rfl) ?_
                            refine Rn.bp dk_71_114 cbp_6 ?_
                            cases h
                            exact Rn.ri dk_71_116 R_71 rfl
                          · rw [if_neg c13] at h
                            by_cases c14 : x0 = 27
                            · rw [if_pos c14] at h
                              refine Rn.sw (t := 117) (st' := []) dk_71_1 (fun _ _ => rfl) (by rw [c14]; rfl) ?_
                              refine Rn.bp dk_71_117 cbp_7 ?_
                              cases h
                              exact Rn.ri dk_71_119 R_71 rfl
                            · rw [if_neg c14] at h
                              by_cases c15 : x0 = 28
                              · rw [if_pos c15] at h
                                refine Rn.sw (t := 117) (st' := []) dk_71_1 (fun _ _ => rfl) (by rw [c15]; rfl) ?_
                                refine Rn.bp dk_71_117 cbp_7 ?_
                                cases h
                                exact Rn.ri dk_71_119 R_71 rfl
                              · rw [if_neg c15] at h
                                by_cases c16 : x0 = 29
                                · rw [if_pos c16] at h
                                  refine Rn.sw (t := 120) (st' := []) dk_71_1 (fun _ _ => rfl) (by rw [c16]; rfl) ?_
                                  refine Rn.bp dk_71_120 cbp_8 ?_
                                  cases h
                                  exact Rn.ri dk_71_122 R_71 rfl
                                · rw [if_neg c16] at h
                                  by_cases c17 : x0 = 30
                                  · rw [if_pos c17] at h
                                    refine Rn.sw (t := 120) (st' := []) dk_71_1 (fun _ _ => rfl) (by rw [c17]; rfl) ?_
                                    refine Rn.bp dk_71_120 cbp_8 ?_
                                    cases h
                                    exact Rn.ri dk_71_122 R_71 rfl
                                  · rw [if_neg c17] at h
                                    by_cases c18 : x0 = 31
                                    · rw [if_pos c18] at h
                                      refine Rn.sw (t := 123) (st' := []) dk_71_1 (fun _ _ => rfl) (by rw [c18]; rfl) ?_
                                      refine Rn.bp dk_71_123 cbp_9 ?_
                                      cases h
                                      exact Rn.ri dk_71_125 R_71 rfl
                                    · rw [if_neg c18] at h
                                      by_cases c19 : x0 = 32
                                      · rw [if_pos c19] at h
                                        refine Rn.sw (t := 123) (st' := []) dk_71_1 (fun _ _ => rfl) (by rw [c19]; rfl) ?_
                                        refine Rn.bp dk_71_123 cbp_9 ?_
                                        cases h
                                        exact Rn.ri dk_71_125 R_71 rfl
                                      · rw [if_neg c19] at h
                                        by_cases c20 : x0 = 33
                                        · rw [if_pos c20] at h
                                          refine Rn.sw (t := 123) (st' := []) dk_71_1 (fun _ _ => rfl) (by rw [c20]; rfl) ?_
                                          refine Rn.bp dk_71_123 cbp_9 ?_
                                          cases h
                                          exact Rn.ri dk_71_125 R_71 rfl
                                        · rw [if_neg c20] at h
                                          by_cases c21 : x0 = 35
                                          · rw [if_pos c21] at h
                                            refine Rn.sw (t := 126) (st' := []) dk_71_1 (fun _ _ => rfl) (by rw [c21]; rfl) ?_
                                            refine Rn.bp dk_71_126 cbp_10 ?_
                                            cases h
                                            exact Rn.ri dk_71_128 R_71 rfl
                                          · rw [if_neg c21] at h
                                            have q0 : xm_br (.tableswitch (128) 14 35 #[125, 125, 103, 105, 107, 107, 107, 107, 107, 107, 109, 111, 113, 116, 116, 119, 119, 122, 122, 122, 128, 125]) 103 1 (.int x0 :: []) = some (true, 129, []) := by
                                              by_cases c22 : x0 = 34
                                              · rw [c22]; rfl
                                              ·
                                                have q1 := i_ne c1 (z := 14) rfl
                                                have q2 := i_ne c2 (z := 15) rfl
                                                have q3 := i_ne c3 (z := 16) rfl
                                                have q4 := i_ne c4 (z := 17) rfl
                                                have q5 := i_ne c5 (z := 18) rfl
                                                have q6 := i_ne c6 (z := 19) rfl
                                                have q7 := i_ne c7 (z := 20) rfl
                                                have q8 := i_ne c8 (z := 21) rfl
                                                have q9 := i_ne c9 (z := 22) rfl
                                                have q10 := i_ne c10 (z := 23) rfl
                                                have q11 := i_ne c11 (z := 24) rfl
                                                have q12 := i_ne c12 (z := 25) rfl
                                                have q13 := i_ne c13 (z := 26) rfl
                                                have q14 := i_ne c14 (z := 27) rfl
                                                have q15 := i_ne c15 (z := 28) rfl
                                                have q16 := i_ne c16 (z := 29) rfl
                                                have q17 := i_ne c17 (z := 30) rfl
                                                have q18 := i_ne c18 (z := 31) rfl
                                                have q19 := i_ne c19 (z := 32) rfl
                                                have q20 := i_ne c20 (z := 33) rfl
                                                have q21 := i_ne c21 (z := 35) rfl
                                                have q22 := i_ne c22 (z := 34) rfl
                                                exact ts_def (by omega) rfl
                                            refine Rn.sw dk_71_1 (fun _ _ => rfl) q0 ?_
                                            refine Rn.ic dk_71_129 cic_0 ?_
                                            cases h
                                            exact Rn.ri dk_71_130 R_71 rfl
def m_71 (x0 : Int32) (I : dI) (J : dJ) : Option Int32 := b_71_0 x0 I J
theorem x_71 {Q : Nat → Option Nat} {D : Nat} (hD : 2 ≤ D) {x0 : Int32} {I : dI} {J : dJ} {R : Int32} (h : m_71 x0 I J = some R) : Ex Q D 71 I J [.int x0] (some (.int R)) I J := by
  obtain ⟨D, rfl⟩ : ∃ D', D = D' + 1 := ⟨D - 1, by omega⟩
  exact Ex.of (by decide) (by rw [L_71]; exact Nat.le_of_ble_eq_true rfl) (show xm_sub [(0, .int x0)] [(0, .int x0)] from xm_sub_of [0] [0] rfl rfl (by decide)) (p_71_0 (Nat.le_of_succ_le_succ hD) _ _ _ _ h)
-- ConditionDesk$Pile.pop()I
theorem L_73 : tb_mL 73 = 1 := by decide +kernel
theorem R_73 : tb_mr 73 = some .int := by decide +kernel
theorem dk_73_0 : decode (tb_mb 73) 0 = .ok (.aload_n 0, 1) := by decide +kernel
theorem dk_73_1 : decode (tb_mb 73) 1 = .ok (.getfield 7, 3) := by decide +kernel
theorem f_73_1 : ∃ b, tb_fr (tb_oc 73) 7 = some (3, 1, b) := ⟨_, rfl⟩
theorem dk_73_4 : decode (tb_mb 73) 4 = .ok (.ifCond .le (15), 3) := by decide +kernel
theorem dk_73_19 : decode (tb_mb 73) 19 = .ok (.iconst (-1), 1) := by decide +kernel
theorem dk_73_20 : decode (tb_mb 73) 20 = .ok (.ireturn, 1) := by decide +kernel
theorem dk_73_7 : decode (tb_mb 73) 7 = .ok (.aload_n 0, 1) := by decide +kernel
theorem dk_73_8 : decode (tb_mb 73) 8 = .ok (.getfield 7, 3) := by decide +kernel
theorem f_73_8 : ∃ b, tb_fr (tb_oc 73) 7 = some (3, 1, b) := ⟨_, rfl⟩
theorem dk_73_11 : decode (tb_mb 73) 11 = .ok (.aload_n 0, 1) := by decide +kernel
theorem dk_73_12 : decode (tb_mb 73) 12 = .ok (.getfield 13, 3) := by decide +kernel
theorem f_73_12 : ∃ b, tb_fr (tb_oc 73) 13 = some (3, 0, b) := ⟨_, rfl⟩
theorem dk_73_15 : decode (tb_mb 73) 15 = .ok (.arraylength, 1) := by decide +kernel
theorem dk_73_16 : decode (tb_mb 73) 16 = .ok (.if_icmp .le (5), 3) := by decide +kernel
theorem dk_73_21 : decode (tb_mb 73) 21 = .ok (.aload_n 0, 1) := by decide +kernel
theorem dk_73_22 : decode (tb_mb 73) 22 = .ok (.dup, 1) := by decide +kernel
theorem dk_73_23 : decode (tb_mb 73) 23 = .ok (.getfield 7, 3) := by decide +kernel
theorem f_73_23 : ∃ b, tb_fr (tb_oc 73) 7 = some (3, 1, b) := ⟨_, rfl⟩
theorem dk_73_26 : decode (tb_mb 73) 26 = .ok (.iconst (1), 1) := by decide +kernel
theorem dk_73_27 : decode (tb_mb 73) 27 = .ok (.isub, 1) := by decide +kernel
theorem dk_73_28 : decode (tb_mb 73) 28 = .ok (.putfield 7, 3) := by decide +kernel
theorem f_73_28 : ∃ b, tb_fr (tb_oc 73) 7 = some (3, 1, b) ∧ xm_fin tb_cl (tb_ini 73) b 3 1 = true := ⟨_, rfl, rfl⟩
theorem dk_73_31 : decode (tb_mb 73) 31 = .ok (.aload_n 0, 1) := by decide +kernel
theorem dk_73_32 : decode (tb_mb 73) 32 = .ok (.getfield 13, 3) := by decide +kernel
theorem f_73_32 : ∃ b, tb_fr (tb_oc 73) 13 = some (3, 0, b) := ⟨_, rfl⟩
theorem dk_73_35 : decode (tb_mb 73) 35 = .ok (.aload_n 0, 1) := by decide +kernel
theorem dk_73_36 : decode (tb_mb 73) 36 = .ok (.getfield 7, 3) := by decide +kernel
theorem f_73_36 : ∃ b, tb_fr (tb_oc 73) 7 = some (3, 1, b) := ⟨_, rfl⟩
theorem dk_73_39 : decode (tb_mb 73) 39 = .ok (.iaload, 1) := by decide +kernel
theorem dk_73_40 : decode (tb_mb 73) 40 = .ok (.ireturn, 1) := by decide +kernel
def b_73_0 (p : Nat) (np : Nat) (I : dI) (J : dJ) : Option (Int32 × dI × dJ) := if (I p 1) ≤ 0 then (some ((-1), I, J)) else (if (I p 1) ≤ (Int32.ofNat np) then (lt_ (sI I p 1 ((I p 1) - 1)) (fun I3 => if ¬ ((I3 p 1) < 0 ∨ np ≤ Int32.toNatClampNeg (I3 p 1)) then (some ((I3 (p + 1) (Int32.toNatClampNeg (I3 p 1))), I3, J)) else none)) else (some ((-1), I, J)))
theorem p_73_0 {Q : Nat → Option Nat} {D : Nat} {p : Nat} {np : Nat} (hD : 1 ≤ D) (okp : okPi p np) (I : dI) (J : dJ) (R : (Int32 × dI × dJ)) (h : b_73_0 p np I J = some R) : Rn Q D 73 0 [(0, .ref p)] [] I J (some (.int R.1)) R.2.1 R.2.2 := by
  replace h : (if (I p 1) ≤ 0 then (some ((-1), I, J)) else (if (I p 1) ≤ (Int32.ofNat np) then (lt_ (sI I p 1 ((I p 1) - 1)) (fun I3 => if ¬ ((I3 p 1) < 0 ∨ np ≤ Int32.toNatClampNeg (I3 p 1)) then (some ((I3 (p + 1) (Int32.toNatClampNeg (I3 p 1))), I3, J)) else none)) else (some ((-1), I, J)))) = some R := h
  refine Rn.pu (st' := [.ref p]) dk_73_0 L_73 rfl ?_
  refine Rn.gI dk_73_1 f_73_1.choose_spec okp.1 rfl ?_
  by_cases c1 : (I p 1) ≤ 0
  · rw [if_pos c1] at h
    refine Rn.i1t (t := 19) dk_73_4 rfl (decide_eq_true c1) ?_
    refine Rn.ic dk_73_19 cic_m1 ?_
    cases h
    exact Rn.ri dk_73_20 R_73 rfl
  · rw [if_neg c1] at h
    refine Rn.i1f (t := 19) dk_73_4 rfl (decide_eq_false c1) ?_
    refine Rn.pu (st' := [.ref p]) dk_73_7 L_73 rfl ?_
    refine Rn.gI dk_73_8 f_73_8.choose_spec okp.1 rfl ?_
    refine Rn.pu (st' := [.ref p, .int (I p 1)]) dk_73_11 L_73 rfl ?_
    refine Rn.gR (r := (p + 1)) dk_73_12 f_73_12.choose_spec okp.1 rfl ?_
    refine Rn.alen dk_73_15 okp.2 (by decide) ?_
    by_cases c2 : (I p 1) ≤ (Int32.ofNat np)
    · rw [if_pos c2] at h
      refine Rn.i2t (t := 21) dk_73_16 rfl (decide_eq_true c2) ?_
      refine Rn.pu (st' := [.ref p]) dk_73_21 L_73 rfl ?_
      refine Rn.pu (st' := [.ref p, .ref p]) dk_73_22 L_73 rfl ?_
      refine Rn.gI dk_73_23 f_73_23.choose_spec okp.1 rfl ?_
      refine Rn.ic dk_73_26 cic_1 ?_
      refine Rn.pu (st' := [.int ((I p 1) - 1), .ref p]) dk_73_27 L_73 rfl ?_
      obtain ⟨I3, eI3, h⟩ := letS h
      refine Rn.pI dk_73_28 f_73_28.choose_spec.1 okp.1 rfl f_73_28.choose_spec.2 rfl rfl ?_
      rw [← eI3]
      refine Rn.pu (st' := [.ref p]) dk_73_31 L_73 rfl ?_
      refine Rn.gR (r := (p + 1)) dk_73_32 f_73_32.choose_spec okp.1 rfl ?_
      refine Rn.pu (st' := [.ref p, .ref (p + 1)]) dk_73_35 L_73 rfl ?_
      refine Rn.gI dk_73_36 f_73_36.choose_spec okp.1 rfl ?_
      obtain ⟨c4, h⟩ := xm_if h
      refine Rn.iald dk_73_39 okp.2 c4 ?_
      cases h
      exact Rn.ri dk_73_40 R_73 rfl
    · rw [if_neg c2] at h
      refine Rn.i2f (t := 21) dk_73_16 rfl (decide_eq_false c2) ?_
      refine Rn.ic dk_73_19 cic_m1 ?_
      cases h
      exact Rn.ri dk_73_20 R_73 rfl
def m_73 (p : Nat) (np : Nat) (I : dI) (J : dJ) : Option (Int32 × dI × dJ) := b_73_0 p np I J
theorem x_73 {Q : Nat → Option Nat} {D : Nat} {p : Nat} {np : Nat} (hD : 2 ≤ D) (okp : okPi p np) {I : dI} {J : dJ} {R : (Int32 × dI × dJ)} (h : m_73 p np I J = some R) : Ex Q D 73 I J [.ref p] (some (.int R.1)) R.2.1 R.2.2 := by
  obtain ⟨D, rfl⟩ : ∃ D', D = D' + 1 := ⟨D - 1, by omega⟩
  exact Ex.of (by decide) (by rw [L_73]; exact Nat.le_of_ble_eq_true rfl) (show xm_sub [(0, .ref p)] [(0, .ref p)] from xm_sub_of [0] [0] rfl rfl (by decide)) (p_73_0 (Nat.le_of_succ_le_succ hD) okp _ _ _ h)
-- ConditionDesk$Program.add(IIIJ)I
theorem L_74 : tb_mL 74 = 7 := by decide +kernel
theorem R_74 : tb_mr 74 = some .int := by decide +kernel
theorem dk_74_0 : decode (tb_mb 74) 0 = .ok (.aload_n 0, 1) := by decide +kernel
theorem dk_74_1 : decode (tb_mb 74) 1 = .ok (.getfield 25, 3) := by decide +kernel
theorem f_74_1 : ∃ b, tb_fr (tb_oc 74) 25 = some (4, 4, b) := ⟨_, rfl⟩
theorem dk_74_4 : decode (tb_mb 74) 4 = .ok (.istore 6, 2) := by decide +kernel
theorem dk_74_6 : decode (tb_mb 74) 6 = .ok (.iload 6, 2) := by decide +kernel
theorem dk_74_8 : decode (tb_mb 74) 8 = .ok (.ifCond .lt (10), 3) := by decide +kernel
theorem dk_74_18 : decode (tb_mb 74) 18 = .ok (.iconst (-1), 1) := by decide +kernel
theorem dk_74_19 : decode (tb_mb 74) 19 = .ok (.ireturn, 1) := by decide +kernel
theorem dk_74_11 : decode (tb_mb 74) 11 = .ok (.iload 6, 2) := by decide +kernel
theorem dk_74_13 : decode (tb_mb 74) 13 = .ok (.bipush (40), 2) := by decide +kernel
theorem dk_74_15 : decode (tb_mb 74) 15 = .ok (.if_icmp .lt (5), 3) := by decide +kernel
theorem dk_74_20 : decode (tb_mb 74) 20 = .ok (.aload_n 0, 1) := by decide +kernel
theorem dk_74_21 : decode (tb_mb 74) 21 = .ok (.getfield 9, 3) := by decide +kernel
theorem f_74_21 : ∃ b, tb_fr (tb_oc 74) 9 = some (4, 0, b) := ⟨_, rfl⟩
theorem dk_74_24 : decode (tb_mb 74) 24 = .ok (.iload 6, 2) := by decide +kernel
theorem dk_74_26 : decode (tb_mb 74) 26 = .ok (.iload_n 1, 1) := by decide +kernel
theorem dk_74_27 : decode (tb_mb 74) 27 = .ok (.iastore, 1) := by decide +kernel
theorem dk_74_28 : decode (tb_mb 74) 28 = .ok (.aload_n 0, 1) := by decide +kernel
theorem dk_74_29 : decode (tb_mb 74) 29 = .ok (.getfield 15, 3) := by decide +kernel
theorem f_74_29 : ∃ b, tb_fr (tb_oc 74) 15 = some (4, 1, b) := ⟨_, rfl⟩
theorem dk_74_32 : decode (tb_mb 74) 32 = .ok (.iload 6, 2) := by decide +kernel
theorem dk_74_34 : decode (tb_mb 74) 34 = .ok (.iload_n 2, 1) := by decide +kernel
theorem dk_74_35 : decode (tb_mb 74) 35 = .ok (.iastore, 1) := by decide +kernel
theorem dk_74_36 : decode (tb_mb 74) 36 = .ok (.aload_n 0, 1) := by decide +kernel
theorem dk_74_37 : decode (tb_mb 74) 37 = .ok (.getfield 18, 3) := by decide +kernel
theorem f_74_37 : ∃ b, tb_fr (tb_oc 74) 18 = some (4, 2, b) := ⟨_, rfl⟩
theorem dk_74_40 : decode (tb_mb 74) 40 = .ok (.iload 6, 2) := by decide +kernel
theorem dk_74_42 : decode (tb_mb 74) 42 = .ok (.iload_n 3, 1) := by decide +kernel
theorem dk_74_43 : decode (tb_mb 74) 43 = .ok (.iastore, 1) := by decide +kernel
theorem dk_74_44 : decode (tb_mb 74) 44 = .ok (.aload_n 0, 1) := by decide +kernel
theorem dk_74_45 : decode (tb_mb 74) 45 = .ok (.getfield 21, 3) := by decide +kernel
theorem f_74_45 : ∃ b, tb_fr (tb_oc 74) 21 = some (4, 3, b) := ⟨_, rfl⟩
theorem dk_74_48 : decode (tb_mb 74) 48 = .ok (.iload 6, 2) := by decide +kernel
theorem dk_74_50 : decode (tb_mb 74) 50 = .ok (.lload 4, 2) := by decide +kernel
theorem dk_74_52 : decode (tb_mb 74) 52 = .ok (.lastore, 1) := by decide +kernel
theorem dk_74_53 : decode (tb_mb 74) 53 = .ok (.aload_n 0, 1) := by decide +kernel
theorem dk_74_54 : decode (tb_mb 74) 54 = .ok (.dup, 1) := by decide +kernel
theorem dk_74_55 : decode (tb_mb 74) 55 = .ok (.getfield 25, 3) := by decide +kernel
theorem f_74_55 : ∃ b, tb_fr (tb_oc 74) 25 = some (4, 4, b) := ⟨_, rfl⟩
theorem dk_74_58 : decode (tb_mb 74) 58 = .ok (.iconst (1), 1) := by decide +kernel
theorem dk_74_59 : decode (tb_mb 74) 59 = .ok (.iadd, 1) := by decide +kernel
theorem dk_74_60 : decode (tb_mb 74) 60 = .ok (.putfield 25, 3) := by decide +kernel
theorem f_74_60 : ∃ b, tb_fr (tb_oc 74) 25 = some (4, 4, b) ∧ xm_fin tb_cl (tb_ini 74) b 4 4 = true := ⟨_, rfl, rfl⟩
theorem dk_74_63 : decode (tb_mb 74) 63 = .ok (.iload 6, 2) := by decide +kernel
theorem dk_74_65 : decode (tb_mb 74) 65 = .ok (.ireturn, 1) := by decide +kernel
def b_74_0 (p : Nat) (x1 : Int32) (x2 : Int32) (x3 : Int32) (x4 : Int64) (I : dI) (J : dJ) : Option (Int32 × dI × dJ) := if (I p 4) < 0 then (some ((-1), I, J)) else (if (I p 4) < 40 then (if ¬ ((I p 4) < 0 ∨ 40 ≤ Int32.toNatClampNeg (I p 4)) then lt_ (sI I (p + 1) (Int32.toNatClampNeg (I p 4)) x1) (fun I4 => if ¬ ((I p 4) < 0 ∨ 40 ≤ Int32.toNatClampNeg (I p 4)) then lt_ (sI I4 (p + 2) (Int32.toNatClampNeg (I p 4)) x2) (fun I6 => if ¬ ((I p 4) < 0 ∨ 40 ≤ Int32.toNatClampNeg (I p 4)) then lt_ (sI I6 (p + 3) (Int32.toNatClampNeg (I p 4)) x3) (fun I8 => if ¬ ((I p 4) < 0 ∨ 40 ≤ Int32.toNatClampNeg (I p 4)) then lt_ (sJ J (p + 4) (Int32.toNatClampNeg (I p 4)) x4) (fun J10 => lt_ (sI I8 p 4 ((I8 p 4) + 1)) (fun I11 => some ((I p 4), I11, J10))) else none) else none) else none) else none) else (some ((-1), I, J)))
theorem p_74_0 {Q : Nat → Option Nat} {D : Nat} {p : Nat} (hD : 1 ≤ D) (okp : okPr p) (x1 : Int32) (x2 : Int32) (x3 : Int32) (x4 : Int64) (I : dI) (J : dJ) (R : (Int32 × dI × dJ)) (h : b_74_0 p x1 x2 x3 x4 I J = some R) : Rn Q D 74 0 [(0, .ref p), (1, .int x1), (2, .int x2), (3, .int x3), (4, .long x4)] [] I J (some (.int R.1)) R.2.1 R.2.2 := by
  replace h : (if (I p 4) < 0 then (some ((-1), I, J)) else (if (I p 4) < 40 then (if ¬ ((I p 4) < 0 ∨ 40 ≤ Int32.toNatClampNeg (I p 4)) then lt_ (sI I (p + 1) (Int32.toNatClampNeg (I p 4)) x1) (fun I4 => if ¬ ((I p 4) < 0 ∨ 40 ≤ Int32.toNatClampNeg (I p 4)) then lt_ (sI I4 (p + 2) (Int32.toNatClampNeg (I p 4)) x2) (fun I6 => if ¬ ((I p 4) < 0 ∨ 40 ≤ Int32.toNatClampNeg (I p 4)) then lt_ (sI I6 (p + 3) (Int32.toNatClampNeg (I p 4)) x3) (fun I8 => if ¬ ((I p 4) < 0 ∨ 40 ≤ Int32.toNatClampNeg (I p 4)) then lt_ (sJ J (p + 4) (Int32.toNatClampNeg (I p 4)) x4) (fun J10 => lt_ (sI I8 p 4 ((I8 p 4) + 1)) (fun I11 => some ((I p 4), I11, J10))) else none) else none) else none) else none) else (some ((-1), I, J)))) = some R := h
  refine Rn.pu (st' := [.ref p]) dk_74_0 L_74 rfl ?_
  refine Rn.gI dk_74_1 f_74_1.choose_spec okp.1 rfl ?_
  refine Rn.pu (ls' := [(6, .int (I p 4)), (0, .ref p), (1, .int x1), (2, .int x2), (3, .int x3), (4, .long x4)]) (st' := []) dk_74_4 L_74 rfl ?_
  refine Rn.pu (st' := [.int (I p 4)]) dk_74_6 L_74 rfl ?_
  by_cases c1 : (I p 4) < 0
  · rw [if_pos c1] at h
    refine Rn.i1t (t := 18) dk_74_8 rfl (decide_eq_true c1) ?_
    refine Rn.ic dk_74_18 cic_m1 ?_
    cases h
    exact Rn.ri dk_74_19 R_74 rfl
  · rw [if_neg c1] at h
    refine Rn.i1f (t := 18) dk_74_8 rfl (decide_eq_false c1) ?_
    refine Rn.pu (st' := [.int (I p 4)]) dk_74_11 L_74 rfl ?_
    refine Rn.bp dk_74_13 cbp_40 ?_
    by_cases c2 : (I p 4) < 40
    · rw [if_pos c2] at h
      refine Rn.i2t (t := 20) dk_74_15 rfl (decide_eq_true c2) ?_
      refine Rn.pu (st' := [.ref p]) dk_74_20 L_74 rfl ?_
      refine Rn.gR (r := (p + 1)) dk_74_21 f_74_21.choose_spec okp.1 rfl ?_
      refine Rn.pu (st' := [.int (I p 4), .ref (p + 1)]) dk_74_24 L_74 rfl ?_
      refine Rn.pu (st' := [.int x1, .int (I p 4), .ref (p + 1)]) dk_74_26 L_74 rfl ?_
      obtain ⟨c3, h⟩ := xm_if h
      obtain ⟨I4, eI4, h⟩ := letS h
      refine Rn.iast dk_74_27 okp.2.1 c3 ?_
      rw [← eI4]
      refine Rn.pu (st' := [.ref p]) dk_74_28 L_74 rfl ?_
      refine Rn.gR (r := (p + 2)) dk_74_29 f_74_29.choose_spec okp.1 rfl ?_
      refine Rn.pu (st' := [.int (I p 4), .ref (p + 2)]) dk_74_32 L_74 rfl ?_
      refine Rn.pu (st' := [.int x2, .int (I p 4), .ref (p + 2)]) dk_74_34 L_74 rfl ?_
      obtain ⟨c5, h⟩ := xm_if h
      obtain ⟨I6, eI6, h⟩ := letS h
      refine Rn.iast dk_74_35 okp.2.2.1 c5 ?_
      rw [← eI6]
      refine Rn.pu (st' := [.ref p]) dk_74_36 L_74 rfl ?_
      refine Rn.gR (r := (p + 3)) dk_74_37 f_74_37.choose_spec okp.1 rfl ?_
      refine Rn.pu (st' := [.int (I p 4), .ref (p + 3)]) dk_74_40 L_74 rfl ?_
      refine Rn.pu (st' := [.int x3, .int (I p 4), .ref (p + 3)]) dk_74_42 L_74 rfl ?_
      obtain ⟨c7, h⟩ := xm_if h
      obtain ⟨I8, eI8, h⟩ := letS h
      refine Rn.iast dk_74_43 okp.2.2.2.1 c7 ?_
      rw [← eI8]
      refine Rn.pu (st' := [.ref p]) dk_74_44 L_74 rfl ?_
      refine Rn.gR (r := (p + 4)) dk_74_45 f_74_45.choose_spec okp.1 rfl ?_
      refine Rn.pu (st' := [.int (I p 4), .ref (p + 4)]) dk_74_48 L_74 rfl ?_
      refine Rn.pu (st' := [.long x4, .int (I p 4), .ref (p + 4)]) dk_74_50 L_74 rfl ?_
      obtain ⟨c9, h⟩ := xm_if h
      obtain ⟨J10, eJ10, h⟩ := letS h
      refine Rn.last dk_74_52 okp.2.2.2.2 c9 ?_
      rw [← eJ10]
      refine Rn.pu (st' := [.ref p]) dk_74_53 L_74 rfl ?_
      refine Rn.pu (st' := [.ref p, .ref p]) dk_74_54 L_74 rfl ?_
      refine Rn.gI dk_74_55 f_74_55.choose_spec okp.1 rfl ?_
      refine Rn.ic dk_74_58 cic_1 ?_
      refine Rn.pu (st' := [.int ((I8 p 4) + 1), .ref p]) dk_74_59 L_74 rfl ?_
      obtain ⟨I11, eI11, h⟩ := letS h
      refine Rn.pI dk_74_60 f_74_60.choose_spec.1 okp.1 rfl f_74_60.choose_spec.2 rfl rfl ?_
      rw [← eI11]
      refine Rn.pu (st' := [.int (I p 4)]) dk_74_63 L_74 rfl ?_
      cases h
      exact Rn.ri dk_74_65 R_74 rfl
    · rw [if_neg c2] at h
      refine Rn.i2f (t := 20) dk_74_15 rfl (decide_eq_false c2) ?_
      refine Rn.ic dk_74_18 cic_m1 ?_
      cases h
      exact Rn.ri dk_74_19 R_74 rfl
def m_74 (p : Nat) (x1 : Int32) (x2 : Int32) (x3 : Int32) (x4 : Int64) (I : dI) (J : dJ) : Option (Int32 × dI × dJ) := b_74_0 p x1 x2 x3 x4 I J
theorem x_74 {Q : Nat → Option Nat} {D : Nat} {p : Nat} (hD : 2 ≤ D) (okp : okPr p) {x1 : Int32} {x2 : Int32} {x3 : Int32} {x4 : Int64} {I : dI} {J : dJ} {R : (Int32 × dI × dJ)} (h : m_74 p x1 x2 x3 x4 I J = some R) : Ex Q D 74 I J [.ref p, .int x1, .int x2, .int x3, .long x4] (some (.int R.1)) R.2.1 R.2.2 := by
  obtain ⟨D, rfl⟩ : ∃ D', D = D' + 1 := ⟨D - 1, by omega⟩
  exact Ex.of (by decide) (by rw [L_74]; exact Nat.le_of_ble_eq_true rfl) (show xm_sub [(0, .ref p), (1, .int x1), (2, .int x2), (3, .int x3), (4, .long x4)] [(0, .ref p), (1, .int x1), (2, .int x2), (3, .int x3), (4, .long x4)] from xm_sub_of [0, 1, 2, 3, 4] [0, 1, 2, 3, 4] rfl rfl (by decide)) (p_74_0 (Nat.le_of_succ_le_succ hD) okp _ _ _ _ _ _ _ h)
-- ConditionDesk$Pile.push(I)V
theorem L_75 : tb_mL 75 = 2 := by decide +kernel
theorem R_75 : tb_mr 75 = none := by decide +kernel
theorem dk_75_0 : decode (tb_mb 75) 0 = .ok (.aload_n 0, 1) := by decide +kernel
theorem dk_75_1 : decode (tb_mb 75) 1 = .ok (.getfield 7, 3) := by decide +kernel
theorem f_75_1 : ∃ b, tb_fr (tb_oc 75) 7 = some (3, 1, b) := ⟨_, rfl⟩
theorem dk_75_4 : decode (tb_mb 75) 4 = .ok (.ifCond .lt (35), 3) := by decide +kernel
theorem dk_75_39 : decode (tb_mb 75) 39 = .ok (.return_, 1) := by decide +kernel
theorem dk_75_7 : decode (tb_mb 75) 7 = .ok (.aload_n 0, 1) := by decide +kernel
theorem dk_75_8 : decode (tb_mb 75) 8 = .ok (.getfield 7, 3) := by decide +kernel
theorem f_75_8 : ∃ b, tb_fr (tb_oc 75) 7 = some (3, 1, b) := ⟨_, rfl⟩
theorem dk_75_11 : decode (tb_mb 75) 11 = .ok (.aload_n 0, 1) := by decide +kernel
theorem dk_75_12 : decode (tb_mb 75) 12 = .ok (.getfield 13, 3) := by decide +kernel
theorem f_75_12 : ∃ b, tb_fr (tb_oc 75) 13 = some (3, 0, b) := ⟨_, rfl⟩
theorem dk_75_15 : decode (tb_mb 75) 15 = .ok (.arraylength, 1) := by decide +kernel
theorem dk_75_16 : decode (tb_mb 75) 16 = .ok (.if_icmp .ge (23), 3) := by decide +kernel
theorem dk_75_19 : decode (tb_mb 75) 19 = .ok (.aload_n 0, 1) := by decide +kernel
theorem dk_75_20 : decode (tb_mb 75) 20 = .ok (.getfield 13, 3) := by decide +kernel
theorem f_75_20 : ∃ b, tb_fr (tb_oc 75) 13 = some (3, 0, b) := ⟨_, rfl⟩
theorem dk_75_23 : decode (tb_mb 75) 23 = .ok (.aload_n 0, 1) := by decide +kernel
theorem dk_75_24 : decode (tb_mb 75) 24 = .ok (.getfield 7, 3) := by decide +kernel
theorem f_75_24 : ∃ b, tb_fr (tb_oc 75) 7 = some (3, 1, b) := ⟨_, rfl⟩
theorem dk_75_27 : decode (tb_mb 75) 27 = .ok (.iload_n 1, 1) := by decide +kernel
theorem dk_75_28 : decode (tb_mb 75) 28 = .ok (.iastore, 1) := by decide +kernel
theorem dk_75_29 : decode (tb_mb 75) 29 = .ok (.aload_n 0, 1) := by decide +kernel
theorem dk_75_30 : decode (tb_mb 75) 30 = .ok (.dup, 1) := by decide +kernel
theorem dk_75_31 : decode (tb_mb 75) 31 = .ok (.getfield 7, 3) := by decide +kernel
theorem f_75_31 : ∃ b, tb_fr (tb_oc 75) 7 = some (3, 1, b) := ⟨_, rfl⟩
theorem dk_75_34 : decode (tb_mb 75) 34 = .ok (.iconst (1), 1) := by decide +kernel
theorem dk_75_35 : decode (tb_mb 75) 35 = .ok (.iadd, 1) := by decide +kernel
theorem dk_75_36 : decode (tb_mb 75) 36 = .ok (.putfield 7, 3) := by decide +kernel
theorem f_75_36 : ∃ b, tb_fr (tb_oc 75) 7 = some (3, 1, b) ∧ xm_fin tb_cl (tb_ini 75) b 3 1 = true := ⟨_, rfl, rfl⟩
def b_75_0 (p : Nat) (np : Nat) (x1 : Int32) (I : dI) (J : dJ) : Option (dI × dJ) := if (I p 1) < 0 then (some (I, J)) else (if (Int32.ofNat np) ≤ (I p 1) then (some (I, J)) else (if ¬ ((I p 1) < 0 ∨ np ≤ Int32.toNatClampNeg (I p 1)) then lt_ (sI I (p + 1) (Int32.toNatClampNeg (I p 1)) x1) (fun I4 => lt_ (sI I4 p 1 ((I4 p 1) + 1)) (fun I5 => some (I5, J))) else none))
theorem p_75_0 {Q : Nat → Option Nat} {D : Nat} {p : Nat} {np : Nat} (hD : 1 ≤ D) (okp : okPi p np) (x1 : Int32) (I : dI) (J : dJ) (R : (dI × dJ)) (h : b_75_0 p np x1 I J = some R) : Rn Q D 75 0 [(0, .ref p), (1, .int x1)] [] I J (none) R.1 R.2 := by
  replace h : (if (I p 1) < 0 then (some (I, J)) else (if (Int32.ofNat np) ≤ (I p 1) then (some (I, J)) else (if ¬ ((I p 1) < 0 ∨ np ≤ Int32.toNatClampNeg (I p 1)) then lt_ (sI I (p + 1) (Int32.toNatClampNeg (I p 1)) x1) (fun I4 => lt_ (sI I4 p 1 ((I4 p 1) + 1)) (fun I5 => some (I5, J))) else none))) = some R := h
  refine Rn.pu (st' := [.ref p]) dk_75_0 L_75 rfl ?_
  refine Rn.gI dk_75_1 f_75_1.choose_spec okp.1 rfl ?_
  by_cases c1 : (I p 1) < 0
  · rw [if_pos c1] at h
    refine Rn.i1t (t := 39) dk_75_4 rfl (decide_eq_true c1) ?_
    cases h
    exact Rn.rv dk_75_39 R_75
  · rw [if_neg c1] at h
    refine Rn.i1f (t := 39) dk_75_4 rfl (decide_eq_false c1) ?_
    refine Rn.pu (st' := [.ref p]) dk_75_7 L_75 rfl ?_
    refine Rn.gI dk_75_8 f_75_8.choose_spec okp.1 rfl ?_
    refine Rn.pu (st' := [.ref p, .int (I p 1)]) dk_75_11 L_75 rfl ?_
    refine Rn.gR (r := (p + 1)) dk_75_12 f_75_12.choose_spec okp.1 rfl ?_
    refine Rn.alen dk_75_15 okp.2 (by decide) ?_
    by_cases c2 : (Int32.ofNat np) ≤ (I p 1)
    · rw [if_pos c2] at h
      refine Rn.i2t (t := 39) dk_75_16 rfl (decide_eq_true c2) ?_
      cases h
      exact Rn.rv dk_75_39 R_75
    · rw [if_neg c2] at h
      refine Rn.i2f (t := 39) dk_75_16 rfl (decide_eq_false c2) ?_
      refine Rn.pu (st' := [.ref p]) dk_75_19 L_75 rfl ?_
      refine Rn.gR (r := (p + 1)) dk_75_20 f_75_20.choose_spec okp.1 rfl ?_
      refine Rn.pu (st' := [.ref p, .ref (p + 1)]) dk_75_23 L_75 rfl ?_
      refine Rn.gI dk_75_24 f_75_24.choose_spec okp.1 rfl ?_
      refine Rn.pu (st' := [.int x1, .int (I p 1), .ref (p + 1)]) dk_75_27 L_75 rfl ?_
      obtain ⟨c3, h⟩ := xm_if h
      obtain ⟨I4, eI4, h⟩ := letS h
      refine Rn.iast dk_75_28 okp.2 c3 ?_
      rw [← eI4]
      refine Rn.pu (st' := [.ref p]) dk_75_29 L_75 rfl ?_
      refine Rn.pu (st' := [.ref p, .ref p]) dk_75_30 L_75 rfl ?_
      refine Rn.gI dk_75_31 f_75_31.choose_spec okp.1 rfl ?_
      refine Rn.ic dk_75_34 cic_1 ?_
      refine Rn.pu (st' := [.int ((I4 p 1) + 1), .ref p]) dk_75_35 L_75 rfl ?_
      obtain ⟨I5, eI5, h⟩ := letS h
      refine Rn.pI dk_75_36 f_75_36.choose_spec.1 okp.1 rfl f_75_36.choose_spec.2 rfl rfl ?_
      rw [← eI5]
      cases h
      exact Rn.rv dk_75_39 R_75
def m_75 (p : Nat) (np : Nat) (x1 : Int32) (I : dI) (J : dJ) : Option (dI × dJ) := b_75_0 p np x1 I J
theorem x_75 {Q : Nat → Option Nat} {D : Nat} {p : Nat} {np : Nat} (hD : 2 ≤ D) (okp : okPi p np) {x1 : Int32} {I : dI} {J : dJ} {R : (dI × dJ)} (h : m_75 p np x1 I J = some R) : Ex Q D 75 I J [.ref p, .int x1] (none) R.1 R.2 := by
  obtain ⟨D, rfl⟩ : ∃ D', D = D' + 1 := ⟨D - 1, by omega⟩
  exact Ex.of (by decide) (by rw [L_75]; exact Nat.le_of_ble_eq_true rfl) (show xm_sub [(0, .ref p), (1, .int x1)] [(0, .ref p), (1, .int x1)] from xm_sub_of [0, 1] [0, 1] rfl rfl (by decide)) (p_75_0 (Nat.le_of_succ_le_succ hD) okp _ _ _ _ h)
-- ConditionDesk$Builder.settleOne()V
theorem L_72 : tb_mL 72 = 4 := by decide +kernel
theorem R_72 : tb_mr 72 = none := by decide +kernel
theorem dk_72_0 : decode (tb_mb 72) 0 = .ok (.aload_n 0, 1) := by decide +kernel
theorem dk_72_1 : decode (tb_mb 72) 1 = .ok (.getfield 23, 3) := by decide +kernel
theorem f_72_1 : ∃ b, tb_fr (tb_oc 72) 23 = some (0, 3, b) := ⟨_, rfl⟩
theorem dk_72_4 : decode (tb_mb 72) 4 = .ok (.invokevirtual 131, 3) := by decide +kernel
theorem ck_72_4 : ∃ b, tb_cr (tb_oc 72) 131 = some (0, 73, b, 0) := ⟨_, rfl⟩
theorem dk_72_7 : decode (tb_mb 72) 7 = .ok (.istore_n 1, 1) := by decide +kernel
theorem dk_72_8 : decode (tb_mb 72) 8 = .ok (.iload_n 1, 1) := by decide +kernel
theorem dk_72_9 : decode (tb_mb 72) 9 = .ok (.invokestatic 108, 3) := by decide +kernel
theorem ck_72_9 : ∃ b, tb_cr (tb_oc 72) 108 = some (1, 67, b, 1) := ⟨_, rfl⟩
theorem dk_72_12 : decode (tb_mb 72) 12 = .ok (.ifCond .eq (13), 3) := by decide +kernel
theorem dk_72_25 : decode (tb_mb 72) 25 = .ok (.iconst (-1), 1) := by decide +kernel
theorem dk_72_26 : decode (tb_mb 72) 26 = .ok (.istore_n 2, 1) := by decide +kernel
theorem dk_72_27 : decode (tb_mb 72) 27 = .ok (.aload_n 0, 1) := by decide +kernel
theorem dk_72_28 : decode (tb_mb 72) 28 = .ok (.getfield 27, 3) := by decide +kernel
theorem f_72_28 : ∃ b, tb_fr (tb_oc 72) 27 = some (0, 4, b) := ⟨_, rfl⟩
theorem dk_72_31 : decode (tb_mb 72) 31 = .ok (.invokevirtual 131, 3) := by decide +kernel
theorem ck_72_31 : ∃ b, tb_cr (tb_oc 72) 131 = some (0, 73, b, 0) := ⟨_, rfl⟩
theorem dk_72_34 : decode (tb_mb 72) 34 = .ok (.istore_n 3, 1) := by decide +kernel
theorem dk_72_35 : decode (tb_mb 72) 35 = .ok (.aload_n 0, 1) := by decide +kernel
theorem dk_72_36 : decode (tb_mb 72) 36 = .ok (.getfield 27, 3) := by decide +kernel
theorem f_72_36 : ∃ b, tb_fr (tb_oc 72) 27 = some (0, 4, b) := ⟨_, rfl⟩
theorem dk_72_39 : decode (tb_mb 72) 39 = .ok (.aload_n 0, 1) := by decide +kernel
theorem dk_72_40 : decode (tb_mb 72) 40 = .ok (.getfield 12, 3) := by decide +kernel
theorem f_72_40 : ∃ b, tb_fr (tb_oc 72) 12 = some (0, 2, b) := ⟨_, rfl⟩
theorem dk_72_43 : decode (tb_mb 72) 43 = .ok (.iload_n 1, 1) := by decide +kernel
theorem dk_72_44 : decode (tb_mb 72) 44 = .ok (.iload_n 3, 1) := by decide +kernel
theorem dk_72_45 : decode (tb_mb 72) 45 = .ok (.iload_n 2, 1) := by decide +kernel
theorem dk_72_46 : decode (tb_mb 72) 46 = .ok (.lconst 0, 1) := by decide +kernel
theorem dk_72_47 : decode (tb_mb 72) 47 = .ok (.invokevirtual 127, 3) := by decide +kernel
theorem ck_72_47 : ∃ b, tb_cr (tb_oc 72) 127 = some (0, 74, b, 4) := ⟨_, rfl⟩
theorem dk_72_50 : decode (tb_mb 72) 50 = .ok (.invokevirtual 120, 3) := by decide +kernel
theorem ck_72_50 : ∃ b, tb_cr (tb_oc 72) 120 = some (0, 75, b, 1) := ⟨_, rfl⟩
theorem dk_72_53 : decode (tb_mb 72) 53 = .ok (.return_, 1) := by decide +kernel
theorem dk_72_15 : decode (tb_mb 72) 15 = .ok (.aload_n 0, 1) := by decide +kernel
theorem dk_72_16 : decode (tb_mb 72) 16 = .ok (.getfield 27, 3) := by decide +kernel
theorem f_72_16 : ∃ b, tb_fr (tb_oc 72) 27 = some (0, 4, b) := ⟨_, rfl⟩
theorem dk_72_19 : decode (tb_mb 72) 19 = .ok (.invokevirtual 131, 3) := by decide +kernel
theorem ck_72_19 : ∃ b, tb_cr (tb_oc 72) 131 = some (0, 73, b, 0) := ⟨_, rfl⟩
theorem dk_72_22 : decode (tb_mb 72) 22 = .ok (.goto (4), 3) := by decide +kernel
def b_72_26 (x1 : Int32) (s0 : Int32) (I : dI) (J : dJ) : Option (dI × dJ) := (m_73 14 40 I J).bind (fun r6 => (m_74 7 x1 r6.1 s0 0 r6.2.1 r6.2.2).bind (fun r8 => (m_75 14 40 r8.1 r8.2.1 r8.2.2).bind (fun r10 => some (r10.1, r10.2))))
theorem p_72_26 {Q : Nat → Option Nat} {D : Nat} (hD : 2 ≤ D) (x1 : Int32) (s0 : Int32) (I : dI) (J : dJ) (R : (dI × dJ)) (h : b_72_26 x1 s0 I J = some R) : Rn Q D 72 26 [(0, .ref 6), (1, .int x1)] [.int s0] I J (none) R.1 R.2 := by
  replace h : ((m_73 14 40 I J).bind (fun r6 => (m_74 7 x1 r6.1 s0 0 r6.2.1 r6.2.2).bind (fun r8 => (m_75 14 40 r8.1 r8.2.1 r8.2.2).bind (fun r10 => some (r10.1, r10.2))))) = some R := h
  refine Rn.pu (ls' := [(2, .int s0), (0, .ref 6), (1, .int x1)]) (st' := []) dk_72_26 L_72 rfl ?_
  refine Rn.pu (st' := [.ref 6]) dk_72_27 L_72 rfl ?_
  refine Rn.gR (r := 14) dk_72_28 f_72_28.choose_spec sk_6 rfl ?_
  obtain ⟨r6, e7, h⟩ := bindS h
  refine Rn.cvI (p := 14) (As := []) (rest := []) dk_72_31 ck_72_31.choose_spec rfl sk_14 rfl (x_73 (Nat.le_trans (Nat.le_of_ble_eq_true rfl) hD) ok_14 e7) ?_
  refine Rn.pu (ls' := [(3, .int r6.1), (2, .int s0), (0, .ref 6), (1, .int x1)]) (st' := []) dk_72_34 L_72 rfl ?_
  refine Rn.pu (st' := [.ref 6]) dk_72_35 L_72 rfl ?_
  refine Rn.gR (r := 14) dk_72_36 f_72_36.choose_spec sk_6 rfl ?_
  refine Rn.pu (st' := [.ref 6, .ref 14]) dk_72_39 L_72 rfl ?_
  refine Rn.gR (r := 7) dk_72_40 f_72_40.choose_spec sk_6 rfl ?_
  refine Rn.pu (st' := [.int x1, .ref 7, .ref 14]) dk_72_43 L_72 rfl ?_
  refine Rn.pu (st' := [.int r6.1, .int x1, .ref 7, .ref 14]) dk_72_44 L_72 rfl ?_
  refine Rn.pu (st' := [.int s0, .int r6.1, .int x1, .ref 7, .ref 14]) dk_72_45 L_72 rfl ?_
  refine Rn.lc dk_72_46 clc_0 ?_
  obtain ⟨r8, e9, h⟩ := bindS h
  refine Rn.cvI (p := 7) (As := [.int x1, .int r6.1, .int s0, .long 0]) (rest := [.ref 14]) dk_72_47 ck_72_47.choose_spec rfl sk_7 rfl (x_74 (Nat.le_trans (Nat.le_of_ble_eq_true rfl) hD) ok_7 e9) ?_
  obtain ⟨r10, e11, h⟩ := bindS h
  refine Rn.cvV (p := 14) (As := [.int r8.1]) (rest := []) dk_72_50 ck_72_50.choose_spec rfl sk_14 rfl (x_75 (Nat.le_trans (Nat.le_of_ble_eq_true rfl) hD) ok_14 e11) ?_
  cases h
  exact Rn.rv dk_72_53 R_72
def b_72_0 (I : dI) (J : dJ) : Option (dI × dJ) := (m_73 12 80 I J).bind (fun r1 => (m_67 r1.1 r1.2.1 r1.2.2).bind (fun r3 => if r3 = 0 then (b_72_26 r1.1 (-1) r1.2.1 r1.2.2) else ((m_73 14 40 r1.2.1 r1.2.2).bind (fun r6 => b_72_26 r1.1 r6.1 r6.2.1 r6.2.2))))
theorem p_72_0 {Q : Nat → Option Nat} {D : Nat} (hD : 2 ≤ D) (I : dI) (J : dJ) (R : (dI × dJ)) (h : b_72_0 I J = some R) : Rn Q D 72 0 [(0, .ref 6)] [] I J (none) R.1 R.2 := by
  replace h : ((m_73 12 80 I J).bind (fun r1 => (m_67 r1.1 r1.2.1 r1.2.2).bind (fun r3 => if r3 = 0 then (b_72_26 r1.1 (-1) r1.2.1 r1.2.2) else ((m_73 14 40 r1.2.1 r1.2.2).bind (fun r6 => b_72_26 r1.1 r6.1 r6.2.1 r6.2.2))))) = some R := h
  refine Rn.pu (st' := [.ref 6]) dk_72_0 L_72 rfl ?_
  refine Rn.gR (r := 12) dk_72_1 f_72_1.choose_spec sk_6 rfl ?_
  obtain ⟨r1, e2, h⟩ := bindS h
  refine Rn.cvI (p := 12) (As := []) (rest := []) dk_72_4 ck_72_4.choose_spec rfl sk_12 rfl (x_73 (Nat.le_trans (Nat.le_of_ble_eq_true rfl) hD) ok_12 e2) ?_
  refine Rn.pu (ls' := [(1, .int r1.1), (0, .ref 6)]) (st' := []) dk_72_7 L_72 rfl ?_
  refine Rn.pu (st' := [.int r1.1]) dk_72_8 L_72 rfl ?_
  obtain ⟨r3, e4, h⟩ := bindS h
  refine Rn.csI (As := [.int r1.1]) (rest := []) dk_72_9 ck_72_9.choose_spec rfl (x_67 (Nat.le_trans (Nat.le_of_ble_eq_true rfl) hD) e4) ?_
  by_cases c5 : r3 = 0
  · rw [if_pos c5] at h
    refine Rn.i1t (t := 25) dk_72_12 rfl (decide_eq_true c5) ?_
    refine Rn.ic dk_72_25 cic_m1 ?_
    exact Rn.wk [1, 0] rfl (p_72_26 hD _ _ _ _ _ h)
  · rw [if_neg c5] at h
    refine Rn.i1f (t := 25) dk_72_12 rfl (decide_eq_false c5) ?_
    refine Rn.pu (st' := [.ref 6]) dk_72_15 L_72 rfl ?_
    refine Rn.gR (r := 14) dk_72_16 f_72_16.choose_spec sk_6 rfl ?_
    obtain ⟨r6, e7, h⟩ := bindS h
    refine Rn.cvI (p := 14) (As := []) (rest := []) dk_72_19 ck_72_19.choose_spec rfl sk_14 rfl (x_73 (Nat.le_trans (Nat.le_of_ble_eq_true rfl) hD) ok_14 e7) ?_
    refine Rn.gt (t := 26) dk_72_22 rfl ?_
    exact Rn.wk [1, 0] rfl (p_72_26 hD _ _ _ _ _ h)
def m_72 (I : dI) (J : dJ) : Option (dI × dJ) := b_72_0 I J
theorem x_72 {Q : Nat → Option Nat} {D : Nat} (hD : 3 ≤ D) {I : dI} {J : dJ} {R : (dI × dJ)} (h : m_72 I J = some R) : Ex Q D 72 I J [.ref 6] (none) R.1 R.2 := by
  obtain ⟨D, rfl⟩ : ∃ D', D = D' + 1 := ⟨D - 1, by omega⟩
  exact Ex.of (by decide) (by rw [L_72]; exact Nat.le_of_ble_eq_true rfl) (show xm_sub [(0, .ref 6)] [(0, .ref 6)] from xm_sub_of [0] [0] rfl rfl (by decide)) (p_72_0 (Nat.le_of_succ_le_succ hD) _ _ _ h)
