/-! Printed by wip/whole/gen_dec.py: methods read back. -/
-- ConditionDesk.about(II)J
theorem L_92 : tb_mL 92 = 4 := by decide +kernel
theorem R_92 : tb_mr 92 = some .long := by decide +kernel
theorem dk_92_0 : decode (tb_mb 92) 0 = .ok (.aload_n 0, 1) := by decide +kernel
theorem dk_92_1 : decode (tb_mb 92) 1 = .ok (.iload_n 1, 1) := by decide +kernel
theorem dk_92_2 : decode (tb_mb 92) 2 = .ok (.invokevirtual 49, 3) := by decide +kernel
theorem ck_92_2 : ∃ b, tb_cr (tb_oc 92) 49 = some (0, 40, b, 1) := ⟨_, rfl⟩
theorem dk_92_5 : decode (tb_mb 92) 5 = .ok (.astore_n 3, 1) := by decide +kernel
theorem dk_92_6 : decode (tb_mb 92) 6 = .ok (.aload_n 3, 1) := by decide +kernel
theorem dk_92_7 : decode (tb_mb 92) 7 = .ok (.ifnull (12), 3) := by decide +kernel
theorem dk_92_10 : decode (tb_mb 92) 10 = .ok (.iload_n 2, 1) := by decide +kernel
theorem dk_92_11 : decode (tb_mb 92) 11 = .ok (.ifCond .lt (8), 3) := by decide +kernel
theorem dk_92_14 : decode (tb_mb 92) 14 = .ok (.iload_n 2, 1) := by decide +kernel
theorem dk_92_15 : decode (tb_mb 92) 15 = .ok (.iconst (5), 1) := by decide +kernel
theorem dk_92_16 : decode (tb_mb 92) 16 = .ok (.if_icmp .le (13), 3) := by decide +kernel
theorem dk_92_29 : decode (tb_mb 92) 29 = .ok (.aload_n 3, 1) := by decide +kernel
theorem dk_92_30 : decode (tb_mb 92) 30 = .ok (.getfield 75, 3) := by decide +kernel
theorem f_92_30 : ∃ b, tb_fr (tb_oc 92) 75 = some (1, 1, b) := ⟨_, rfl⟩
theorem dk_92_33 : decode (tb_mb 92) 33 = .ok (.ifCond .ne (13), 3) := by decide +kernel
theorem dk_92_46 : decode (tb_mb 92) 46 = .ok (.aload_n 3, 1) := by decide +kernel
theorem dk_92_47 : decode (tb_mb 92) 47 = .ok (.iload_n 2, 1) := by decide +kernel
theorem dk_92_48 : decode (tb_mb 92) 48 = .ok (.invokevirtual 112, 3) := by decide +kernel
theorem ck_92_48 : ∃ b, tb_cr (tb_oc 92) 112 = some (0, 93, b, 1) := ⟨_, rfl⟩
theorem dk_92_51 : decode (tb_mb 92) 51 = .ok (.lreturn, 1) := by decide +kernel
def b_92_19 (I : dI) (J : dJ) : Option (Int64 × dI × dJ) := none
theorem p_92_19 {Q : Nat → Option Nat} {D : Nat} (hD : 2 ≤ D) (hQ : ∀ j, j < 8 → Q j = some (20 + 9 * j)) (I : dI) (J : dJ) (R : (Int64 × dI × dJ)) (h : b_92_19 I J = some R) : Rn Q D 92 19 [] [] I J (some (.long R.1)) R.2.1 R.2.2 := by
  replace h : (none) = some R := h
  cases h
def b_92_0 (x1 : Int32) (x2 : Int32) (I : dI) (J : dJ) : Option (Int64 × dI × dJ) := (m_40 x1 I J).bind (fun r1 => match r1 with | none => (b_92_19 I J) | some c => (if x2 < 0 then (b_92_19 I J) else (if x2 ≤ 5 then (if ¬ (I c 1) = 0 then ((m_93 c x2 I J).bind (fun r6 => some (r6, I, J))) else (none)) else (b_92_19 I J))))
theorem p_92_0 {Q : Nat → Option Nat} {D : Nat} (hD : 2 ≤ D) (hQ : ∀ j, j < 8 → Q j = some (20 + 9 * j)) (x1 : Int32) (x2 : Int32) (I : dI) (J : dJ) (R : (Int64 × dI × dJ)) (h : b_92_0 x1 x2 I J = some R) : Rn Q D 92 0 [(0, .ref 0), (1, .int x1), (2, .int x2)] [] I J (some (.long R.1)) R.2.1 R.2.2 := by
  replace h : ((m_40 x1 I J).bind (fun r1 => match r1 with | none => (b_92_19 I J) | some c => (if x2 < 0 then (b_92_19 I J) else (if x2 ≤ 5 then (if ¬ (I c 1) = 0 then ((m_93 c x2 I J).bind (fun r6 => some (r6, I, J))) else (none)) else (b_92_19 I J))))) = some R := h
  refine Rn.pu (st' := [.ref 0]) dk_92_0 L_92 rfl ?_
  refine Rn.pu (st' := [.int x1, .ref 0]) dk_92_1 L_92 rfl ?_
  obtain ⟨r1, e2, h⟩ := bindS h
  cases r1 with
  | none =>
    dsimp only at h
    refine Rn.cvA (p := 0) (As := [.int x1]) (rest := []) dk_92_2 ck_92_2.choose_spec rfl sk_0 rfl (x_40 (Nat.le_trans (Nat.le_of_ble_eq_true rfl) hD) hQ e2) ?_
    refine Rn.pu (ls' := [(3, .null), (0, .ref 0), (1, .int x1), (2, .int x2)]) (st' := []) dk_92_5 L_92 rfl ?_
    refine Rn.pu (st' := [.null]) dk_92_6 L_92 rfl ?_
    refine Rn.sw (t := 19) (st' := []) dk_92_7 (fun _ _ => rfl) rfl ?_
    exact Rn.wk [] rfl (p_92_19 hD hQ _ _ _ h)
  | some c =>
    dsimp only at h
    have okc := ok_ca e2
    refine Rn.cvA (p := 0) (As := [.int x1]) (rest := []) dk_92_2 ck_92_2.choose_spec rfl sk_0 rfl (x_40 (Nat.le_trans (Nat.le_of_ble_eq_true rfl) hD) hQ e2) ?_
    refine Rn.pu (ls' := [(3, .ref c), (0, .ref 0), (1, .int x1), (2, .int x2)]) (st' := []) dk_92_5 L_92 rfl ?_
    refine Rn.pu (st' := [.ref c]) dk_92_6 L_92 rfl ?_
    refine Rn.sf (t := 19) (st' := []) dk_92_7 (fun _ _ => rfl) rfl ?_
    refine Rn.pu (st' := [.int x2]) dk_92_10 L_92 rfl ?_
    by_cases c3 : x2 < 0
    · rw [if_pos c3] at h
      refine Rn.i1t (t := 19) dk_92_11 rfl (decide_eq_true c3) ?_
      exact Rn.wk [] rfl (p_92_19 hD hQ _ _ _ h)
    · rw [if_neg c3] at h
      refine Rn.i1f (t := 19) dk_92_11 rfl (decide_eq_false c3) ?_
      refine Rn.pu (st' := [.int x2]) dk_92_14 L_92 rfl ?_
      refine Rn.ic dk_92_15 cic_5 ?_
      by_cases c4 : x2 ≤ 5
      · rw [if_pos c4] at h
        refine Rn.i2t (t := 29) dk_92_16 rfl (decide_eq_true c4) ?_
        refine Rn.pu (st' := [.ref c]) dk_92_29 L_92 rfl ?_
        refine Rn.gI dk_92_30 f_92_30.choose_spec okc.1 rfl ?_
        by_cases c5 : ¬ (I c 1) = 0
        · rw [if_pos c5] at h
          refine Rn.i1t (t := 46) dk_92_33 rfl (decide_eq_true c5) ?_
          refine Rn.pu (st' := [.ref c]) dk_92_46 L_92 rfl ?_
          refine Rn.pu (st' := [.int x2, .ref c]) dk_92_47 L_92 rfl ?_
          obtain ⟨r6, e7, h⟩ := bindS h
          refine Rn.cvJ (p := c) (As := [.int x2]) (rest := []) dk_92_48 ck_92_48.choose_spec rfl okc.1 rfl (x_93 (Nat.le_trans (Nat.le_of_ble_eq_true rfl) hD) okc e7) ?_
          cases h
          exact Rn.rl dk_92_51 R_92
        · rw [if_neg c5] at h
          refine Rn.i1f (t := 46) dk_92_33 rfl (decide_eq_false c5) ?_
          cases h
      · rw [if_neg c4] at h
        refine Rn.i2f (t := 29) dk_92_16 rfl (decide_eq_false c4) ?_
        exact Rn.wk [] rfl (p_92_19 hD hQ _ _ _ h)
def m_92 (x1 : Int32) (x2 : Int32) (I : dI) (J : dJ) : Option (Int64 × dI × dJ) := b_92_0 x1 x2 I J
theorem x_92 {Q : Nat → Option Nat} {D : Nat} (hD : 3 ≤ D) (hQ : ∀ j, j < 8 → Q j = some (20 + 9 * j)) {x1 : Int32} {x2 : Int32} {I : dI} {J : dJ} {R : (Int64 × dI × dJ)} (h : m_92 x1 x2 I J = some R) : Ex Q D 92 I J [.ref 0, .int x1, .int x2] (some (.long R.1)) R.2.1 R.2.2 := by
  obtain ⟨D, rfl⟩ : ∃ D', D = D' + 1 := ⟨D - 1, by omega⟩
  exact Ex.of (by decide) (by rw [L_92]; exact Nat.le_of_ble_eq_true rfl) (show xm_sub [(0, .ref 0), (1, .int x1), (2, .int x2)] [(0, .ref 0), (1, .int x1), (2, .int x2)] from xm_sub_of [0, 1, 2] [0, 1, 2] rfl rfl (by decide)) (p_92_0 (Nat.le_of_succ_le_succ hD) hQ _ _ _ _ _ h)
-- ConditionDeskModel.thrown()I
theorem L_95 : tb_mL 95 = 1 := by decide +kernel
theorem R_95 : tb_mr 95 = some .int := by decide +kernel
theorem dk_95_0 : decode (tb_mb 95) 0 = .ok (.aload_n 0, 1) := by decide +kernel
theorem dk_95_1 : decode (tb_mb 95) 1 = .ok (.getfield 91, 3) := by decide +kernel
theorem f_95_1 : ∃ b, tb_fr (tb_oc 95) 91 = some (9, 0, b) := ⟨_, rfl⟩
theorem dk_95_4 : decode (tb_mb 95) 4 = .ok (.ireturn, 1) := by decide +kernel
def b_95_0 (I : dI) (J : dJ) : Option Int32 := some (I 92 0)
theorem p_95_0 {Q : Nat → Option Nat} {D : Nat} (hD : 1 ≤ D) (I : dI) (J : dJ) (R : Int32) (h : b_95_0 I J = some R) : Rn Q D 95 0 [(0, .ref 92)] [] I J (some (.int R)) I J := by
  replace h : (some (I 92 0)) = some R := h
  refine Rn.pu (st' := [.ref 92]) dk_95_0 L_95 rfl ?_
  refine Rn.gI dk_95_1 f_95_1.choose_spec sk_92 rfl ?_
  cases h
  exact Rn.ri dk_95_4 R_95 rfl
def m_95 (I : dI) (J : dJ) : Option Int32 := b_95_0 I J
theorem x_95 {Q : Nat → Option Nat} {D : Nat} (hD : 2 ≤ D) {I : dI} {J : dJ} {R : Int32} (h : m_95 I J = some R) : Ex Q D 95 I J [.ref 92] (some (.int R)) I J := by
  obtain ⟨D, rfl⟩ : ∃ D', D = D' + 1 := ⟨D - 1, by omega⟩
  exact Ex.of (by decide) (by rw [L_95]; exact Nat.le_of_ble_eq_true rfl) (show xm_sub [(0, .ref 92)] [(0, .ref 92)] from xm_sub_of [0] [0] rfl rfl (by decide)) (p_95_0 (Nat.le_of_succ_le_succ hD) _ _ _ h)
-- ConditionDeskModel.type(C)Z
theorem L_96 : tb_mL 96 = 2 := by decide +kernel
theorem R_96 : tb_mr 96 = some .boolean := by decide +kernel
theorem dk_96_0 : decode (tb_mb 96) 0 = .ok (.aload_n 0, 1) := by decide +kernel
theorem dk_96_1 : decode (tb_mb 96) 1 = .ok (.iconst (0), 1) := by decide +kernel
theorem dk_96_2 : decode (tb_mb 96) 2 = .ok (.putfield 91, 3) := by decide +kernel
theorem f_96_2 : ∃ b, tb_fr (tb_oc 96) 91 = some (9, 0, b) ∧ xm_fin tb_cl (tb_ini 96) b 9 0 = true := ⟨_, rfl, rfl⟩
theorem dk_96_5 : decode (tb_mb 96) 5 = .ok (.iload_n 1, 1) := by decide +kernel
theorem dk_96_6 : decode (tb_mb 96) 6 = .ok (.bipush (32), 2) := by decide +kernel
theorem dk_96_8 : decode (tb_mb 96) 8 = .ok (.if_icmp .lt (18), 3) := by decide +kernel
theorem dk_96_26 : decode (tb_mb 96) 26 = .ok (.iconst (0), 1) := by decide +kernel
theorem dk_96_27 : decode (tb_mb 96) 27 = .ok (.ireturn, 1) := by decide +kernel
theorem dk_96_11 : decode (tb_mb 96) 11 = .ok (.iload_n 1, 1) := by decide +kernel
theorem dk_96_12 : decode (tb_mb 96) 12 = .ok (.bipush (126), 2) := by decide +kernel
theorem dk_96_14 : decode (tb_mb 96) 14 = .ok (.if_icmp .gt (12), 3) := by decide +kernel
theorem dk_96_17 : decode (tb_mb 96) 17 = .ok (.aload_n 0, 1) := by decide +kernel
theorem dk_96_18 : decode (tb_mb 96) 18 = .ok (.getfield 95, 3) := by decide +kernel
theorem f_96_18 : ∃ b, tb_fr (tb_oc 96) 95 = some (9, 1, b) := ⟨_, rfl⟩
theorem dk_96_21 : decode (tb_mb 96) 21 = .ok (.bipush (120), 2) := by decide +kernel
theorem dk_96_23 : decode (tb_mb 96) 23 = .ok (.if_icmp .ne (5), 3) := by decide +kernel
theorem dk_96_28 : decode (tb_mb 96) 28 = .ok (.aload_n 0, 1) := by decide +kernel
theorem dk_96_29 : decode (tb_mb 96) 29 = .ok (.getfield 7, 3) := by decide +kernel
theorem f_96_29 : ∃ b, tb_fr (tb_oc 96) 7 = some (9, 2, b) := ⟨_, rfl⟩
theorem dk_96_32 : decode (tb_mb 96) 32 = .ok (.aload_n 0, 1) := by decide +kernel
theorem dk_96_33 : decode (tb_mb 96) 33 = .ok (.getfield 95, 3) := by decide +kernel
theorem f_96_33 : ∃ b, tb_fr (tb_oc 96) 95 = some (9, 1, b) := ⟨_, rfl⟩
theorem dk_96_36 : decode (tb_mb 96) 36 = .ok (.iload_n 1, 1) := by decide +kernel
theorem dk_96_37 : decode (tb_mb 96) 37 = .ok (.castore, 1) := by decide +kernel
theorem dk_96_38 : decode (tb_mb 96) 38 = .ok (.aload_n 0, 1) := by decide +kernel
theorem dk_96_39 : decode (tb_mb 96) 39 = .ok (.dup, 1) := by decide +kernel
theorem dk_96_40 : decode (tb_mb 96) 40 = .ok (.getfield 95, 3) := by decide +kernel
theorem f_96_40 : ∃ b, tb_fr (tb_oc 96) 95 = some (9, 1, b) := ⟨_, rfl⟩
theorem dk_96_43 : decode (tb_mb 96) 43 = .ok (.iconst (1), 1) := by decide +kernel
theorem dk_96_44 : decode (tb_mb 96) 44 = .ok (.iadd, 1) := by decide +kernel
theorem dk_96_45 : decode (tb_mb 96) 45 = .ok (.putfield 95, 3) := by decide +kernel
theorem f_96_45 : ∃ b, tb_fr (tb_oc 96) 95 = some (9, 1, b) ∧ xm_fin tb_cl (tb_ini 96) b 9 1 = true := ⟨_, rfl, rfl⟩
theorem dk_96_48 : decode (tb_mb 96) 48 = .ok (.iconst (1), 1) := by decide +kernel
theorem dk_96_49 : decode (tb_mb 96) 49 = .ok (.ireturn, 1) := by decide +kernel
def b_96_0 (x1 : Int32) (I : dI) (J : dJ) : Option (Int32 × dI × dJ) := lt_ (sI I 92 0 0) (fun I1 => if x1 < 32 then (some (0, I1, J)) else (if 126 < x1 then (some (0, I1, J)) else (if ¬ (I1 92 1) = 120 then (if ¬ ((I1 92 1) < 0 ∨ 120 ≤ Int32.toNatClampNeg (I1 92 1)) then lt_ (sI I1 93 (Int32.toNatClampNeg (I1 92 1)) (vp_nar .char x1)) (fun I6 => lt_ (sI I6 92 1 ((I6 92 1) + 1)) (fun I7 => some (1, I7, J))) else none) else (some (0, I1, J)))))
theorem p_96_0 {Q : Nat → Option Nat} {D : Nat} (hD : 1 ≤ D) (x1 : Int32) (I : dI) (J : dJ) (R : (Int32 × dI × dJ)) (h : b_96_0 x1 I J = some R) : Rn Q D 96 0 [(0, .ref 92), (1, .int x1)] [] I J (some (.int R.1)) R.2.1 R.2.2 := by
  replace h : (lt_ (sI I 92 0 0) (fun I1 => if x1 < 32 then (some (0, I1, J)) else (if 126 < x1 then (some (0, I1, J)) else (if ¬ (I1 92 1) = 120 then (if ¬ ((I1 92 1) < 0 ∨ 120 ≤ Int32.toNatClampNeg (I1 92 1)) then lt_ (sI I1 93 (Int32.toNatClampNeg (I1 92 1)) (vp_nar .char x1)) (fun I6 => lt_ (sI I6 92 1 ((I6 92 1) + 1)) (fun I7 => some (1, I7, J))) else none) else (some (0, I1, J)))))) = some R := h
  refine Rn.pu (st' := [.ref 92]) dk_96_0 L_96 rfl ?_
  refine Rn.ic dk_96_1 cic_0 ?_
  obtain ⟨I1, eI1, h⟩ := letS h
  refine Rn.pI dk_96_2 f_96_2.choose_spec.1 sk_92 rfl f_96_2.choose_spec.2 rfl rfl ?_
  rw [← eI1]
  refine Rn.pu (st' := [.int x1]) dk_96_5 L_96 rfl ?_
  refine Rn.bp dk_96_6 cbp_32 ?_
  by_cases c2 : x1 < 32
  · rw [if_pos c2] at h
    refine Rn.i2t (t := 26) dk_96_8 rfl (decide_eq_true c2) ?_
    refine Rn.ic dk_96_26 cic_0 ?_
    cases h
    exact Rn.ri dk_96_27 R_96 rfl
  · rw [if_neg c2] at h
    refine Rn.i2f (t := 26) dk_96_8 rfl (decide_eq_false c2) ?_
    refine Rn.pu (st' := [.int x1]) dk_96_11 L_96 rfl ?_
    refine Rn.bp dk_96_12 cbp_126 ?_
    by_cases c3 : 126 < x1
    · rw [if_pos c3] at h
      refine Rn.i2t (t := 26) dk_96_14 rfl (decide_eq_true c3) ?_
      refine Rn.ic dk_96_26 cic_0 ?_
      cases h
      exact Rn.ri dk_96_27 R_96 rfl
    · rw [if_neg c3] at h
      refine Rn.i2f (t := 26) dk_96_14 rfl (decide_eq_false c3) ?_
      refine Rn.pu (st' := [.ref 92]) dk_96_17 L_96 rfl ?_
      refine Rn.gI dk_96_18 f_96_18.choose_spec sk_92 rfl ?_
      refine Rn.bp dk_96_21 cbp_120 ?_
      by_cases c4 : ¬ (I1 92 1) = 120
      · rw [if_pos c4] at h
        refine Rn.i2t (t := 28) dk_96_23 rfl (decide_eq_true c4) ?_
        refine Rn.pu (st' := [.ref 92]) dk_96_28 L_96 rfl ?_
        refine Rn.gR (r := 93) dk_96_29 f_96_29.choose_spec sk_92 rfl ?_
        refine Rn.pu (st' := [.ref 92, .ref 93]) dk_96_32 L_96 rfl ?_
        refine Rn.gI dk_96_33 f_96_33.choose_spec sk_92 rfl ?_
        refine Rn.pu (st' := [.int x1, .int (I1 92 1), .ref 93]) dk_96_36 L_96 rfl ?_
        obtain ⟨c5, h⟩ := xm_if h
        obtain ⟨I6, eI6, h⟩ := letS h
        refine Rn.cast dk_96_37 sk_93 c5 ?_
        rw [← eI6]
        refine Rn.pu (st' := [.ref 92]) dk_96_38 L_96 rfl ?_
        refine Rn.pu (st' := [.ref 92, .ref 92]) dk_96_39 L_96 rfl ?_
        refine Rn.gI dk_96_40 f_96_40.choose_spec sk_92 rfl ?_
        refine Rn.ic dk_96_43 cic_1 ?_
        refine Rn.pu (st' := [.int ((I6 92 1) + 1), .ref 92]) dk_96_44 L_96 rfl ?_
        obtain ⟨I7, eI7, h⟩ := letS h
        refine Rn.pI dk_96_45 f_96_45.choose_spec.1 sk_92 rfl f_96_45.choose_spec.2 rfl rfl ?_
        rw [← eI7]
        refine Rn.ic dk_96_48 cic_1 ?_
        cases h
        exact Rn.ri dk_96_49 R_96 rfl
      · rw [if_neg c4] at h
        refine Rn.i2f (t := 28) dk_96_23 rfl (decide_eq_false c4) ?_
        refine Rn.ic dk_96_26 cic_0 ?_
        cases h
        exact Rn.ri dk_96_27 R_96 rfl
def m_96 (x1 : Int32) (I : dI) (J : dJ) : Option (Int32 × dI × dJ) := b_96_0 x1 I J
theorem x_96 {Q : Nat → Option Nat} {D : Nat} (hD : 2 ≤ D) {x1 : Int32} {I : dI} {J : dJ} {R : (Int32 × dI × dJ)} (h : m_96 x1 I J = some R) : Ex Q D 96 I J [.ref 92, .int x1] (some (.int R.1)) R.2.1 R.2.2 := by
  obtain ⟨D, rfl⟩ : ∃ D', D = D' + 1 := ⟨D - 1, by omega⟩
  exact Ex.of (by decide) (by rw [L_96]; exact Nat.le_of_ble_eq_true rfl) (show xm_sub [(0, .ref 92), (1, .int x1)] [(0, .ref 92), (1, .int x1)] from xm_sub_of [0, 1] [0, 1] rfl rfl (by decide)) (p_96_0 (Nat.le_of_succ_le_succ hD) _ _ _ _ h)
-- ConditionDeskModel.in(JJJ)Z
theorem L_98 : tb_mL 98 = 6 := by decide +kernel
theorem R_98 : tb_mr 98 = some .boolean := by decide +kernel
theorem dk_98_0 : decode (tb_mb 98) 0 = .ok (.lload_n 0, 1) := by decide +kernel
theorem dk_98_1 : decode (tb_mb 98) 1 = .ok (.lload_n 2, 1) := by decide +kernel
theorem dk_98_2 : decode (tb_mb 98) 2 = .ok (.lcmp, 1) := by decide +kernel
theorem dk_98_3 : decode (tb_mb 98) 3 = .ok (.ifCond .lt (14), 3) := by decide +kernel
theorem dk_98_17 : decode (tb_mb 98) 17 = .ok (.iconst (0), 1) := by decide +kernel
theorem dk_98_18 : decode (tb_mb 98) 18 = .ok (.ireturn, 1) := by decide +kernel
theorem dk_98_6 : decode (tb_mb 98) 6 = .ok (.lload_n 0, 1) := by decide +kernel
theorem dk_98_7 : decode (tb_mb 98) 7 = .ok (.lload 4, 2) := by decide +kernel
theorem dk_98_9 : decode (tb_mb 98) 9 = .ok (.lcmp, 1) := by decide +kernel
theorem dk_98_10 : decode (tb_mb 98) 10 = .ok (.ifCond .gt (7), 3) := by decide +kernel
theorem dk_98_13 : decode (tb_mb 98) 13 = .ok (.iconst (1), 1) := by decide +kernel
theorem dk_98_14 : decode (tb_mb 98) 14 = .ok (.goto (4), 3) := by decide +kernel
def b_98_0 (x0 : Int64) (x2 : Int64) (x4 : Int64) (I : dI) (J : dJ) : Option Int32 := if (lg_cmp x0 x2) < 0 then (some 0) else (if 0 < (lg_cmp x0 x4) then (some 0) else (some 1))
theorem p_98_0 {Q : Nat → Option Nat} {D : Nat} (hD : 1 ≤ D) (x0 : Int64) (x2 : Int64) (x4 : Int64) (I : dI) (J : dJ) (R : Int32) (h : b_98_0 x0 x2 x4 I J = some R) : Rn Q D 98 0 [(0, .long x0), (2, .long x2), (4, .long x4)] [] I J (some (.int R)) I J := by
  replace h : (if (lg_cmp x0 x2) < 0 then (some 0) else (if 0 < (lg_cmp x0 x4) then (some 0) else (some 1))) = some R := h
  refine Rn.pu (st' := [.long x0]) dk_98_0 L_98 rfl ?_
  refine Rn.pu (st' := [.long x2, .long x0]) dk_98_1 L_98 rfl ?_
  refine Rn.pu (st' := [.int (lg_cmp x0 x2)]) dk_98_2 L_98 rfl ?_
  by_cases c1 : (lg_cmp x0 x2) < 0
  · rw [if_pos c1] at h
    refine Rn.i1t (t := 17) dk_98_3 rfl (decide_eq_true c1) ?_
    refine Rn.ic dk_98_17 cic_0 ?_
    cases h
    exact Rn.ri dk_98_18 R_98 rfl
  · rw [if_neg c1] at h
    refine Rn.i1f (t := 17) dk_98_3 rfl (decide_eq_false c1) ?_
    refine Rn.pu (st' := [.long x0]) dk_98_6 L_98 rfl ?_
    refine Rn.pu (st' := [.long x4, .long x0]) dk_98_7 L_98 rfl ?_
    refine Rn.pu (st' := [.int (lg_cmp x0 x4)]) dk_98_9 L_98 rfl ?_
    by_cases c2 : 0 < (lg_cmp x0 x4)
    · rw [if_pos c2] at h
      refine Rn.i1t (t := 17) dk_98_10 rfl (decide_eq_true c2) ?_
      refine Rn.ic dk_98_17 cic_0 ?_
      cases h
      exact Rn.ri dk_98_18 R_98 rfl
    · rw [if_neg c2] at h
      refine Rn.i1f (t := 17) dk_98_10 rfl (decide_eq_false c2) ?_
      refine Rn.ic dk_98_13 cic_1 ?_
      refine Rn.gt (t := 18) dk_98_14 rfl ?_
      cases h
      exact Rn.ri dk_98_18 R_98 rfl
def m_98 (x0 : Int64) (x2 : Int64) (x4 : Int64) (I : dI) (J : dJ) : Option Int32 := b_98_0 x0 x2 x4 I J
theorem x_98 {Q : Nat → Option Nat} {D : Nat} (hD : 2 ≤ D) {x0 : Int64} {x2 : Int64} {x4 : Int64} {I : dI} {J : dJ} {R : Int32} (h : m_98 x0 x2 x4 I J = some R) : Ex Q D 98 I J [.long x0, .long x2, .long x4] (some (.int R)) I J := by
  obtain ⟨D, rfl⟩ : ∃ D', D = D' + 1 := ⟨D - 1, by omega⟩
  exact Ex.of (by decide) (by rw [L_98]; exact Nat.le_of_ble_eq_true rfl) (show xm_sub [(0, .long x0), (2, .long x2), (4, .long x4)] [(0, .long x0), (2, .long x2), (4, .long x4)] from xm_sub_of [0, 1, 2] [0, 2, 4] rfl rfl (by decide)) (p_98_0 (Nat.le_of_succ_le_succ hD) _ _ _ _ _ _ h)
-- ConditionDeskModel.refuses(ZZ)Z
theorem L_99 : tb_mL 99 = 3 := by decide +kernel
theorem R_99 : tb_mr 99 = some .boolean := by decide +kernel
theorem dk_99_0 : decode (tb_mb 99) 0 = .ok (.aload_n 0, 1) := by decide +kernel
theorem dk_99_1 : decode (tb_mb 99) 1 = .ok (.iload_n 1, 1) := by decide +kernel
theorem dk_99_2 : decode (tb_mb 99) 2 = .ok (.ifCond .eq (7), 3) := by decide +kernel
theorem dk_99_9 : decode (tb_mb 99) 9 = .ok (.iload_n 2, 1) := by decide +kernel
theorem dk_99_10 : decode (tb_mb 99) 10 = .ok (.ifCond .eq (7), 3) := by decide +kernel
theorem dk_99_17 : decode (tb_mb 99) 17 = .ok (.iconst (0), 1) := by decide +kernel
theorem dk_99_18 : decode (tb_mb 99) 18 = .ok (.putfield 91, 3) := by decide +kernel
theorem f_99_18 : ∃ b, tb_fr (tb_oc 99) 91 = some (9, 0, b) ∧ xm_fin tb_cl (tb_ini 99) b 9 0 = true := ⟨_, rfl, rfl⟩
theorem dk_99_21 : decode (tb_mb 99) 21 = .ok (.aload_n 0, 1) := by decide +kernel
theorem dk_99_22 : decode (tb_mb 99) 22 = .ok (.getfield 91, 3) := by decide +kernel
theorem f_99_22 : ∃ b, tb_fr (tb_oc 99) 91 = some (9, 0, b) := ⟨_, rfl⟩
theorem dk_99_25 : decode (tb_mb 99) 25 = .ok (.ifCond .le (7), 3) := by decide +kernel
theorem dk_99_32 : decode (tb_mb 99) 32 = .ok (.iconst (0), 1) := by decide +kernel
theorem dk_99_33 : decode (tb_mb 99) 33 = .ok (.ireturn, 1) := by decide +kernel
theorem dk_99_28 : decode (tb_mb 99) 28 = .ok (.iconst (1), 1) := by decide +kernel
theorem dk_99_29 : decode (tb_mb 99) 29 = .ok (.goto (4), 3) := by decide +kernel
theorem dk_99_13 : decode (tb_mb 99) 13 = .ok (.iconst (2), 1) := by decide +kernel
theorem dk_99_14 : decode (tb_mb 99) 14 = .ok (.goto (4), 3) := by decide +kernel
theorem dk_99_5 : decode (tb_mb 99) 5 = .ok (.iconst (1), 1) := by decide +kernel
theorem dk_99_6 : decode (tb_mb 99) 6 = .ok (.goto (12), 3) := by decide +kernel
def b_99_18 (s0 : Int32) (I : dI) (J : dJ) : Option (Int32 × dI × dJ) := lt_ (sI I 92 0 s0) (fun I3 => if (I3 92 0) ≤ 0 then (some (0, I3, J)) else (some (1, I3, J)))
theorem p_99_18 {Q : Nat → Option Nat} {D : Nat} (hD : 1 ≤ D) (s0 : Int32) (I : dI) (J : dJ) (R : (Int32 × dI × dJ)) (h : b_99_18 s0 I J = some R) : Rn Q D 99 18 [(0, .ref 92)] [.int s0, .ref 92] I J (some (.int R.1)) R.2.1 R.2.2 := by
  replace h : (lt_ (sI I 92 0 s0) (fun I3 => if (I3 92 0) ≤ 0 then (some (0, I3, J)) else (some (1, I3, J)))) = some R := h
  obtain ⟨I3, eI3, h⟩ := letS h
  refine Rn.pI dk_99_18 f_99_18.choose_spec.1 sk_92 rfl f_99_18.choose_spec.2 rfl rfl ?_
  rw [← eI3]
  refine Rn.pu (st' := [.ref 92]) dk_99_21 L_99 rfl ?_
  refine Rn.gI dk_99_22 f_99_22.choose_spec sk_92 rfl ?_
  by_cases c4 : (I3 92 0) ≤ 0
  · rw [if_pos c4] at h
    refine Rn.i1t (t := 32) dk_99_25 rfl (decide_eq_true c4) ?_
    refine Rn.ic dk_99_32 cic_0 ?_
    cases h
    exact Rn.ri dk_99_33 R_99 rfl
  · rw [if_neg c4] at h
    refine Rn.i1f (t := 32) dk_99_25 rfl (decide_eq_false c4) ?_
    refine Rn.ic dk_99_28 cic_1 ?_
    refine Rn.gt (t := 33) dk_99_29 rfl ?_
    cases h
    exact Rn.ri dk_99_33 R_99 rfl
def b_99_0 (x1 : Int32) (x2 : Int32) (I : dI) (J : dJ) : Option (Int32 × dI × dJ) := if x1 = 0 then (if x2 = 0 then (b_99_18 0 I J) else (b_99_18 2 I J)) else (b_99_18 1 I J)
theorem p_99_0 {Q : Nat → Option Nat} {D : Nat} (hD : 1 ≤ D) (x1 : Int32) (x2 : Int32) (I : dI) (J : dJ) (R : (Int32 × dI × dJ)) (h : b_99_0 x1 x2 I J = some R) : Rn Q D 99 0 [(0, .ref 92), (1, .int x1), (2, .int x2)] [] I J (some (.int R.1)) R.2.1 R.2.2 := by
  replace h : (if x1 = 0 then (if x2 = 0 then (b_99_18 0 I J) else (b_99_18 2 I J)) else (b_99_18 1 I J)) = some R := h
  refine Rn.pu (st' := [.ref 92]) dk_99_0 L_99 rfl ?_
  refine Rn.pu (st' := [.int x1, .ref 92]) dk_99_1 L_99 rfl ?_
  by_cases c1 : x1 = 0
  · rw [if_pos c1] at h
    refine Rn.i1t (t := 9) dk_99_2 rfl (decide_eq_true c1) ?_
    refine Rn.pu (st' := [.int x2, .ref 92]) dk_99_9 L_99 rfl ?_
    by_cases c2 : x2 = 0
    · rw [if_pos c2] at h
      refine Rn.i1t (t := 17) dk_99_10 rfl (decide_eq_true c2) ?_
      refine Rn.ic dk_99_17 cic_0 ?_
      exact Rn.wk [0] rfl (p_99_18 hD _ _ _ _ h)
    · rw [if_neg c2] at h
      refine Rn.i1f (t := 17) dk_99_10 rfl (decide_eq_false c2) ?_
      refine Rn.ic dk_99_13 cic_2 ?_
      refine Rn.gt (t := 18) dk_99_14 rfl ?_
      exact Rn.wk [0] rfl (p_99_18 hD _ _ _ _ h)
  · rw [if_neg c1] at h
    refine Rn.i1f (t := 9) dk_99_2 rfl (decide_eq_false c1) ?_
    refine Rn.ic dk_99_5 cic_1 ?_
    refine Rn.gt (t := 18) dk_99_6 rfl ?_
    exact Rn.wk [0] rfl (p_99_18 hD _ _ _ _ h)
def m_99 (x1 : Int32) (x2 : Int32) (I : dI) (J : dJ) : Option (Int32 × dI × dJ) := b_99_0 x1 x2 I J
theorem x_99 {Q : Nat → Option Nat} {D : Nat} (hD : 2 ≤ D) {x1 : Int32} {x2 : Int32} {I : dI} {J : dJ} {R : (Int32 × dI × dJ)} (h : m_99 x1 x2 I J = some R) : Ex Q D 99 I J [.ref 92, .int x1, .int x2] (some (.int R.1)) R.2.1 R.2.2 := by
  obtain ⟨D, rfl⟩ : ∃ D', D = D' + 1 := ⟨D - 1, by omega⟩
  exact Ex.of (by decide) (by rw [L_99]; exact Nat.le_of_ble_eq_true rfl) (show xm_sub [(0, .ref 92), (1, .int x1), (2, .int x2)] [(0, .ref 92), (1, .int x1), (2, .int x2)] from xm_sub_of [0, 1, 2] [0, 1, 2] rfl rfl (by decide)) (p_99_0 (Nat.le_of_succ_le_succ hD) _ _ _ _ _ h)
-- ConditionDeskModel.charAt(I)I
theorem L_101 : tb_mL 101 = 2 := by decide +kernel
theorem R_101 : tb_mr 101 = some .int := by decide +kernel
theorem dk_101_0 : decode (tb_mb 101) 0 = .ok (.iload_n 1, 1) := by decide +kernel
theorem dk_101_1 : decode (tb_mb 101) 1 = .ok (.aload_n 0, 1) := by decide +kernel
theorem dk_101_2 : decode (tb_mb 101) 2 = .ok (.getfield 95, 3) := by decide +kernel
theorem f_101_2 : ∃ b, tb_fr (tb_oc 101) 95 = some (9, 1, b) := ⟨_, rfl⟩
theorem dk_101_5 : decode (tb_mb 101) 5 = .ok (.if_icmp .ge (12), 3) := by decide +kernel
theorem dk_101_17 : decode (tb_mb 101) 17 = .ok (.iconst (0), 1) := by decide +kernel
theorem dk_101_18 : decode (tb_mb 101) 18 = .ok (.ireturn, 1) := by decide +kernel
theorem dk_101_8 : decode (tb_mb 101) 8 = .ok (.aload_n 0, 1) := by decide +kernel
theorem dk_101_9 : decode (tb_mb 101) 9 = .ok (.getfield 7, 3) := by decide +kernel
theorem f_101_9 : ∃ b, tb_fr (tb_oc 101) 7 = some (9, 2, b) := ⟨_, rfl⟩
theorem dk_101_12 : decode (tb_mb 101) 12 = .ok (.iload_n 1, 1) := by decide +kernel
theorem dk_101_13 : decode (tb_mb 101) 13 = .ok (.caload, 1) := by decide +kernel
theorem dk_101_14 : decode (tb_mb 101) 14 = .ok (.goto (4), 3) := by decide +kernel
def b_101_0 (x1 : Int32) (I : dI) (J : dJ) : Option Int32 := if (I 92 1) ≤ x1 then (some 0) else (if ¬ (x1 < 0 ∨ 120 ≤ Int32.toNatClampNeg x1) then (some (I 93 (Int32.toNatClampNeg x1))) else none)
theorem p_101_0 {Q : Nat → Option Nat} {D : Nat} (hD : 1 ≤ D) (x1 : Int32) (I : dI) (J : dJ) (R : Int32) (h : b_101_0 x1 I J = some R) : Rn Q D 101 0 [(0, .ref 92), (1, .int x1)] [] I J (some (.int R)) I J := by
  replace h : (if (I 92 1) ≤ x1 then (some 0) else (if ¬ (x1 < 0 ∨ 120 ≤ Int32.toNatClampNeg x1) then (some (I 93 (Int32.toNatClampNeg x1))) else none)) = some R := h
  refine Rn.pu (st' := [.int x1]) dk_101_0 L_101 rfl ?_
  refine Rn.pu (st' := [.ref 92, .int x1]) dk_101_1 L_101 rfl ?_
  refine Rn.gI dk_101_2 f_101_2.choose_spec sk_92 rfl ?_
  by_cases c1 : (I 92 1) ≤ x1
  · rw [if_pos c1] at h
    refine Rn.i2t (t := 17) dk_101_5 rfl (decide_eq_true c1) ?_
    refine Rn.ic dk_101_17 cic_0 ?_
    cases h
    exact Rn.ri dk_101_18 R_101 rfl
  · rw [if_neg c1] at h
    refine Rn.i2f (t := 17) dk_101_5 rfl (decide_eq_false c1) ?_
    refine Rn.pu (st' := [.ref 92]) dk_101_8 L_101 rfl ?_
    refine Rn.gR (r := 93) dk_101_9 f_101_9.choose_spec sk_92 rfl ?_
    refine Rn.pu (st' := [.int x1, .ref 93]) dk_101_12 L_101 rfl ?_
    obtain ⟨c2, h⟩ := xm_if h
    refine Rn.cald dk_101_13 sk_93 c2 ?_
    refine Rn.gt (t := 18) dk_101_14 rfl ?_
    cases h
    exact Rn.ri dk_101_18 R_101 rfl
def m_101 (x1 : Int32) (I : dI) (J : dJ) : Option Int32 := b_101_0 x1 I J
theorem x_101 {Q : Nat → Option Nat} {D : Nat} (hD : 2 ≤ D) {x1 : Int32} {I : dI} {J : dJ} {R : Int32} (h : m_101 x1 I J = some R) : Ex Q D 101 I J [.ref 92, .int x1] (some (.int R)) I J := by
  obtain ⟨D, rfl⟩ : ∃ D', D = D' + 1 := ⟨D - 1, by omega⟩
  exact Ex.of (by decide) (by rw [L_101]; exact Nat.le_of_ble_eq_true rfl) (show xm_sub [(0, .ref 92), (1, .int x1)] [(0, .ref 92), (1, .int x1)] from xm_sub_of [0, 1] [0, 1] rfl rfl (by decide)) (p_101_0 (Nat.le_of_succ_le_succ hD) _ _ _ _ h)
-- ConditionDeskModel.isDigit(I)Z
theorem L_104 : tb_mL 104 = 1 := by decide +kernel
theorem R_104 : tb_mr 104 = some .boolean := by decide +kernel
theorem dk_104_0 : decode (tb_mb 104) 0 = .ok (.iload_n 0, 1) := by decide +kernel
theorem dk_104_1 : decode (tb_mb 104) 1 = .ok (.bipush (48), 2) := by decide +kernel
theorem dk_104_3 : decode (tb_mb 104) 3 = .ok (.if_icmp .lt (13), 3) := by decide +kernel
theorem dk_104_16 : decode (tb_mb 104) 16 = .ok (.iconst (0), 1) := by decide +kernel
theorem dk_104_17 : decode (tb_mb 104) 17 = .ok (.ireturn, 1) := by decide +kernel
theorem dk_104_6 : decode (tb_mb 104) 6 = .ok (.iload_n 0, 1) := by decide +kernel
theorem dk_104_7 : decode (tb_mb 104) 7 = .ok (.bipush (57), 2) := by decide +kernel
theorem dk_104_9 : decode (tb_mb 104) 9 = .ok (.if_icmp .gt (7), 3) := by decide +kernel
theorem dk_104_12 : decode (tb_mb 104) 12 = .ok (.iconst (1), 1) := by decide +kernel
theorem dk_104_13 : decode (tb_mb 104) 13 = .ok (.goto (4), 3) := by decide +kernel
def b_104_0 (x0 : Int32) (I : dI) (J : dJ) : Option Int32 := if x0 < 48 then (some 0) else (if 57 < x0 then (some 0) else (some 1))
theorem p_104_0 {Q : Nat → Option Nat} {D : Nat} (hD : 1 ≤ D) (x0 : Int32) (I : dI) (J : dJ) (R : Int32) (h : b_104_0 x0 I J = some R) : Rn Q D 104 0 [(0, .int x0)] [] I J (some (.int R)) I J := by
  replace h : (if x0 < 48 then (some 0) else (if 57 < x0 then (some 0) else (some 1))) = some R := h
  refine Rn.pu (st' := [.int x0]) dk_104_0 L_104 rfl ?_
  refine Rn.bp dk_104_1 cbp_48 ?_
  by_cases c1 : x0 < 48
  · rw [if_pos c1] at h
    refine Rn.i2t (t := 16) dk_104_3 rfl (decide_eq_true c1) ?_
    refine Rn.ic dk_104_16 cic_0 ?_
    cases h
    exact Rn.ri dk_104_17 R_104 rfl
  · rw [if_neg c1] at h
    refine Rn.i2f (t := 16) dk_104_3 rfl (decide_eq_false c1) ?_
    refine Rn.pu (st' := [.int x0]) dk_104_6 L_104 rfl ?_
    refine Rn.bp dk_104_7 cbp_57 ?_
    by_cases c2 : 57 < x0
    · rw [if_pos c2] at h
      refine Rn.i2t (t := 16) dk_104_9 rfl (decide_eq_true c2) ?_
      refine Rn.ic dk_104_16 cic_0 ?_
      cases h
      exact Rn.ri dk_104_17 R_104 rfl
    · rw [if_neg c2] at h
      refine Rn.i2f (t := 16) dk_104_9 rfl (decide_eq_false c2) ?_
      refine Rn.ic dk_104_12 cic_1 ?_
      refine Rn.gt (t := 17) dk_104_13 rfl ?_
      cases h
      exact Rn.ri dk_104_17 R_104 rfl
def m_104 (x0 : Int32) (I : dI) (J : dJ) : Option Int32 := b_104_0 x0 I J
theorem x_104 {Q : Nat → Option Nat} {D : Nat} (hD : 2 ≤ D) {x0 : Int32} {I : dI} {J : dJ} {R : Int32} (h : m_104 x0 I J = some R) : Ex Q D 104 I J [.int x0] (some (.int R)) I J := by
  obtain ⟨D, rfl⟩ : ∃ D', D = D' + 1 := ⟨D - 1, by omega⟩
  exact Ex.of (by decide) (by rw [L_104]; exact Nat.le_of_ble_eq_true rfl) (show xm_sub [(0, .int x0)] [(0, .int x0)] from xm_sub_of [0] [0] rfl rfl (by decide)) (p_104_0 (Nat.le_of_succ_le_succ hD) _ _ _ _ h)
-- ConditionDeskModel.isPlain(I)Z
theorem L_103 : tb_mL 103 = 1 := by decide +kernel
theorem R_103 : tb_mr 103 = some .boolean := by decide +kernel
theorem dk_103_0 : decode (tb_mb 103) 0 = .ok (.iload_n 0, 1) := by decide +kernel
theorem dk_103_1 : decode (tb_mb 103) 1 = .ok (.invokestatic 98, 3) := by decide +kernel
theorem ck_103_1 : ∃ b, tb_cr (tb_oc 103) 98 = some (1, 104, b, 1) := ⟨_, rfl⟩
theorem dk_103_4 : decode (tb_mb 103) 4 = .ok (.ifCond .ne (27), 3) := by decide +kernel
theorem dk_103_31 : decode (tb_mb 103) 31 = .ok (.iconst (1), 1) := by decide +kernel
theorem dk_103_32 : decode (tb_mb 103) 32 = .ok (.goto (4), 3) := by decide +kernel
theorem dk_103_36 : decode (tb_mb 103) 36 = .ok (.ireturn, 1) := by decide +kernel
theorem dk_103_7 : decode (tb_mb 103) 7 = .ok (.iload_n 0, 1) := by decide +kernel
theorem dk_103_8 : decode (tb_mb 103) 8 = .ok (.bipush (97), 2) := by decide +kernel
theorem dk_103_10 : decode (tb_mb 103) 10 = .ok (.if_icmp .lt (9), 3) := by decide +kernel
theorem dk_103_19 : decode (tb_mb 103) 19 = .ok (.iload_n 0, 1) := by decide +kernel
theorem dk_103_20 : decode (tb_mb 103) 20 = .ok (.bipush (65), 2) := by decide +kernel
theorem dk_103_22 : decode (tb_mb 103) 22 = .ok (.if_icmp .lt (13), 3) := by decide +kernel
theorem dk_103_35 : decode (tb_mb 103) 35 = .ok (.iconst (0), 1) := by decide +kernel
theorem dk_103_25 : decode (tb_mb 103) 25 = .ok (.iload_n 0, 1) := by decide +kernel
theorem dk_103_26 : decode (tb_mb 103) 26 = .ok (.bipush (90), 2) := by decide +kernel
theorem dk_103_28 : decode (tb_mb 103) 28 = .ok (.if_icmp .gt (7), 3) := by decide +kernel
theorem dk_103_13 : decode (tb_mb 103) 13 = .ok (.iload_n 0, 1) := by decide +kernel
theorem dk_103_14 : decode (tb_mb 103) 14 = .ok (.bipush (122), 2) := by decide +kernel
theorem dk_103_16 : decode (tb_mb 103) 16 = .ok (.if_icmp .le (15), 3) := by decide +kernel
def b_103_19 (x0 : Int32) (I : dI) (J : dJ) : Option Int32 := if x0 < 65 then (some 0) else (if 90 < x0 then (some 0) else (some 1))
theorem p_103_19 {Q : Nat → Option Nat} {D : Nat} (hD : 2 ≤ D) (x0 : Int32) (I : dI) (J : dJ) (R : Int32) (h : b_103_19 x0 I J = some R) : Rn Q D 103 19 [(0, .int x0)] [] I J (some (.int R)) I J := by
  replace h : (if x0 < 65 then (some 0) else (if 90 < x0 then (some 0) else (some 1))) = some R := h
  refine Rn.pu (st' := [.int x0]) dk_103_19 L_103 rfl ?_
  refine Rn.bp dk_103_20 cbp_65 ?_
  by_cases c5 : x0 < 65
  · rw [if_pos c5] at h
    refine Rn.i2t (t := 35) dk_103_22 rfl (decide_eq_true c5) ?_
    refine Rn.ic dk_103_35 cic_0 ?_
    cases h
    exact Rn.ri dk_103_36 R_103 rfl
  · rw [if_neg c5] at h
    refine Rn.i2f (t := 35) dk_103_22 rfl (decide_eq_false c5) ?_
    refine Rn.pu (st' := [.int x0]) dk_103_25 L_103 rfl ?_
    refine Rn.bp dk_103_26 cbp_90 ?_
    by_cases c6 : 90 < x0
    · rw [if_pos c6] at h
      refine Rn.i2t (t := 35) dk_103_28 rfl (decide_eq_true c6) ?_
      refine Rn.ic dk_103_35 cic_0 ?_
      cases h
      exact Rn.ri dk_103_36 R_103 rfl
    · rw [if_neg c6] at h
      refine Rn.i2f (t := 35) dk_103_28 rfl (decide_eq_false c6) ?_
      refine Rn.ic dk_103_31 cic_1 ?_
      refine Rn.gt (t := 36) dk_103_32 rfl ?_
      cases h
      exact Rn.ri dk_103_36 R_103 rfl
def b_103_0 (x0 : Int32) (I : dI) (J : dJ) : Option Int32 := (m_104 x0 I J).bind (fun r1 => if ¬ r1 = 0 then (some 1) else (if x0 < 97 then (b_103_19 x0 I J) else (if x0 ≤ 122 then (some 1) else (b_103_19 x0 I J))))
theorem p_103_0 {Q : Nat → Option Nat} {D : Nat} (hD : 2 ≤ D) (x0 : Int32) (I : dI) (J : dJ) (R : Int32) (h : b_103_0 x0 I J = some R) : Rn Q D 103 0 [(0, .int x0)] [] I J (some (.int R)) I J := by
  replace h : ((m_104 x0 I J).bind (fun r1 => if ¬ r1 = 0 then (some 1) else (if x0 < 97 then (b_103_19 x0 I J) else (if x0 ≤ 122 then (some 1) else (b_103_19 x0 I J))))) = some R := h
  refine Rn.pu (st' := [.int x0]) dk_103_0 L_103 rfl ?_
  obtain ⟨r1, e2, h⟩ := bindS h
  refine Rn.csI (As := [.int x0]) (rest := []) dk_103_1 ck_103_1.choose_spec rfl (x_104 (Nat.le_trans (Nat.le_of_ble_eq_true rfl) hD) e2) ?_
  by_cases c3 : ¬ r1 = 0
  · rw [if_pos c3] at h
    refine Rn.i1t (t := 31) dk_103_4 rfl (decide_eq_true c3) ?_
    refine Rn.ic dk_103_31 cic_1 ?_
    refine Rn.gt (t := 36) dk_103_32 rfl ?_
    cases h
    exact Rn.ri dk_103_36 R_103 rfl
  · rw [if_neg c3] at h
    refine Rn.i1f (t := 31) dk_103_4 rfl (decide_eq_false c3) ?_
    refine Rn.pu (st' := [.int x0]) dk_103_7 L_103 rfl ?_
    refine Rn.bp dk_103_8 cbp_97 ?_
    by_cases c4 : x0 < 97
    · rw [if_pos c4] at h
      refine Rn.i2t (t := 19) dk_103_10 rfl (decide_eq_true c4) ?_
      exact Rn.wk [0] rfl (p_103_19 hD _ _ _ _ h)
    · rw [if_neg c4] at h
      refine Rn.i2f (t := 19) dk_103_10 rfl (decide_eq_false c4) ?_
      refine Rn.pu (st' := [.int x0]) dk_103_13 L_103 rfl ?_
      refine Rn.bp dk_103_14 cbp_122 ?_
      by_cases c5 : x0 ≤ 122
      · rw [if_pos c5] at h
        refine Rn.i2t (t := 31) dk_103_16 rfl (decide_eq_true c5) ?_
        refine Rn.ic dk_103_31 cic_1 ?_
        refine Rn.gt (t := 36) dk_103_32 rfl ?_
        cases h
        exact Rn.ri dk_103_36 R_103 rfl
      · rw [if_neg c5] at h
        refine Rn.i2f (t := 31) dk_103_16 rfl (decide_eq_false c5) ?_
        exact Rn.wk [0] rfl (p_103_19 hD _ _ _ _ h)
def m_103 (x0 : Int32) (I : dI) (J : dJ) : Option Int32 := b_103_0 x0 I J
theorem x_103 {Q : Nat → Option Nat} {D : Nat} (hD : 3 ≤ D) {x0 : Int32} {I : dI} {J : dJ} {R : Int32} (h : m_103 x0 I J = some R) : Ex Q D 103 I J [.int x0] (some (.int R)) I J := by
  obtain ⟨D, rfl⟩ : ∃ D', D = D' + 1 := ⟨D - 1, by omega⟩
  exact Ex.of (by decide) (by rw [L_103]; exact Nat.le_of_ble_eq_true rfl) (show xm_sub [(0, .int x0)] [(0, .int x0)] from xm_sub_of [0] [0] rfl rfl (by decide)) (p_103_0 (Nat.le_of_succ_le_succ hD) _ _ _ _ h)
-- ConditionDeskModel.scanNumber()V
theorem L_105 : tb_mL 105 = 5 := by decide +kernel
theorem R_105 : tb_mr 105 = none := by decide +kernel
theorem dk_105_0 : decode (tb_mb 105) 0 = .ok (.aload_n 0, 1) := by decide +kernel
theorem dk_105_1 : decode (tb_mb 105) 1 = .ok (.getfield 102, 3) := by decide +kernel
theorem f_105_1 : ∃ b, tb_fr (tb_oc 105) 102 = some (9, 21, b) := ⟨_, rfl⟩
theorem dk_105_4 : decode (tb_mb 105) 4 = .ok (.aload_n 0, 1) := by decide +kernel
theorem dk_105_5 : decode (tb_mb 105) 5 = .ok (.getfield 109, 3) := by decide +kernel
theorem f_105_5 : ∃ b, tb_fr (tb_oc 105) 109 = some (9, 23, b) := ⟨_, rfl⟩
theorem dk_105_8 : decode (tb_mb 105) 8 = .ok (.isub, 1) := by decide +kernel
theorem dk_105_9 : decode (tb_mb 105) 9 = .ok (.iconst (2), 1) := by decide +kernel
theorem dk_105_10 : decode (tb_mb 105) 10 = .ok (.if_icmp .le (37), 3) := by decide +kernel
theorem dk_105_47 : decode (tb_mb 105) 47 = .ok (.iconst (0), 1) := by decide +kernel
theorem dk_105_48 : decode (tb_mb 105) 48 = .ok (.istore_n 1, 1) := by decide +kernel
theorem dk_105_49 : decode (tb_mb 105) 49 = .ok (.aload_n 0, 1) := by decide +kernel
theorem dk_105_50 : decode (tb_mb 105) 50 = .ok (.iconst (1), 1) := by decide +kernel
theorem dk_105_51 : decode (tb_mb 105) 51 = .ok (.putfield 121, 3) := by decide +kernel
theorem f_105_51 : ∃ b, tb_fr (tb_oc 105) 121 = some (9, 22, b) ∧ xm_fin tb_cl (tb_ini 105) b 9 22 = true := ⟨_, rfl, rfl⟩
theorem dk_105_54 : decode (tb_mb 105) 54 = .ok (.aload_n 0, 1) := by decide +kernel
theorem dk_105_55 : decode (tb_mb 105) 55 = .ok (.lconst 0, 1) := by decide +kernel
theorem dk_105_56 : decode (tb_mb 105) 56 = .ok (.putfield 124, 3) := by decide +kernel
theorem f_105_56 : ∃ b, tb_fr (tb_oc 105) 124 = some (9, 27, b) ∧ xm_fin tb_cl (tb_ini 105) b 9 27 = true := ⟨_, rfl, rfl⟩
theorem dk_105_59 : decode (tb_mb 105) 59 = .ok (.iload_n 1, 1) := by decide +kernel
theorem dk_105_60 : decode (tb_mb 105) 60 = .ok (.ifCond .eq (12), 3) := by decide +kernel
theorem dk_105_72 : decode (tb_mb 105) 72 = .ok (.aload_n 0, 1) := by decide +kernel
theorem dk_105_73 : decode (tb_mb 105) 73 = .ok (.getfield 109, 3) := by decide +kernel
theorem f_105_73 : ∃ b, tb_fr (tb_oc 105) 109 = some (9, 23, b) := ⟨_, rfl⟩
theorem dk_105_76 : decode (tb_mb 105) 76 = .ok (.istore_n 2, 1) := by decide +kernel
theorem dk_105_77 : decode (tb_mb 105) 77 = .ok (.iload_n 2, 1) := by decide +kernel
theorem dk_105_78 : decode (tb_mb 105) 78 = .ok (.aload_n 0, 1) := by decide +kernel
theorem dk_105_79 : decode (tb_mb 105) 79 = .ok (.getfield 102, 3) := by decide +kernel
theorem f_105_79 : ∃ b, tb_fr (tb_oc 105) 102 = some (9, 21, b) := ⟨_, rfl⟩
theorem dk_105_82 : decode (tb_mb 105) 82 = .ok (.if_icmp .ge (131), 3) := by decide +kernel
theorem dk_105_213 : decode (tb_mb 105) 213 = .ok (.return_, 1) := by decide +kernel
theorem dk_105_85 : decode (tb_mb 105) 85 = .ok (.aload_n 0, 1) := by decide +kernel
theorem dk_105_86 : decode (tb_mb 105) 86 = .ok (.getfield 7, 3) := by decide +kernel
theorem f_105_86 : ∃ b, tb_fr (tb_oc 105) 7 = some (9, 2, b) := ⟨_, rfl⟩
theorem dk_105_89 : decode (tb_mb 105) 89 = .ok (.iload_n 2, 1) := by decide +kernel
theorem dk_105_90 : decode (tb_mb 105) 90 = .ok (.caload, 1) := by decide +kernel
theorem dk_105_91 : decode (tb_mb 105) 91 = .ok (.istore_n 3, 1) := by decide +kernel
theorem dk_105_92 : decode (tb_mb 105) 92 = .ok (.iload_n 3, 1) := by decide +kernel
theorem dk_105_93 : decode (tb_mb 105) 93 = .ok (.invokestatic 98, 3) := by decide +kernel
theorem ck_105_93 : ∃ b, tb_cr (tb_oc 105) 98 = some (1, 104, b, 1) := ⟨_, rfl⟩
theorem dk_105_96 : decode (tb_mb 105) 96 = .ok (.ifCond .eq (10), 3) := by decide +kernel
theorem dk_105_106 : decode (tb_mb 105) 106 = .ok (.iload_n 1, 1) := by decide +kernel
theorem dk_105_107 : decode (tb_mb 105) 107 = .ok (.ifCond .eq (25), 3) := by decide +kernel
theorem dk_105_132 : decode (tb_mb 105) 132 = .ok (.bipush (99), 2) := by decide +kernel
theorem dk_105_134 : decode (tb_mb 105) 134 = .ok (.istore 4, 2) := by decide +kernel
theorem dk_105_136 : decode (tb_mb 105) 136 = .ok (.aload_n 0, 1) := by decide +kernel
theorem dk_105_137 : decode (tb_mb 105) 137 = .ok (.aload_n 0, 1) := by decide +kernel
theorem dk_105_138 : decode (tb_mb 105) 138 = .ok (.getfield 124, 3) := by decide +kernel
theorem f_105_138 : ∃ b, tb_fr (tb_oc 105) 124 = some (9, 27, b) := ⟨_, rfl⟩
theorem dk_105_141 : decode (tb_mb 105) 141 = .ok (.iload_n 1, 1) := by decide +kernel
theorem dk_105_142 : decode (tb_mb 105) 142 = .ok (.ifCond .eq (9), 3) := by decide +kernel
theorem dk_105_151 : decode (tb_mb 105) 151 = .ok (.ldc2_w 130, 3) := by decide +kernel
theorem kl_105_151 : tb_kl (tb_oc 105) 130 = some (10) := by decide +kernel
theorem dk_105_154 : decode (tb_mb 105) 154 = .ok (.lmul, 1) := by decide +kernel
theorem dk_105_155 : decode (tb_mb 105) 155 = .ok (.iload 4, 2) := by decide +kernel
theorem dk_105_157 : decode (tb_mb 105) 157 = .ok (.i2l, 1) := by decide +kernel
theorem dk_105_158 : decode (tb_mb 105) 158 = .ok (.ladd, 1) := by decide +kernel
theorem dk_105_159 : decode (tb_mb 105) 159 = .ok (.putfield 124, 3) := by decide +kernel
theorem f_105_159 : ∃ b, tb_fr (tb_oc 105) 124 = some (9, 27, b) ∧ xm_fin tb_cl (tb_ini 105) b 9 27 = true := ⟨_, rfl, rfl⟩
theorem dk_105_162 : decode (tb_mb 105) 162 = .ok (.iload 4, 2) := by decide +kernel
theorem dk_105_164 : decode (tb_mb 105) 164 = .ok (.bipush (99), 2) := by decide +kernel
theorem dk_105_166 : decode (tb_mb 105) 166 = .ok (.if_icmp .eq (14), 3) := by decide +kernel
theorem dk_105_180 : decode (tb_mb 105) 180 = .ok (.aload_n 0, 1) := by decide +kernel
theorem dk_105_181 : decode (tb_mb 105) 181 = .ok (.bipush (34), 2) := by decide +kernel
theorem dk_105_183 : decode (tb_mb 105) 183 = .ok (.putfield 121, 3) := by decide +kernel
theorem f_105_183 : ∃ b, tb_fr (tb_oc 105) 121 = some (9, 22, b) ∧ xm_fin tb_cl (tb_ini 105) b 9 22 = true := ⟨_, rfl, rfl⟩
theorem dk_105_186 : decode (tb_mb 105) 186 = .ok (.aload_n 0, 1) := by decide +kernel
theorem dk_105_187 : decode (tb_mb 105) 187 = .ok (.aload_n 0, 1) := by decide +kernel
theorem dk_105_188 : decode (tb_mb 105) 188 = .ok (.getfield 121, 3) := by decide +kernel
theorem f_105_188 : ∃ b, tb_fr (tb_oc 105) 121 = some (9, 22, b) := ⟨_, rfl⟩
theorem dk_105_191 : decode (tb_mb 105) 191 = .ok (.bipush (34), 2) := by decide +kernel
theorem dk_105_193 : decode (tb_mb 105) 193 = .ok (.if_icmp .ne (7), 3) := by decide +kernel
theorem dk_105_200 : decode (tb_mb 105) 200 = .ok (.aload_n 0, 1) := by decide +kernel
theorem dk_105_201 : decode (tb_mb 105) 201 = .ok (.getfield 124, 3) := by decide +kernel
theorem f_105_201 : ∃ b, tb_fr (tb_oc 105) 124 = some (9, 27, b) := ⟨_, rfl⟩
theorem dk_105_204 : decode (tb_mb 105) 204 = .ok (.putfield 124, 3) := by decide +kernel
theorem f_105_204 : ∃ b, tb_fr (tb_oc 105) 124 = some (9, 27, b) ∧ xm_fin tb_cl (tb_ini 105) b 9 27 = true := ⟨_, rfl, rfl⟩
theorem dk_105_207 : decode (tb_mb 105) 207 = .ok (.iinc 2 (1), 3) := by decide +kernel
theorem dk_105_210 : decode (tb_mb 105) 210 = .ok (.goto (-133), 3) := by decide +kernel
theorem dk_105_196 : decode (tb_mb 105) 196 = .ok (.lconst 0, 1) := by decide +kernel
theorem dk_105_197 : decode (tb_mb 105) 197 = .ok (.goto (7), 3) := by decide +kernel
theorem dk_105_169 : decode (tb_mb 105) 169 = .ok (.aload_n 0, 1) := by decide +kernel
theorem dk_105_170 : decode (tb_mb 105) 170 = .ok (.getfield 124, 3) := by decide +kernel
theorem f_105_170 : ∃ b, tb_fr (tb_oc 105) 124 = some (9, 27, b) := ⟨_, rfl⟩
theorem dk_105_173 : decode (tb_mb 105) 173 = .ok (.ldc2_w 132, 3) := by decide +kernel
theorem kl_105_173 : tb_kl (tb_oc 105) 132 = some (4294967296) := by decide +kernel
theorem dk_105_176 : decode (tb_mb 105) 176 = .ok (.lcmp, 1) := by decide +kernel
theorem dk_105_177 : decode (tb_mb 105) 177 = .ok (.ifCond .lt (9), 3) := by decide +kernel
theorem dk_105_145 : decode (tb_mb 105) 145 = .ok (.ldc2_w 128, 3) := by decide +kernel
theorem kl_105_145 : tb_kl (tb_oc 105) 128 = some (16) := by decide +kernel
theorem dk_105_148 : decode (tb_mb 105) 148 = .ok (.goto (6), 3) := by decide +kernel
theorem dk_105_110 : decode (tb_mb 105) 110 = .ok (.iload_n 3, 1) := by decide +kernel
theorem dk_105_111 : decode (tb_mb 105) 111 = .ok (.bipush (97), 2) := by decide +kernel
theorem dk_105_113 : decode (tb_mb 105) 113 = .ok (.if_icmp .lt (19), 3) := by decide +kernel
theorem dk_105_116 : decode (tb_mb 105) 116 = .ok (.iload_n 3, 1) := by decide +kernel
theorem dk_105_117 : decode (tb_mb 105) 117 = .ok (.bipush (102), 2) := by decide +kernel
theorem dk_105_119 : decode (tb_mb 105) 119 = .ok (.if_icmp .gt (13), 3) := by decide +kernel
theorem dk_105_122 : decode (tb_mb 105) 122 = .ok (.iload_n 3, 1) := by decide +kernel
theorem dk_105_123 : decode (tb_mb 105) 123 = .ok (.bipush (97), 2) := by decide +kernel
theorem dk_105_125 : decode (tb_mb 105) 125 = .ok (.isub, 1) := by decide +kernel
theorem dk_105_126 : decode (tb_mb 105) 126 = .ok (.bipush (10), 2) := by decide +kernel
theorem dk_105_128 : decode (tb_mb 105) 128 = .ok (.iadd, 1) := by decide +kernel
theorem dk_105_129 : decode (tb_mb 105) 129 = .ok (.goto (5), 3) := by decide +kernel
theorem dk_105_99 : decode (tb_mb 105) 99 = .ok (.iload_n 3, 1) := by decide +kernel
theorem dk_105_100 : decode (tb_mb 105) 100 = .ok (.bipush (48), 2) := by decide +kernel
theorem dk_105_102 : decode (tb_mb 105) 102 = .ok (.isub, 1) := by decide +kernel
theorem dk_105_103 : decode (tb_mb 105) 103 = .ok (.goto (31), 3) := by decide +kernel
theorem dk_105_63 : decode (tb_mb 105) 63 = .ok (.aload_n 0, 1) := by decide +kernel
theorem dk_105_64 : decode (tb_mb 105) 64 = .ok (.getfield 109, 3) := by decide +kernel
theorem f_105_64 : ∃ b, tb_fr (tb_oc 105) 109 = some (9, 23, b) := ⟨_, rfl⟩
theorem dk_105_67 : decode (tb_mb 105) 67 = .ok (.iconst (2), 1) := by decide +kernel
theorem dk_105_68 : decode (tb_mb 105) 68 = .ok (.iadd, 1) := by decide +kernel
theorem dk_105_69 : decode (tb_mb 105) 69 = .ok (.goto (7), 3) := by decide +kernel
theorem dk_105_13 : decode (tb_mb 105) 13 = .ok (.aload_n 0, 1) := by decide +kernel
theorem dk_105_14 : decode (tb_mb 105) 14 = .ok (.getfield 7, 3) := by decide +kernel
theorem f_105_14 : ∃ b, tb_fr (tb_oc 105) 7 = some (9, 2, b) := ⟨_, rfl⟩
theorem dk_105_17 : decode (tb_mb 105) 17 = .ok (.aload_n 0, 1) := by decide +kernel
theorem dk_105_18 : decode (tb_mb 105) 18 = .ok (.getfield 109, 3) := by decide +kernel
theorem f_105_18 : ∃ b, tb_fr (tb_oc 105) 109 = some (9, 23, b) := ⟨_, rfl⟩
theorem dk_105_21 : decode (tb_mb 105) 21 = .ok (.caload, 1) := by decide +kernel
theorem dk_105_22 : decode (tb_mb 105) 22 = .ok (.bipush (48), 2) := by decide +kernel
theorem dk_105_24 : decode (tb_mb 105) 24 = .ok (.if_icmp .ne (23), 3) := by decide +kernel
theorem dk_105_27 : decode (tb_mb 105) 27 = .ok (.aload_n 0, 1) := by decide +kernel
theorem dk_105_28 : decode (tb_mb 105) 28 = .ok (.getfield 7, 3) := by decide +kernel
theorem f_105_28 : ∃ b, tb_fr (tb_oc 105) 7 = some (9, 2, b) := ⟨_, rfl⟩
theorem dk_105_31 : decode (tb_mb 105) 31 = .ok (.aload_n 0, 1) := by decide +kernel
theorem dk_105_32 : decode (tb_mb 105) 32 = .ok (.getfield 109, 3) := by decide +kernel
theorem f_105_32 : ∃ b, tb_fr (tb_oc 105) 109 = some (9, 23, b) := ⟨_, rfl⟩
theorem dk_105_35 : decode (tb_mb 105) 35 = .ok (.iconst (1), 1) := by decide +kernel
theorem dk_105_36 : decode (tb_mb 105) 36 = .ok (.iadd, 1) := by decide +kernel
theorem dk_105_37 : decode (tb_mb 105) 37 = .ok (.caload, 1) := by decide +kernel
theorem dk_105_38 : decode (tb_mb 105) 38 = .ok (.bipush (120), 2) := by decide +kernel
theorem dk_105_40 : decode (tb_mb 105) 40 = .ok (.if_icmp .ne (7), 3) := by decide +kernel
theorem dk_105_43 : decode (tb_mb 105) 43 = .ok (.iconst (1), 1) := by decide +kernel
theorem dk_105_44 : decode (tb_mb 105) 44 = .ok (.goto (4), 3) := by decide +kernel
def b_105_204 (h77 : Int32 → Int32 → dI → dJ → Option (dI × dJ)) (x1 : Int32) (x2 : Int32) (s0 : Int64) (I : dI) (J : dJ) : Option (dI × dJ) := lt_ (sJ J 92 27 s0) (fun J16 => h77 x1 (x2 + 1) I J16)
theorem p_105_204 {Q : Nat → Option Nat} {D : Nat} (hD : 2 ≤ D) {h77 : Int32 → Int32 → dI → dJ → Option (dI × dJ)} (H77 : ∀ (x1 : Int32) (x2 : Int32) (I : dI) (J : dJ) (R : (dI × dJ)), h77 x1 x2 I J = some R → Rn Q D 105 77 [(0, .ref 92), (1, .int x1), (2, .int x2)] [] I J (none) R.1 R.2) (x1 : Int32) (x2 : Int32) (s0 : Int64) (I : dI) (J : dJ) (R : (dI × dJ)) (h : b_105_204 h77 x1 x2 s0 I J = some R) : Rn Q D 105 204 [(0, .ref 92), (1, .int x1), (2, .int x2)] [.long s0, .ref 92] I J (none) R.1 R.2 := by
  replace h : (lt_ (sJ J 92 27 s0) (fun J16 => h77 x1 (x2 + 1) I J16)) = some R := h
  obtain ⟨J16, eJ16, h⟩ := letS h
  refine Rn.pJ dk_105_204 f_105_204.choose_spec.1 sk_92 rfl f_105_204.choose_spec.2 rfl rfl ?_
  rw [← eJ16]
  refine Rn.inc (ls' := [(2, .int (x2 + 1)), (0, .ref 92), (1, .int x1)]) dk_105_207 L_105 (by decide) cic_1 rfl rfl ?_
  refine Rn.gt (t := 77) dk_105_210 rfl ?_
  exact Rn.wk [1, 2, 0] rfl (H77 _ _ _ _ _ h)
def b_105_186 (h77 : Int32 → Int32 → dI → dJ → Option (dI × dJ)) (x1 : Int32) (x2 : Int32) (I : dI) (J : dJ) : Option (dI × dJ) := if ¬ (I 92 22) = 34 then (b_105_204 h77 x1 x2 (J 92 27) I J) else (b_105_204 h77 x1 x2 0 I J)
theorem p_105_186 {Q : Nat → Option Nat} {D : Nat} (hD : 2 ≤ D) {h77 : Int32 → Int32 → dI → dJ → Option (dI × dJ)} (H77 : ∀ (x1 : Int32) (x2 : Int32) (I : dI) (J : dJ) (R : (dI × dJ)), h77 x1 x2 I J = some R → Rn Q D 105 77 [(0, .ref 92), (1, .int x1), (2, .int x2)] [] I J (none) R.1 R.2) (x1 : Int32) (x2 : Int32) (I : dI) (J : dJ) (R : (dI × dJ)) (h : b_105_186 h77 x1 x2 I J = some R) : Rn Q D 105 186 [(0, .ref 92), (1, .int x1), (2, .int x2)] [] I J (none) R.1 R.2 := by
  replace h : (if ¬ (I 92 22) = 34 then (b_105_204 h77 x1 x2 (J 92 27) I J) else (b_105_204 h77 x1 x2 0 I J)) = some R := h
  refine Rn.pu (st' := [.ref 92]) dk_105_186 L_105 rfl ?_
  refine Rn.pu (st' := [.ref 92, .ref 92]) dk_105_187 L_105 rfl ?_
  refine Rn.gI dk_105_188 f_105_188.choose_spec sk_92 rfl ?_
  refine Rn.bp dk_105_191 cbp_34 ?_
  by_cases c15 : ¬ (I 92 22) = 34
  · rw [if_pos c15] at h
    refine Rn.i2t (t := 200) dk_105_193 rfl (decide_eq_true c15) ?_
    refine Rn.pu (st' := [.ref 92, .ref 92]) dk_105_200 L_105 rfl ?_
    refine Rn.gJ dk_105_201 f_105_201.choose_spec sk_92 rfl ?_
    exact Rn.wk [0, 1, 2] rfl (p_105_204 hD H77 _ _ _ _ _ _ h)
  · rw [if_neg c15] at h
    refine Rn.i2f (t := 200) dk_105_193 rfl (decide_eq_false c15) ?_
    refine Rn.lc dk_105_196 clc_0 ?_
    refine Rn.gt (t := 204) dk_105_197 rfl ?_
    exact Rn.wk [0, 1, 2] rfl (p_105_204 hD H77 _ _ _ _ _ _ h)
def b_105_180 (h77 : Int32 → Int32 → dI → dJ → Option (dI × dJ)) (x1 : Int32) (x2 : Int32) (I : dI) (J : dJ) : Option (dI × dJ) := lt_ (sI I 92 22 34) (fun I14 => b_105_186 h77 x1 x2 I14 J)
theorem p_105_180 {Q : Nat → Option Nat} {D : Nat} (hD : 2 ≤ D) {h77 : Int32 → Int32 → dI → dJ → Option (dI × dJ)} (H77 : ∀ (x1 : Int32) (x2 : Int32) (I : dI) (J : dJ) (R : (dI × dJ)), h77 x1 x2 I J = some R → Rn Q D 105 77 [(0, .ref 92), (1, .int x1), (2, .int x2)] [] I J (none) R.1 R.2) (x1 : Int32) (x2 : Int32) (I : dI) (J : dJ) (R : (dI × dJ)) (h : b_105_180 h77 x1 x2 I J = some R) : Rn Q D 105 180 [(0, .ref 92), (1, .int x1), (2, .int x2)] [] I J (none) R.1 R.2 := by
  replace h : (lt_ (sI I 92 22 34) (fun I14 => b_105_186 h77 x1 x2 I14 J)) = some R := h
  refine Rn.pu (st' := [.ref 92]) dk_105_180 L_105 rfl ?_
  refine Rn.bp dk_105_181 cbp_34 ?_
  obtain ⟨I14, eI14, h⟩ := letS h
  refine Rn.pI dk_105_183 f_105_183.choose_spec.1 sk_92 rfl f_105_183.choose_spec.2 rfl rfl ?_
  rw [← eI14]
  exact Rn.wk [0, 1, 2] rfl (p_105_186 hD H77 _ _ _ _ _ h)
def b_105_154 (h77 : Int32 → Int32 → dI → dJ → Option (dI × dJ)) (x1 : Int32) (x2 : Int32) (x4 : Int32) (s0 : Int64) (s1 : Int64) (I : dI) (J : dJ) : Option (dI × dJ) := lt_ (sJ J 92 27 ((s1 * s0) + (Int32.toInt64 x4))) (fun J12 => if x4 = 99 then (b_105_180 h77 x1 x2 I J12) else (if (lg_cmp (J12 92 27) 4294967296) < 0 then (b_105_186 h77 x1 x2 I J12) else (b_105_180 h77 x1 x2 I J12)))
theorem p_105_154 {Q : Nat → Option Nat} {D : Nat} (hD : 2 ≤ D) {h77 : Int32 → Int32 → dI → dJ → Option (dI × dJ)} (H77 : ∀ (x1 : Int32) (x2 : Int32) (I : dI) (J : dJ) (R : (dI × dJ)), h77 x1 x2 I J = some R → Rn Q D 105 77 [(0, .ref 92), (1, .int x1), (2, .int x2)] [] I J (none) R.1 R.2) (x1 : Int32) (x2 : Int32) (x4 : Int32) (s0 : Int64) (s1 : Int64) (I : dI) (J : dJ) (R : (dI × dJ)) (h : b_105_154 h77 x1 x2 x4 s0 s1 I J = some R) : Rn Q D 105 154 [(0, .ref 92), (1, .int x1), (2, .int x2), (4, .int x4)] [.long s0, .long s1, .ref 92] I J (none) R.1 R.2 := by
  replace h : (lt_ (sJ J 92 27 ((s1 * s0) + (Int32.toInt64 x4))) (fun J12 => if x4 = 99 then (b_105_180 h77 x1 x2 I J12) else (if (lg_cmp (J12 92 27) 4294967296) < 0 then (b_105_186 h77 x1 x2 I J12) else (b_105_180 h77 x1 x2 I J12)))) = some R := h
  refine Rn.pu (st' := [.long (s1 * s0), .ref 92]) dk_105_154 L_105 rfl ?_
  refine Rn.pu (st' := [.int x4, .long (s1 * s0), .ref 92]) dk_105_155 L_105 rfl ?_
  refine Rn.pu (st' := [.long (Int32.toInt64 x4), .long (s1 * s0), .ref 92]) dk_105_157 L_105 rfl ?_
  refine Rn.pu (st' := [.long ((s1 * s0) + (Int32.toInt64 x4)), .ref 92]) dk_105_158 L_105 rfl ?_
  obtain ⟨J12, eJ12, h⟩ := letS h
  refine Rn.pJ dk_105_159 f_105_159.choose_spec.1 sk_92 rfl f_105_159.choose_spec.2 rfl rfl ?_
  rw [← eJ12]
  refine Rn.pu (st' := [.int x4]) dk_105_162 L_105 rfl ?_
  refine Rn.bp dk_105_164 cbp_99 ?_
  by_cases c13 : x4 = 99
  · rw [if_pos c13] at h
    refine Rn.i2t (t := 180) dk_105_166 rfl (decide_eq_true c13) ?_
    exact Rn.wk [0, 1, 2] rfl (p_105_180 hD H77 _ _ _ _ _ h)
  · rw [if_neg c13] at h
    refine Rn.i2f (t := 180) dk_105_166 rfl (decide_eq_false c13) ?_
    refine Rn.pu (st' := [.ref 92]) dk_105_169 L_105 rfl ?_
    refine Rn.gJ dk_105_170 f_105_170.choose_spec sk_92 rfl ?_
    refine Rn.ldl dk_105_173 kl_105_173 ?_
    refine Rn.pu (st' := [.int (lg_cmp (J12 92 27) 4294967296)]) dk_105_176 L_105 rfl ?_
    by_cases c14 : (lg_cmp (J12 92 27) 4294967296) < 0
    · rw [if_pos c14] at h
      refine Rn.i1t (t := 186) dk_105_177 rfl (decide_eq_true c14) ?_
      exact Rn.wk [0, 1, 2] rfl (p_105_186 hD H77 _ _ _ _ _ h)
    · rw [if_neg c14] at h
      refine Rn.i1f (t := 186) dk_105_177 rfl (decide_eq_false c14) ?_
      exact Rn.wk [0, 1, 2] rfl (p_105_180 hD H77 _ _ _ _ _ h)
def b_105_134 (h77 : Int32 → Int32 → dI → dJ → Option (dI × dJ)) (x1 : Int32) (x2 : Int32) (s0 : Int32) (I : dI) (J : dJ) : Option (dI × dJ) := if x1 = 0 then (b_105_154 h77 x1 x2 s0 10 (J 92 27) I J) else (b_105_154 h77 x1 x2 s0 16 (J 92 27) I J)
theorem p_105_134 {Q : Nat → Option Nat} {D : Nat} (hD : 2 ≤ D) {h77 : Int32 → Int32 → dI → dJ → Option (dI × dJ)} (H77 : ∀ (x1 : Int32) (x2 : Int32) (I : dI) (J : dJ) (R : (dI × dJ)), h77 x1 x2 I J = some R → Rn Q D 105 77 [(0, .ref 92), (1, .int x1), (2, .int x2)] [] I J (none) R.1 R.2) (x1 : Int32) (x2 : Int32) (s0 : Int32) (I : dI) (J : dJ) (R : (dI × dJ)) (h : b_105_134 h77 x1 x2 s0 I J = some R) : Rn Q D 105 134 [(0, .ref 92), (1, .int x1), (2, .int x2)] [.int s0] I J (none) R.1 R.2 := by
  replace h : (if x1 = 0 then (b_105_154 h77 x1 x2 s0 10 (J 92 27) I J) else (b_105_154 h77 x1 x2 s0 16 (J 92 27) I J)) = some R := h
  refine Rn.pu (ls' := [(4, .int s0), (0, .ref 92), (1, .int x1), (2, .int x2)]) (st' := []) dk_105_134 L_105 rfl ?_
  refine Rn.pu (st' := [.ref 92]) dk_105_136 L_105 rfl ?_
  refine Rn.pu (st' := [.ref 92, .ref 92]) dk_105_137 L_105 rfl ?_
  refine Rn.gJ dk_105_138 f_105_138.choose_spec sk_92 rfl ?_
  refine Rn.pu (st' := [.int x1, .long (J 92 27), .ref 92]) dk_105_141 L_105 rfl ?_
  by_cases c11 : x1 = 0
  · rw [if_pos c11] at h
    refine Rn.i1t (t := 151) dk_105_142 rfl (decide_eq_true c11) ?_
    refine Rn.ldl dk_105_151 kl_105_151 ?_
    exact Rn.wk [1, 2, 3, 0] rfl (p_105_154 hD H77 _ _ _ _ _ _ _ _ h)
  · rw [if_neg c11] at h
    refine Rn.i1f (t := 151) dk_105_142 rfl (decide_eq_false c11) ?_
    refine Rn.ldl dk_105_145 kl_105_145 ?_
    refine Rn.gt (t := 154) dk_105_148 rfl ?_
    exact Rn.wk [1, 2, 3, 0] rfl (p_105_154 hD H77 _ _ _ _ _ _ _ _ h)
def b_105_132 (h77 : Int32 → Int32 → dI → dJ → Option (dI × dJ)) (x1 : Int32) (x2 : Int32) (I : dI) (J : dJ) : Option (dI × dJ) := b_105_134 h77 x1 x2 99 I J
theorem p_105_132 {Q : Nat → Option Nat} {D : Nat} (hD : 2 ≤ D) {h77 : Int32 → Int32 → dI → dJ → Option (dI × dJ)} (H77 : ∀ (x1 : Int32) (x2 : Int32) (I : dI) (J : dJ) (R : (dI × dJ)), h77 x1 x2 I J = some R → Rn Q D 105 77 [(0, .ref 92), (1, .int x1), (2, .int x2)] [] I J (none) R.1 R.2) (x1 : Int32) (x2 : Int32) (I : dI) (J : dJ) (R : (dI × dJ)) (h : b_105_132 h77 x1 x2 I J = some R) : Rn Q D 105 132 [(0, .ref 92), (1, .int x1), (2, .int x2)] [] I J (none) R.1 R.2 := by
  replace h : (b_105_134 h77 x1 x2 99 I J) = some R := h
  refine Rn.bp dk_105_132 cbp_99 ?_
  exact Rn.wk [0, 1, 2] rfl (p_105_134 hD H77 _ _ _ _ _ _ h)
def b_105_77 : Nat → Int32 → Int32 → dI → dJ → Option (dI × dJ)
  | 0, _, _, _, _ => none
  | n + 1, x1, x2, I, J => if (I 92 21) ≤ x2 then (some (I, J)) else (if ¬ (x2 < 0 ∨ 120 ≤ Int32.toNatClampNeg x2) then ((m_104 (I 93 (Int32.toNatClampNeg x2)) I J).bind (fun r7 => if r7 = 0 then (if x1 = 0 then (b_105_132 (b_105_77 n) x1 x2 I J) else (if (I 93 (Int32.toNatClampNeg x2)) < 97 then (b_105_132 (b_105_77 n) x1 x2 I J) else (if 102 < (I 93 (Int32.toNatClampNeg x2)) then (b_105_132 (b_105_77 n) x1 x2 I J) else (b_105_134 (b_105_77 n) x1 x2 (((I 93 (Int32.toNatClampNeg x2)) - 97) + 10) I J)))) else (b_105_134 (b_105_77 n) x1 x2 ((I 93 (Int32.toNatClampNeg x2)) - 48) I J))) else none)
theorem p_105_77 {Q : Nat → Option Nat} {D : Nat} (hD : 2 ≤ D) : ∀ (n : Nat) (x1 : Int32) (x2 : Int32) (I : dI) (J : dJ) (R : (dI × dJ)), b_105_77 n x1 x2 I J = some R → Rn Q D 105 77 [(0, .ref 92), (1, .int x1), (2, .int x2)] [] I J (none) R.1 R.2 := by
  intro n
  induction n with
  | zero => intro x1 x2 I J R h; exact absurd h (by simp [b_105_77])
  | succ n ih =>
    intro x1 x2 I J R h
    replace h : (if (I 92 21) ≤ x2 then (some (I, J)) else (if ¬ (x2 < 0 ∨ 120 ≤ Int32.toNatClampNeg x2) then ((m_104 (I 93 (Int32.toNatClampNeg x2)) I J).bind (fun r7 => if r7 = 0 then (if x1 = 0 then (b_105_132 (b_105_77 n) x1 x2 I J) else (if (I 93 (Int32.toNatClampNeg x2)) < 97 then (b_105_132 (b_105_77 n) x1 x2 I J) else (if 102 < (I 93 (Int32.toNatClampNeg x2)) then (b_105_132 (b_105_77 n) x1 x2 I J) else (b_105_134 (b_105_77 n) x1 x2 (((I 93 (Int32.toNatClampNeg x2)) - 97) + 10) I J)))) else (b_105_134 (b_105_77 n) x1 x2 ((I 93 (Int32.toNatClampNeg x2)) - 48) I J))) else none)) = some R := h
    refine Rn.pu (st' := [.int x2]) dk_105_77 L_105 rfl ?_
    refine Rn.pu (st' := [.ref 92, .int x2]) dk_105_78 L_105 rfl ?_
    refine Rn.gI dk_105_79 f_105_79.choose_spec sk_92 rfl ?_
    by_cases c5 : (I 92 21) ≤ x2
    · rw [if_pos c5] at h
      refine Rn.i2t (t := 213) dk_105_82 rfl (decide_eq_true c5) ?_
      cases h
      exact Rn.rv dk_105_213 R_105
    · rw [if_neg c5] at h
      refine Rn.i2f (t := 213) dk_105_82 rfl (decide_eq_false c5) ?_
      refine Rn.pu (st' := [.ref 92]) dk_105_85 L_105 rfl ?_
      refine Rn.gR (r := 93) dk_105_86 f_105_86.choose_spec sk_92 rfl ?_
      refine Rn.pu (st' := [.int x2, .ref 93]) dk_105_89 L_105 rfl ?_
      obtain ⟨c6, h⟩ := xm_if h
      refine Rn.cald dk_105_90 sk_93 c6 ?_
      refine Rn.pu (ls' := [(3, .int (I 93 (Int32.toNatClampNeg x2))), (0, .ref 92), (1, .int x1), (2, .int x2)]) (st' := []) dk_105_91 L_105 rfl ?_
      refine Rn.pu (st' := [.int (I 93 (Int32.toNatClampNeg x2))]) dk_105_92 L_105 rfl ?_
      obtain ⟨r7, e8, h⟩ := bindS h
      refine Rn.csI (As := [.int (I 93 (Int32.toNatClampNeg x2))]) (rest := []) dk_105_93 ck_105_93.choose_spec rfl (x_104 (Nat.le_trans (Nat.le_of_ble_eq_true rfl) hD) e8) ?_
      by_cases c9 : r7 = 0
      · rw [if_pos c9] at h
        refine Rn.i1t (t := 106) dk_105_96 rfl (decide_eq_true c9) ?_
        refine Rn.pu (st' := [.int x1]) dk_105_106 L_105 rfl ?_
        by_cases c10 : x1 = 0
        · rw [if_pos c10] at h
          refine Rn.i1t (t := 132) dk_105_107 rfl (decide_eq_true c10) ?_
          exact Rn.wk [1, 2, 3] rfl (p_105_132 hD ih _ _ _ _ _ h)
        · rw [if_neg c10] at h
          refine Rn.i1f (t := 132) dk_105_107 rfl (decide_eq_false c10) ?_
          refine Rn.pu (st' := [.int (I 93 (Int32.toNatClampNeg x2))]) dk_105_110 L_105 rfl ?_
          refine Rn.bp dk_105_111 cbp_97 ?_
          by_cases c11 : (I 93 (Int32.toNatClampNeg x2)) < 97
          · rw [if_pos c11] at h
            refine Rn.i2t (t := 132) dk_105_113 rfl (decide_eq_true c11) ?_
            exact Rn.wk [1, 2, 3] rfl (p_105_132 hD ih _ _ _ _ _ h)
          · rw [if_neg c11] at h
            refine Rn.i2f (t := 132) dk_105_113 rfl (decide_eq_false c11) ?_
            refine Rn.pu (st' := [.int (I 93 (Int32.toNatClampNeg x2))]) dk_105_116 L_105 rfl ?_
            refine Rn.bp dk_105_117 cbp_102 ?_
            by_cases c12 : 102 < (I 93 (Int32.toNatClampNeg x2))
            · rw [if_pos c12] at h
              refine Rn.i2t (t := 132) dk_105_119 rfl (decide_eq_true c12) ?_
              exact Rn.wk [1, 2, 3] rfl (p_105_132 hD ih _ _ _ _ _ h)
            · rw [if_neg c12] at h
              refine Rn.i2f (t := 132) dk_105_119 rfl (decide_eq_false c12) ?_
              refine Rn.pu (st' := [.int (I 93 (Int32.toNatClampNeg x2))]) dk_105_122 L_105 rfl ?_
              refine Rn.bp dk_105_123 cbp_97 ?_
              refine Rn.pu (st' := [.int ((I 93 (Int32.toNatClampNeg x2)) - 97)]) dk_105_125 L_105 rfl ?_
              refine Rn.bp dk_105_126 cbp_10 ?_
              refine Rn.pu (st' := [.int (((I 93 (Int32.toNatClampNeg x2)) - 97) + 10)]) dk_105_128 L_105 rfl ?_
              refine Rn.gt (t := 134) dk_105_129 rfl ?_
              exact Rn.wk [1, 2, 3] rfl (p_105_134 hD ih _ _ _ _ _ _ h)
      · rw [if_neg c9] at h
        refine Rn.i1f (t := 106) dk_105_96 rfl (decide_eq_false c9) ?_
        refine Rn.pu (st' := [.int (I 93 (Int32.toNatClampNeg x2))]) dk_105_99 L_105 rfl ?_
        refine Rn.bp dk_105_100 cbp_48 ?_
        refine Rn.pu (st' := [.int ((I 93 (Int32.toNatClampNeg x2)) - 48)]) dk_105_102 L_105 rfl ?_
        refine Rn.gt (t := 134) dk_105_103 rfl ?_
        exact Rn.wk [1, 2, 3] rfl (p_105_134 hD ih _ _ _ _ _ _ h)
def b_105_76 (x1 : Int32) (s0 : Int32) (I : dI) (J : dJ) : Option (dI × dJ) := b_105_77 FU x1 s0 I J
theorem p_105_76 {Q : Nat → Option Nat} {D : Nat} (hD : 2 ≤ D) (x1 : Int32) (s0 : Int32) (I : dI) (J : dJ) (R : (dI × dJ)) (h : b_105_76 x1 s0 I J = some R) : Rn Q D 105 76 [(0, .ref 92), (1, .int x1)] [.int s0] I J (none) R.1 R.2 := by
  replace h : (b_105_77 FU x1 s0 I J) = some R := h
  refine Rn.pu (ls' := [(2, .int s0), (0, .ref 92), (1, .int x1)]) (st' := []) dk_105_76 L_105 rfl ?_
  exact Rn.wk [1, 2, 0] rfl (p_105_77 hD FU _ _ _ _ _ h)
def b_105_48 (s0 : Int32) (I : dI) (J : dJ) : Option (dI × dJ) := lt_ (sI I 92 22 1) (fun I2 => lt_ (sJ J 92 27 0) (fun J3 => if s0 = 0 then (b_105_76 s0 (I2 92 23) I2 J3) else (b_105_76 s0 ((I2 92 23) + 2) I2 J3)))
theorem p_105_48 {Q : Nat → Option Nat} {D : Nat} (hD : 2 ≤ D) (s0 : Int32) (I : dI) (J : dJ) (R : (dI × dJ)) (h : b_105_48 s0 I J = some R) : Rn Q D 105 48 [(0, .ref 92)] [.int s0] I J (none) R.1 R.2 := by
  replace h : (lt_ (sI I 92 22 1) (fun I2 => lt_ (sJ J 92 27 0) (fun J3 => if s0 = 0 then (b_105_76 s0 (I2 92 23) I2 J3) else (b_105_76 s0 ((I2 92 23) + 2) I2 J3)))) = some R := h
  refine Rn.pu (ls' := [(1, .int s0), (0, .ref 92)]) (st' := []) dk_105_48 L_105 rfl ?_
  refine Rn.pu (st' := [.ref 92]) dk_105_49 L_105 rfl ?_
  refine Rn.ic dk_105_50 cic_1 ?_
  obtain ⟨I2, eI2, h⟩ := letS h
  refine Rn.pI dk_105_51 f_105_51.choose_spec.1 sk_92 rfl f_105_51.choose_spec.2 rfl rfl ?_
  rw [← eI2]
  refine Rn.pu (st' := [.ref 92]) dk_105_54 L_105 rfl ?_
  refine Rn.lc dk_105_55 clc_0 ?_
  obtain ⟨J3, eJ3, h⟩ := letS h
  refine Rn.pJ dk_105_56 f_105_56.choose_spec.1 sk_92 rfl f_105_56.choose_spec.2 rfl rfl ?_
  rw [← eJ3]
  refine Rn.pu (st' := [.int s0]) dk_105_59 L_105 rfl ?_
  by_cases c4 : s0 = 0
  · rw [if_pos c4] at h
    refine Rn.i1t (t := 72) dk_105_60 rfl (decide_eq_true c4) ?_
    refine Rn.pu (st' := [.ref 92]) dk_105_72 L_105 rfl ?_
    refine Rn.gI dk_105_73 f_105_73.choose_spec sk_92 rfl ?_
    exact Rn.wk [1, 0] rfl (p_105_76 hD _ _ _ _ _ h)
  · rw [if_neg c4] at h
    refine Rn.i1f (t := 72) dk_105_60 rfl (decide_eq_false c4) ?_
    refine Rn.pu (st' := [.ref 92]) dk_105_63 L_105 rfl ?_
    refine Rn.gI dk_105_64 f_105_64.choose_spec sk_92 rfl ?_
    refine Rn.ic dk_105_67 cic_2 ?_
    refine Rn.pu (st' := [.int ((I2 92 23) + 2)]) dk_105_68 L_105 rfl ?_
    refine Rn.gt (t := 76) dk_105_69 rfl ?_
    exact Rn.wk [1, 0] rfl (p_105_76 hD _ _ _ _ _ h)
def b_105_47 (I : dI) (J : dJ) : Option (dI × dJ) := b_105_48 0 I J
theorem p_105_47 {Q : Nat → Option Nat} {D : Nat} (hD : 2 ≤ D) (I : dI) (J : dJ) (R : (dI × dJ)) (h : b_105_47 I J = some R) : Rn Q D 105 47 [(0, .ref 92)] [] I J (none) R.1 R.2 := by
  replace h : (b_105_48 0 I J) = some R := h
  refine Rn.ic dk_105_47 cic_0 ?_
  exact Rn.wk [0] rfl (p_105_48 hD _ _ _ _ h)
def b_105_0 (I : dI) (J : dJ) : Option (dI × dJ) := if ((I 92 21) - (I 92 23)) ≤ 2 then (b_105_47 I J) else (if ¬ ((I 92 23) < 0 ∨ 120 ≤ Int32.toNatClampNeg (I 92 23)) then (if ¬ (I 93 (Int32.toNatClampNeg (I 92 23))) = 48 then (b_105_47 I J) else (if ¬ (((I 92 23) + 1) < 0 ∨ 120 ≤ Int32.toNatClampNeg ((I 92 23) + 1)) then (if ¬ (I 93 (Int32.toNatClampNeg ((I 92 23) + 1))) = 120 then (b_105_47 I J) else (b_105_48 1 I J)) else none)) else none)
theorem p_105_0 {Q : Nat → Option Nat} {D : Nat} (hD : 2 ≤ D) (I : dI) (J : dJ) (R : (dI × dJ)) (h : b_105_0 I J = some R) : Rn Q D 105 0 [(0, .ref 92)] [] I J (none) R.1 R.2 := by
  replace h : (if ((I 92 21) - (I 92 23)) ≤ 2 then (b_105_47 I J) else (if ¬ ((I 92 23) < 0 ∨ 120 ≤ Int32.toNatClampNeg (I 92 23)) then (if ¬ (I 93 (Int32.toNatClampNeg (I 92 23))) = 48 then (b_105_47 I J) else (if ¬ (((I 92 23) + 1) < 0 ∨ 120 ≤ Int32.toNatClampNeg ((I 92 23) + 1)) then (if ¬ (I 93 (Int32.toNatClampNeg ((I 92 23) + 1))) = 120 then (b_105_47 I J) else (b_105_48 1 I J)) else none)) else none)) = some R := h
  refine Rn.pu (st' := [.ref 92]) dk_105_0 L_105 rfl ?_
  refine Rn.gI dk_105_1 f_105_1.choose_spec sk_92 rfl ?_
  refine Rn.pu (st' := [.ref 92, .int (I 92 21)]) dk_105_4 L_105 rfl ?_
  refine Rn.gI dk_105_5 f_105_5.choose_spec sk_92 rfl ?_
  refine Rn.pu (st' := [.int ((I 92 21) - (I 92 23))]) dk_105_8 L_105 rfl ?_
  refine Rn.ic dk_105_9 cic_2 ?_
  by_cases c1 : ((I 92 21) - (I 92 23)) ≤ 2
  · rw [if_pos c1] at h
    refine Rn.i2t (t := 47) dk_105_10 rfl (decide_eq_true c1) ?_
    exact Rn.wk [0] rfl (p_105_47 hD _ _ _ h)
  · rw [if_neg c1] at h
    refine Rn.i2f (t := 47) dk_105_10 rfl (decide_eq_false c1) ?_
    refine Rn.pu (st' := [.ref 92]) dk_105_13 L_105 rfl ?_
    refine Rn.gR (r := 93) dk_105_14 f_105_14.choose_spec sk_92 rfl ?_
    refine Rn.pu (st' := [.ref 92, .ref 93]) dk_105_17 L_105 rfl ?_
    refine Rn.gI dk_105_18 f_105_18.choose_spec sk_92 rfl ?_
    obtain ⟨c2, h⟩ := xm_if h
    refine Rn.cald dk_105_21 sk_93 c2 ?_
    refine Rn.bp dk_105_22 cbp_48 ?_
    by_cases c3 : ¬ (I 93 (Int32.toNatClampNeg (I 92 23))) = 48
    · rw [if_pos c3] at h
      refine Rn.i2t (t := 47) dk_105_24 rfl (decide_eq_true c3) ?_
      exact Rn.wk [0] rfl (p_105_47 hD _ _ _ h)
    · rw [if_neg c3] at h
      refine Rn.i2f (t := 47) dk_105_24 rfl (decide_eq_false c3) ?_
      refine Rn.pu (st' := [.ref 92]) dk_105_27 L_105 rfl ?_
      refine Rn.gR (r := 93) dk_105_28 f_105_28.choose_spec sk_92 rfl ?_
      refine Rn.pu (st' := [.ref 92, .ref 93]) dk_105_31 L_105 rfl ?_
      refine Rn.gI dk_105_32 f_105_32.choose_spec sk_92 rfl ?_
      refine Rn.ic dk_105_35 cic_1 ?_
      refine Rn.pu (st' := [.int ((I 92 23) + 1), .ref 93]) dk_105_36 L_105 rfl ?_
      obtain ⟨c4, h⟩ := xm_if h
      refine Rn.cald dk_105_37 sk_93 c4 ?_
      refine Rn.bp dk_105_38 cbp_120 ?_
      by_cases c5 : ¬ (I 93 (Int32.toNatClampNeg ((I 92 23) + 1))) = 120
      · rw [if_pos c5] at h
        refine Rn.i2t (t := 47) dk_105_40 rfl (decide_eq_true c5) ?_
        exact Rn.wk [0] rfl (p_105_47 hD _ _ _ h)
      · rw [if_neg c5] at h
        refine Rn.i2f (t := 47) dk_105_40 rfl (decide_eq_false c5) ?_
        refine Rn.ic dk_105_43 cic_1 ?_
        refine Rn.gt (t := 48) dk_105_44 rfl ?_
        exact Rn.wk [0] rfl (p_105_48 hD _ _ _ _ h)
def m_105 (I : dI) (J : dJ) : Option (dI × dJ) := b_105_0 I J
theorem x_105 {Q : Nat → Option Nat} {D : Nat} (hD : 3 ≤ D) {I : dI} {J : dJ} {R : (dI × dJ)} (h : m_105 I J = some R) : Ex Q D 105 I J [.ref 92] (none) R.1 R.2 := by
  obtain ⟨D, rfl⟩ : ∃ D', D = D' + 1 := ⟨D - 1, by omega⟩
  exact Ex.of (by decide) (by rw [L_105]; exact Nat.le_of_ble_eq_true rfl) (show xm_sub [(0, .ref 92)] [(0, .ref 92)] from xm_sub_of [0] [0] rfl rfl (by decide)) (p_105_0 (Nat.le_of_succ_le_succ hD) _ _ _ h)
