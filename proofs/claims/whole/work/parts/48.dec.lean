/-! Printed by wip/whole/gen_dec.py: methods read back. -/
-- ConditionDesk$Builder.settle(I)V
theorem L_70 : tb_mL 70 = 3 := by decide +kernel
theorem R_70 : tb_mr 70 = none := by decide +kernel
theorem dk_70_0 : decode (tb_mb 70) 0 = .ok (.iconst (0), 1) := by decide +kernel
theorem dk_70_1 : decode (tb_mb 70) 1 = .ok (.istore_n 2, 1) := by decide +kernel
theorem dk_70_2 : decode (tb_mb 70) 2 = .ok (.iload_n 2, 1) := by decide +kernel
theorem dk_70_3 : decode (tb_mb 70) 3 = .ok (.bipush (40), 2) := by decide +kernel
theorem dk_70_5 : decode (tb_mb 70) 5 = .ok (.if_icmp .ge (27), 3) := by decide +kernel
theorem dk_70_32 : decode (tb_mb 70) 32 = .ok (.return_, 1) := by decide +kernel
theorem dk_70_8 : decode (tb_mb 70) 8 = .ok (.aload_n 0, 1) := by decide +kernel
theorem dk_70_9 : decode (tb_mb 70) 9 = .ok (.getfield 23, 3) := by decide +kernel
theorem f_70_9 : ∃ b, tb_fr (tb_oc 70) 23 = some (0, 3, b) := ⟨_, rfl⟩
theorem dk_70_12 : decode (tb_mb 70) 12 = .ok (.invokevirtual 104, 3) := by decide +kernel
theorem ck_70_12 : ∃ b, tb_cr (tb_oc 70) 104 = some (0, 66, b, 0) := ⟨_, rfl⟩
theorem dk_70_15 : decode (tb_mb 70) 15 = .ok (.invokestatic 140, 3) := by decide +kernel
theorem ck_70_15 : ∃ b, tb_cr (tb_oc 70) 140 = some (1, 71, b, 1) := ⟨_, rfl⟩
theorem dk_70_18 : decode (tb_mb 70) 18 = .ok (.iload_n 1, 1) := by decide +kernel
theorem dk_70_19 : decode (tb_mb 70) 19 = .ok (.if_icmp .lt (13), 3) := by decide +kernel
theorem dk_70_22 : decode (tb_mb 70) 22 = .ok (.aload_n 0, 1) := by decide +kernel
theorem dk_70_23 : decode (tb_mb 70) 23 = .ok (.invokevirtual 137, 3) := by decide +kernel
theorem ck_70_23 : ∃ b, tb_cr (tb_oc 70) 137 = some (0, 72, b, 0) := ⟨_, rfl⟩
theorem dk_70_26 : decode (tb_mb 70) 26 = .ok (.iinc 2 (1), 3) := by decide +kernel
theorem dk_70_29 : decode (tb_mb 70) 29 = .ok (.goto (-27), 3) := by decide +kernel
def b_70_2 : Nat → Int32 → Int32 → dI → dJ → Option (dI × dJ)
  | 0, _, _, _, _ => none
  | n + 1, x1, x2, I, J => if 40 ≤ x2 then (some (I, J)) else ((m_66 12 80 I J).bind (fun r2 => (m_71 r2 I J).bind (fun r4 => if r4 < x1 then (some (I, J)) else ((m_72 I J).bind (fun r7 => (b_70_2 n) x1 (x2 + 1) r7.1 r7.2)))))
theorem p_70_2 {Q : Nat → Option Nat} {D : Nat} (hD : 3 ≤ D) : ∀ (n : Nat) (x1 : Int32) (x2 : Int32) (I : dI) (J : dJ) (R : (dI × dJ)), b_70_2 n x1 x2 I J = some R → Rn Q D 70 2 [(0, .ref 6), (1, .int x1), (2, .int x2)] [] I J (none) R.1 R.2 := by
  intro n
  induction n with
  | zero => intro x1 x2 I J R h; exact absurd h (by simp [b_70_2])
  | succ n ih =>
    intro x1 x2 I J R h
    replace h : (if 40 ≤ x2 then (some (I, J)) else ((m_66 12 80 I J).bind (fun r2 => (m_71 r2 I J).bind (fun r4 => if r4 < x1 then (some (I, J)) else ((m_72 I J).bind (fun r7 => (b_70_2 n) x1 (x2 + 1) r7.1 r7.2)))))) = some R := h
    refine Rn.pu (st' := [.int x2]) dk_70_2 L_70 rfl ?_
    refine Rn.bp dk_70_3 cbp_40 ?_
    by_cases c1 : 40 ≤ x2
    · rw [if_pos c1] at h
      refine Rn.i2t (t := 32) dk_70_5 rfl (decide_eq_true c1) ?_
      cases h
      exact Rn.rv dk_70_32 R_70
    · rw [if_neg c1] at h
      refine Rn.i2f (t := 32) dk_70_5 rfl (decide_eq_false c1) ?_
      refine Rn.pu (st' := [.ref 6]) dk_70_8 L_70 rfl ?_
      refine Rn.gR (r := 12) dk_70_9 f_70_9.choose_spec sk_6 rfl ?_
      obtain ⟨r2, e3, h⟩ := bindS h
      refine Rn.cvI (p := 12) (As := []) (rest := []) dk_70_12 ck_70_12.choose_spec rfl sk_12 rfl (x_66 (Nat.le_trans (Nat.le_of_ble_eq_true rfl) hD) ok_12 e3) ?_
      obtain ⟨r4, e5, h⟩ := bindS h
      refine Rn.csI (As := [.int r2]) (rest := []) dk_70_15 ck_70_15.choose_spec rfl (x_71 (Nat.le_trans (Nat.le_of_ble_eq_true rfl) hD) e5) ?_
      refine Rn.pu (st' := [.int x1, .int r4]) dk_70_18 L_70 rfl ?_
      by_cases c6 : r4 < x1
      · rw [if_pos c6] at h
        refine Rn.i2t (t := 32) dk_70_19 rfl (decide_eq_true c6) ?_
        cases h
        exact Rn.rv dk_70_32 R_70
      · rw [if_neg c6] at h
        refine Rn.i2f (t := 32) dk_70_19 rfl (decide_eq_false c6) ?_
        refine Rn.pu (st' := [.ref 6]) dk_70_22 L_70 rfl ?_
        obtain ⟨r7, e8, h⟩ := bindS h
        refine Rn.cvV (p := 6) (As := []) (rest := []) dk_70_23 ck_70_23.choose_spec rfl sk_6 rfl (x_72 (Nat.le_trans (Nat.le_of_ble_eq_true rfl) hD) e8) ?_
        refine Rn.inc (ls' := [(2, .int (x2 + 1)), (0, .ref 6), (1, .int x1)]) dk_70_26 L_70 (by decide) cic_1 rfl rfl ?_
        refine Rn.gt (t := 2) dk_70_29 rfl ?_
        exact Rn.wk [1, 2, 0] rfl (ih _ _ _ _ _ h)
def b_70_0 (x1 : Int32) (I : dI) (J : dJ) : Option (dI × dJ) := b_70_2 FU x1 0 I J
theorem p_70_0 {Q : Nat → Option Nat} {D : Nat} (hD : 3 ≤ D) (x1 : Int32) (I : dI) (J : dJ) (R : (dI × dJ)) (h : b_70_0 x1 I J = some R) : Rn Q D 70 0 [(0, .ref 6), (1, .int x1)] [] I J (none) R.1 R.2 := by
  replace h : (b_70_2 FU x1 0 I J) = some R := h
  refine Rn.ic dk_70_0 cic_0 ?_
  refine Rn.pu (ls' := [(2, .int 0), (0, .ref 6), (1, .int x1)]) (st' := []) dk_70_1 L_70 rfl ?_
  exact Rn.wk [1, 2, 0] rfl (p_70_2 hD FU _ _ _ _ _ h)
def m_70 (x1 : Int32) (I : dI) (J : dJ) : Option (dI × dJ) := b_70_0 x1 I J
theorem x_70 {Q : Nat → Option Nat} {D : Nat} (hD : 4 ≤ D) {x1 : Int32} {I : dI} {J : dJ} {R : (dI × dJ)} (h : m_70 x1 I J = some R) : Ex Q D 70 I J [.ref 6, .int x1] (none) R.1 R.2 := by
  obtain ⟨D, rfl⟩ : ∃ D', D = D' + 1 := ⟨D - 1, by omega⟩
  exact Ex.of (by decide) (by rw [L_70]; exact Nat.le_of_ble_eq_true rfl) (show xm_sub [(0, .ref 6), (1, .int x1)] [(0, .ref 6), (1, .int x1)] from xm_sub_of [0, 1] [0, 1] rfl rfl (by decide)) (p_70_0 (Nat.le_of_succ_le_succ hD) _ _ _ _ h)
-- ConditionDesk$Builder.takeOpening(I)V
theorem L_77 : tb_mL 77 = 2 := by decide +kernel
theorem R_77 : tb_mr 77 = none := by decide +kernel
theorem dk_77_0 : decode (tb_mb 77) 0 = .ok (.iload_n 1, 1) := by decide +kernel
theorem dk_77_1 : decode (tb_mb 77) 1 = .ok (.bipush (12), 2) := by decide +kernel
theorem dk_77_3 : decode (tb_mb 77) 3 = .ok (.if_icmp .ne (19), 3) := by decide +kernel
theorem dk_77_22 : decode (tb_mb 77) 22 = .ok (.aload_n 0, 1) := by decide +kernel
theorem dk_77_23 : decode (tb_mb 77) 23 = .ok (.getfield 23, 3) := by decide +kernel
theorem f_77_23 : ∃ b, tb_fr (tb_oc 77) 23 = some (0, 3, b) := ⟨_, rfl⟩
theorem dk_77_26 : decode (tb_mb 77) 26 = .ok (.iload_n 1, 1) := by decide +kernel
theorem dk_77_27 : decode (tb_mb 77) 27 = .ok (.invokevirtual 120, 3) := by decide +kernel
theorem ck_77_27 : ∃ b, tb_cr (tb_oc 77) 120 = some (0, 75, b, 1) := ⟨_, rfl⟩
theorem dk_77_30 : decode (tb_mb 77) 30 = .ok (.aload_n 0, 1) := by decide +kernel
theorem dk_77_31 : decode (tb_mb 77) 31 = .ok (.getfield 30, 3) := by decide +kernel
theorem f_77_31 : ∃ b, tb_fr (tb_oc 77) 30 = some (0, 5, b) := ⟨_, rfl⟩
theorem dk_77_34 : decode (tb_mb 77) 34 = .ok (.iload_n 1, 1) := by decide +kernel
theorem dk_77_35 : decode (tb_mb 77) 35 = .ok (.invokevirtual 120, 3) := by decide +kernel
theorem ck_77_35 : ∃ b, tb_cr (tb_oc 77) 120 = some (0, 75, b, 1) := ⟨_, rfl⟩
theorem dk_77_38 : decode (tb_mb 77) 38 = .ok (.aload_n 0, 1) := by decide +kernel
theorem dk_77_39 : decode (tb_mb 77) 39 = .ok (.iconst (0), 1) := by decide +kernel
theorem dk_77_40 : decode (tb_mb 77) 40 = .ok (.putfield 33, 3) := by decide +kernel
theorem f_77_40 : ∃ b, tb_fr (tb_oc 77) 33 = some (0, 6, b) ∧ xm_fin tb_cl (tb_ini 77) b 0 6 = true := ⟨_, rfl, rfl⟩
theorem dk_77_43 : decode (tb_mb 77) 43 = .ok (.return_, 1) := by decide +kernel
theorem dk_77_6 : decode (tb_mb 77) 6 = .ok (.aload_n 0, 1) := by decide +kernel
theorem dk_77_7 : decode (tb_mb 77) 7 = .ok (.getfield 33, 3) := by decide +kernel
theorem f_77_7 : ∃ b, tb_fr (tb_oc 77) 33 = some (0, 6, b) := ⟨_, rfl⟩
theorem dk_77_10 : decode (tb_mb 77) 10 = .ok (.ifCond .ne (12), 3) := by decide +kernel
theorem dk_77_13 : decode (tb_mb 77) 13 = .ok (.aload_n 0, 1) := by decide +kernel
theorem dk_77_14 : decode (tb_mb 77) 14 = .ok (.getfield 23, 3) := by decide +kernel
theorem f_77_14 : ∃ b, tb_fr (tb_oc 77) 23 = some (0, 3, b) := ⟨_, rfl⟩
theorem dk_77_17 : decode (tb_mb 77) 17 = .ok (.bipush (34), 2) := by decide +kernel
theorem dk_77_19 : decode (tb_mb 77) 19 = .ok (.invokevirtual 120, 3) := by decide +kernel
theorem ck_77_19 : ∃ b, tb_cr (tb_oc 77) 120 = some (0, 75, b, 1) := ⟨_, rfl⟩
def b_77_22 (x1 : Int32) (I : dI) (J : dJ) : Option (dI × dJ) := (m_75 12 80 x1 I J).bind (fun r2 => (m_75 16 8 x1 r2.1 r2.2).bind (fun r4 => lt_ (sI r4.1 6 6 0) (fun I6 => some (I6, r4.2))))
theorem p_77_22 {Q : Nat → Option Nat} {D : Nat} (hD : 2 ≤ D) (x1 : Int32) (I : dI) (J : dJ) (R : (dI × dJ)) (h : b_77_22 x1 I J = some R) : Rn Q D 77 22 [(0, .ref 6), (1, .int x1)] [] I J (none) R.1 R.2 := by
  replace h : ((m_75 12 80 x1 I J).bind (fun r2 => (m_75 16 8 x1 r2.1 r2.2).bind (fun r4 => lt_ (sI r4.1 6 6 0) (fun I6 => some (I6, r4.2))))) = some R := h
  refine Rn.pu (st' := [.ref 6]) dk_77_22 L_77 rfl ?_
  refine Rn.gR (r := 12) dk_77_23 f_77_23.choose_spec sk_6 rfl ?_
  refine Rn.pu (st' := [.int x1, .ref 12]) dk_77_26 L_77 rfl ?_
  obtain ⟨r2, e3, h⟩ := bindS h
  refine Rn.cvV (p := 12) (As := [.int x1]) (rest := []) dk_77_27 ck_77_27.choose_spec rfl sk_12 rfl (x_75 (Nat.le_trans (Nat.le_of_ble_eq_true rfl) hD) ok_12 e3) ?_
  refine Rn.pu (st' := [.ref 6]) dk_77_30 L_77 rfl ?_
  refine Rn.gR (r := 16) dk_77_31 f_77_31.choose_spec sk_6 rfl ?_
  refine Rn.pu (st' := [.int x1, .ref 16]) dk_77_34 L_77 rfl ?_
  obtain ⟨r4, e5, h⟩ := bindS h
  refine Rn.cvV (p := 16) (As := [.int x1]) (rest := []) dk_77_35 ck_77_35.choose_spec rfl sk_16 rfl (x_75 (Nat.le_trans (Nat.le_of_ble_eq_true rfl) hD) ok_16 e5) ?_
  refine Rn.pu (st' := [.ref 6]) dk_77_38 L_77 rfl ?_
  refine Rn.ic dk_77_39 cic_0 ?_
  obtain ⟨I6, eI6, h⟩ := letS h
  refine Rn.pI dk_77_40 f_77_40.choose_spec.1 sk_6 rfl f_77_40.choose_spec.2 rfl rfl ?_
  rw [← eI6]
  cases h
  exact Rn.rv dk_77_43 R_77
def b_77_0 (x1 : Int32) (I : dI) (J : dJ) : Option (dI × dJ) := if ¬ x1 = 12 then (b_77_22 x1 I J) else (if ¬ (I 6 6) = 0 then (b_77_22 x1 I J) else ((m_75 12 80 34 I J).bind (fun r3 => b_77_22 x1 r3.1 r3.2)))
theorem p_77_0 {Q : Nat → Option Nat} {D : Nat} (hD : 2 ≤ D) (x1 : Int32) (I : dI) (J : dJ) (R : (dI × dJ)) (h : b_77_0 x1 I J = some R) : Rn Q D 77 0 [(0, .ref 6), (1, .int x1)] [] I J (none) R.1 R.2 := by
  replace h : (if ¬ x1 = 12 then (b_77_22 x1 I J) else (if ¬ (I 6 6) = 0 then (b_77_22 x1 I J) else ((m_75 12 80 34 I J).bind (fun r3 => b_77_22 x1 r3.1 r3.2)))) = some R := h
  refine Rn.pu (st' := [.int x1]) dk_77_0 L_77 rfl ?_
  refine Rn.bp dk_77_1 cbp_12 ?_
  by_cases c1 : ¬ x1 = 12
  · rw [if_pos c1] at h
    refine Rn.i2t (t := 22) dk_77_3 rfl (decide_eq_true c1) ?_
    exact Rn.wk [0, 1] rfl (p_77_22 hD _ _ _ _ h)
  · rw [if_neg c1] at h
    refine Rn.i2f (t := 22) dk_77_3 rfl (decide_eq_false c1) ?_
    refine Rn.pu (st' := [.ref 6]) dk_77_6 L_77 rfl ?_
    refine Rn.gI dk_77_7 f_77_7.choose_spec sk_6 rfl ?_
    by_cases c2 : ¬ (I 6 6) = 0
    · rw [if_pos c2] at h
      refine Rn.i1t (t := 22) dk_77_10 rfl (decide_eq_true c2) ?_
      exact Rn.wk [0, 1] rfl (p_77_22 hD _ _ _ _ h)
    · rw [if_neg c2] at h
      refine Rn.i1f (t := 22) dk_77_10 rfl (decide_eq_false c2) ?_
      refine Rn.pu (st' := [.ref 6]) dk_77_13 L_77 rfl ?_
      refine Rn.gR (r := 12) dk_77_14 f_77_14.choose_spec sk_6 rfl ?_
      refine Rn.bp dk_77_17 cbp_34 ?_
      obtain ⟨r3, e4, h⟩ := bindS h
      refine Rn.cvV (p := 12) (As := [.int 34]) (rest := []) dk_77_19 ck_77_19.choose_spec rfl sk_12 rfl (x_75 (Nat.le_trans (Nat.le_of_ble_eq_true rfl) hD) ok_12 e4) ?_
      exact Rn.wk [0, 1] rfl (p_77_22 hD _ _ _ _ h)
def m_77 (x1 : Int32) (I : dI) (J : dJ) : Option (dI × dJ) := b_77_0 x1 I J
theorem x_77 {Q : Nat → Option Nat} {D : Nat} (hD : 3 ≤ D) {x1 : Int32} {I : dI} {J : dJ} {R : (dI × dJ)} (h : m_77 x1 I J = some R) : Ex Q D 77 I J [.ref 6, .int x1] (none) R.1 R.2 := by
  obtain ⟨D, rfl⟩ : ∃ D', D = D' + 1 := ⟨D - 1, by omega⟩
  exact Ex.of (by decide) (by rw [L_77]; exact Nat.le_of_ble_eq_true rfl) (show xm_sub [(0, .ref 6), (1, .int x1)] [(0, .ref 6), (1, .int x1)] from xm_sub_of [0, 1] [0, 1] rfl rfl (by decide)) (p_77_0 (Nat.le_of_succ_le_succ hD) _ _ _ _ h)
-- ConditionDesk$Builder.takesBrackets(I)Z
theorem L_79 : tb_mL 79 = 1 := by decide +kernel
theorem R_79 : tb_mr 79 = some .boolean := by decide +kernel
theorem dk_79_0 : decode (tb_mb 79) 0 = .ok (.iload_n 0, 1) := by decide +kernel
theorem dk_79_1 : decode (tb_mb 79) 1 = .ok (.bipush (8), 2) := by decide +kernel
theorem dk_79_3 : decode (tb_mb 79) 3 = .ok (.if_icmp .eq (27), 3) := by decide +kernel
theorem dk_79_30 : decode (tb_mb 79) 30 = .ok (.iconst (1), 1) := by decide +kernel
theorem dk_79_31 : decode (tb_mb 79) 31 = .ok (.goto (4), 3) := by decide +kernel
theorem dk_79_35 : decode (tb_mb 79) 35 = .ok (.ireturn, 1) := by decide +kernel
theorem dk_79_6 : decode (tb_mb 79) 6 = .ok (.iload_n 0, 1) := by decide +kernel
theorem dk_79_7 : decode (tb_mb 79) 7 = .ok (.bipush (9), 2) := by decide +kernel
theorem dk_79_9 : decode (tb_mb 79) 9 = .ok (.if_icmp .eq (21), 3) := by decide +kernel
theorem dk_79_12 : decode (tb_mb 79) 12 = .ok (.iload_n 0, 1) := by decide +kernel
theorem dk_79_13 : decode (tb_mb 79) 13 = .ok (.bipush (34), 2) := by decide +kernel
theorem dk_79_15 : decode (tb_mb 79) 15 = .ok (.if_icmp .eq (15), 3) := by decide +kernel
theorem dk_79_18 : decode (tb_mb 79) 18 = .ok (.iload_n 0, 1) := by decide +kernel
theorem dk_79_19 : decode (tb_mb 79) 19 = .ok (.bipush (6), 2) := by decide +kernel
theorem dk_79_21 : decode (tb_mb 79) 21 = .ok (.if_icmp .eq (9), 3) := by decide +kernel
theorem dk_79_24 : decode (tb_mb 79) 24 = .ok (.iload_n 0, 1) := by decide +kernel
theorem dk_79_25 : decode (tb_mb 79) 25 = .ok (.bipush (7), 2) := by decide +kernel
theorem dk_79_27 : decode (tb_mb 79) 27 = .ok (.if_icmp .ne (7), 3) := by decide +kernel
theorem dk_79_34 : decode (tb_mb 79) 34 = .ok (.iconst (0), 1) := by decide +kernel
def b_79_0 (x0 : Int32) (I : dI) (J : dJ) : Option Int32 := if x0 = 8 then (some 1) else (if x0 = 9 then (some 1) else (if x0 = 34 then (some 1) else (if x0 = 6 then (some 1) else (if ¬ x0 = 7 then (some 0) else (some 1)))))
theorem p_79_0 {Q : Nat → Option Nat} {D : Nat} (hD : 1 ≤ D) (x0 : Int32) (I : dI) (J : dJ) (R : Int32) (h : b_79_0 x0 I J = some R) : Rn Q D 79 0 [(0, .int x0)] [] I J (some (.int R)) I J := by
  replace h : (if x0 = 8 then (some 1) else (if x0 = 9 then (some 1) else (if x0 = 34 then (some 1) else (if x0 = 6 then (some 1) else (if ¬ x0 = 7 then (some 0) else (some 1)))))) = some R := h
  refine Rn.pu (st' := [.int x0]) dk_79_0 L_79 rfl ?_
  refine Rn.bp dk_79_1 cbp_8 ?_
  by_cases c1 : x0 = 8
  · rw [if_pos c1] at h
    refine Rn.i2t (t := 30) dk_79_3 rfl (decide_eq_true c1) ?_
    refine Rn.ic dk_79_30 cic_1 ?_
    refine Rn.gt (t := 35) dk_79_31 rfl ?_
    cases h
    exact Rn.ri dk_79_35 R_79 rfl
  · rw [if_neg c1] at h
    refine Rn.i2f (t := 30) dk_79_3 rfl (decide_eq_false c1) ?_
    refine Rn.pu (st' := [.int x0]) dk_79_6 L_79 rfl ?_
    refine Rn.bp dk_79_7 cbp_9 ?_
    by_cases c2 : x0 = 9
    · rw [if_pos c2] at h
      refine Rn.i2t (t := 30) dk_79_9 rfl (decide_eq_true c2) ?_
      refine Rn.ic dk_79_30 cic_1 ?_
      refine Rn.gt (t := 35) dk_79_31 rfl ?_
      cases h
      exact Rn.ri dk_79_35 R_79 rfl
    · rw [if_neg c2] at h
      refine Rn.i2f (t := 30) dk_79_9 rfl (decide_eq_false c2) ?_
      refine Rn.pu (st' := [.int x0]) dk_79_12 L_79 rfl ?_
      refine Rn.bp dk_79_13 cbp_34 ?_
      by_cases c3 : x0 = 34
      · rw [if_pos c3] at h
        refine Rn.i2t (t := 30) dk_79_15 rfl (decide_eq_true c3) ?_
        refine Rn.ic dk_79_30 cic_1 ?_
        refine Rn.gt (t := 35) dk_79_31 rfl ?_
        cases h
        exact Rn.ri dk_79_35 R_79 rfl
      · rw [if_neg c3] at h
        refine Rn.i2f (t := 30) dk_79_15 rfl (decide_eq_false c3) ?_
        refine Rn.pu (st' := [.int x0]) dk_79_18 L_79 rfl ?_
        refine Rn.bp dk_79_19 cbp_6 ?_
        by_cases c4 : x0 = 6
        · rw [if_pos c4] at h
          refine Rn.i2t (t := 30) dk_79_21 rfl (decide_eq_true c4) ?_
          refine Rn.ic dk_79_30 cic_1 ?_
          refine Rn.gt (t := 35) dk_79_31 rfl ?_
          cases h
          exact Rn.ri dk_79_35 R_79 rfl
        · rw [if_neg c4] at h
          refine Rn.i2f (t := 30) dk_79_21 rfl (decide_eq_false c4) ?_
          refine Rn.pu (st' := [.int x0]) dk_79_24 L_79 rfl ?_
          refine Rn.bp dk_79_25 cbp_7 ?_
          by_cases c5 : ¬ x0 = 7
          · rw [if_pos c5] at h
            refine Rn.i2t (t := 34) dk_79_27 rfl (decide_eq_true c5) ?_
            refine Rn.ic dk_79_34 cic_0 ?_
            cases h
            exact Rn.ri dk_79_35 R_79 rfl
          · rw [if_neg c5] at h
            refine Rn.i2f (t := 34) dk_79_27 rfl (decide_eq_false c5) ?_
            refine Rn.ic dk_79_30 cic_1 ?_
            refine Rn.gt (t := 35) dk_79_31 rfl ?_
            cases h
            exact Rn.ri dk_79_35 R_79 rfl
def m_79 (x0 : Int32) (I : dI) (J : dJ) : Option Int32 := b_79_0 x0 I J
theorem x_79 {Q : Nat → Option Nat} {D : Nat} (hD : 2 ≤ D) {x0 : Int32} {I : dI} {J : dJ} {R : Int32} (h : m_79 x0 I J = some R) : Ex Q D 79 I J [.int x0] (some (.int R)) I J := by
  obtain ⟨D, rfl⟩ : ∃ D', D = D' + 1 := ⟨D - 1, by omega⟩
  exact Ex.of (by decide) (by rw [L_79]; exact Nat.le_of_ble_eq_true rfl) (show xm_sub [(0, .int x0)] [(0, .int x0)] from xm_sub_of [0] [0] rfl rfl (by decide)) (p_79_0 (Nat.le_of_succ_le_succ hD) _ _ _ _ h)
-- ConditionDesk$Builder.takeBehindOperand(I)V
theorem L_78 : tb_mL 78 = 2 := by decide +kernel
theorem R_78 : tb_mr 78 = none := by decide +kernel
theorem dk_78_0 : decode (tb_mb 78) 0 = .ok (.iload_n 1, 1) := by decide +kernel
theorem dk_78_1 : decode (tb_mb 78) 1 = .ok (.bipush (11), 2) := by decide +kernel
theorem dk_78_3 : decode (tb_mb 78) 3 = .ok (.if_icmp .eq (9), 3) := by decide +kernel
theorem dk_78_12 : decode (tb_mb 78) 12 = .ok (.aload_n 0, 1) := by decide +kernel
theorem dk_78_13 : decode (tb_mb 78) 13 = .ok (.iconst (1), 1) := by decide +kernel
theorem dk_78_14 : decode (tb_mb 78) 14 = .ok (.invokevirtual 66, 3) := by decide +kernel
theorem ck_78_14 : ∃ b, tb_cr (tb_oc 78) 66 = some (0, 70, b, 1) := ⟨_, rfl⟩
theorem dk_78_17 : decode (tb_mb 78) 17 = .ok (.aload_n 0, 1) := by decide +kernel
theorem dk_78_18 : decode (tb_mb 78) 18 = .ok (.getfield 23, 3) := by decide +kernel
theorem f_78_18 : ∃ b, tb_fr (tb_oc 78) 23 = some (0, 3, b) := ⟨_, rfl⟩
theorem dk_78_21 : decode (tb_mb 78) 21 = .ok (.invokevirtual 131, 3) := by decide +kernel
theorem ck_78_21 : ∃ b, tb_cr (tb_oc 78) 131 = some (0, 73, b, 0) := ⟨_, rfl⟩
theorem dk_78_24 : decode (tb_mb 78) 24 = .ok (.pop, 1) := by decide +kernel
theorem dk_78_25 : decode (tb_mb 78) 25 = .ok (.aload_n 0, 1) := by decide +kernel
theorem dk_78_26 : decode (tb_mb 78) 26 = .ok (.getfield 30, 3) := by decide +kernel
theorem f_78_26 : ∃ b, tb_fr (tb_oc 78) 30 = some (0, 5, b) := ⟨_, rfl⟩
theorem dk_78_29 : decode (tb_mb 78) 29 = .ok (.invokevirtual 131, 3) := by decide +kernel
theorem ck_78_29 : ∃ b, tb_cr (tb_oc 78) 131 = some (0, 73, b, 0) := ⟨_, rfl⟩
theorem dk_78_32 : decode (tb_mb 78) 32 = .ok (.pop, 1) := by decide +kernel
theorem dk_78_33 : decode (tb_mb 78) 33 = .ok (.aload_n 0, 1) := by decide +kernel
theorem dk_78_34 : decode (tb_mb 78) 34 = .ok (.getfield 23, 3) := by decide +kernel
theorem f_78_34 : ∃ b, tb_fr (tb_oc 78) 23 = some (0, 3, b) := ⟨_, rfl⟩
theorem dk_78_37 : decode (tb_mb 78) 37 = .ok (.invokevirtual 104, 3) := by decide +kernel
theorem ck_78_37 : ∃ b, tb_cr (tb_oc 78) 104 = some (0, 66, b, 0) := ⟨_, rfl⟩
theorem dk_78_40 : decode (tb_mb 78) 40 = .ok (.invokestatic 134, 3) := by decide +kernel
theorem ck_78_40 : ∃ b, tb_cr (tb_oc 78) 134 = some (1, 79, b, 1) := ⟨_, rfl⟩
theorem dk_78_43 : decode (tb_mb 78) 43 = .ok (.ifCond .eq (31), 3) := by decide +kernel
theorem dk_78_74 : decode (tb_mb 78) 74 = .ok (.return_, 1) := by decide +kernel
theorem dk_78_46 : decode (tb_mb 78) 46 = .ok (.aload_n 0, 1) := by decide +kernel
theorem dk_78_47 : decode (tb_mb 78) 47 = .ok (.invokevirtual 137, 3) := by decide +kernel
theorem ck_78_47 : ∃ b, tb_cr (tb_oc 78) 137 = some (0, 72, b, 0) := ⟨_, rfl⟩
theorem dk_78_50 : decode (tb_mb 78) 50 = .ok (.goto (24), 3) := by decide +kernel
theorem dk_78_6 : decode (tb_mb 78) 6 = .ok (.iload_n 1, 1) := by decide +kernel
theorem dk_78_7 : decode (tb_mb 78) 7 = .ok (.bipush (13), 2) := by decide +kernel
theorem dk_78_9 : decode (tb_mb 78) 9 = .ok (.if_icmp .ne (44), 3) := by decide +kernel
theorem dk_78_53 : decode (tb_mb 78) 53 = .ok (.aload_n 0, 1) := by decide +kernel
theorem dk_78_54 : decode (tb_mb 78) 54 = .ok (.iload_n 1, 1) := by decide +kernel
theorem dk_78_55 : decode (tb_mb 78) 55 = .ok (.invokestatic 140, 3) := by decide +kernel
theorem ck_78_55 : ∃ b, tb_cr (tb_oc 78) 140 = some (1, 71, b, 1) := ⟨_, rfl⟩
theorem dk_78_58 : decode (tb_mb 78) 58 = .ok (.invokevirtual 66, 3) := by decide +kernel
theorem ck_78_58 : ∃ b, tb_cr (tb_oc 78) 66 = some (0, 70, b, 1) := ⟨_, rfl⟩
theorem dk_78_61 : decode (tb_mb 78) 61 = .ok (.aload_n 0, 1) := by decide +kernel
theorem dk_78_62 : decode (tb_mb 78) 62 = .ok (.getfield 23, 3) := by decide +kernel
theorem f_78_62 : ∃ b, tb_fr (tb_oc 78) 23 = some (0, 3, b) := ⟨_, rfl⟩
theorem dk_78_65 : decode (tb_mb 78) 65 = .ok (.iload_n 1, 1) := by decide +kernel
theorem dk_78_66 : decode (tb_mb 78) 66 = .ok (.invokevirtual 120, 3) := by decide +kernel
theorem ck_78_66 : ∃ b, tb_cr (tb_oc 78) 120 = some (0, 75, b, 1) := ⟨_, rfl⟩
theorem dk_78_69 : decode (tb_mb 78) 69 = .ok (.aload_n 0, 1) := by decide +kernel
theorem dk_78_70 : decode (tb_mb 78) 70 = .ok (.iconst (0), 1) := by decide +kernel
theorem dk_78_71 : decode (tb_mb 78) 71 = .ok (.putfield 33, 3) := by decide +kernel
theorem f_78_71 : ∃ b, tb_fr (tb_oc 78) 33 = some (0, 6, b) ∧ xm_fin tb_cl (tb_ini 78) b 0 6 = true := ⟨_, rfl, rfl⟩
def b_78_12 (I : dI) (J : dJ) : Option (dI × dJ) := (m_70 1 I J).bind (fun r2 => (m_73 12 80 r2.1 r2.2).bind (fun r4 => (m_73 16 8 r4.2.1 r4.2.2).bind (fun r6 => (m_66 12 80 r6.2.1 r6.2.2).bind (fun r8 => (m_79 r8 r6.2.1 r6.2.2).bind (fun r10 => if r10 = 0 then (some (r6.2.1, r6.2.2)) else ((m_72 r6.2.1 r6.2.2).bind (fun r13 => some (r13.1, r13.2))))))))
theorem p_78_12 {Q : Nat → Option Nat} {D : Nat} (hD : 4 ≤ D) (I : dI) (J : dJ) (R : (dI × dJ)) (h : b_78_12 I J = some R) : Rn Q D 78 12 [(0, .ref 6)] [] I J (none) R.1 R.2 := by
  replace h : ((m_70 1 I J).bind (fun r2 => (m_73 12 80 r2.1 r2.2).bind (fun r4 => (m_73 16 8 r4.2.1 r4.2.2).bind (fun r6 => (m_66 12 80 r6.2.1 r6.2.2).bind (fun r8 => (m_79 r8 r6.2.1 r6.2.2).bind (fun r10 => if r10 = 0 then (some (r6.2.1, r6.2.2)) else ((m_72 r6.2.1 r6.2.2).bind (fun r13 => some (r13.1, r13.2))))))))) = some R := h
  refine Rn.pu (st' := [.ref 6]) dk_78_12 L_78 rfl ?_
  refine Rn.ic dk_78_13 cic_1 ?_
  obtain ⟨r2, e3, h⟩ := bindS h
  refine Rn.cvV (p := 6) (As := [.int 1]) (rest := []) dk_78_14 ck_78_14.choose_spec rfl sk_6 rfl (x_70 (Nat.le_trans (Nat.le_of_ble_eq_true rfl) hD) e3) ?_
  refine Rn.pu (st' := [.ref 6]) dk_78_17 L_78 rfl ?_
  refine Rn.gR (r := 12) dk_78_18 f_78_18.choose_spec sk_6 rfl ?_
  obtain ⟨r4, e5, h⟩ := bindS h
  refine Rn.cvI (p := 12) (As := []) (rest := []) dk_78_21 ck_78_21.choose_spec rfl sk_12 rfl (x_73 (Nat.le_trans (Nat.le_of_ble_eq_true rfl) hD) ok_12 e5) ?_
  refine Rn.pu (st' := []) dk_78_24 L_78 rfl ?_
  refine Rn.pu (st' := [.ref 6]) dk_78_25 L_78 rfl ?_
  refine Rn.gR (r := 16) dk_78_26 f_78_26.choose_spec sk_6 rfl ?_
  obtain ⟨r6, e7, h⟩ := bindS h
  refine Rn.cvI (p := 16) (As := []) (rest := []) dk_78_29 ck_78_29.choose_spec rfl sk_16 rfl (x_73 (Nat.le_trans (Nat.le_of_ble_eq_true rfl) hD) ok_16 e7) ?_
  refine Rn.pu (st' := []) dk_78_32 L_78 rfl ?_
  refine Rn.pu (st' := [.ref 6]) dk_78_33 L_78 rfl ?_
  refine Rn.gR (r := 12) dk_78_34 f_78_34.choose_spec sk_6 rfl ?_
  obtain ⟨r8, e9, h⟩ := bindS h
  refine Rn.cvI (p := 12) (As := []) (rest := []) dk_78_37 ck_78_37.choose_spec rfl sk_12 rfl (x_66 (Nat.le_trans (Nat.le_of_ble_eq_true rfl) hD) ok_12 e9) ?_
  obtain ⟨r10, e11, h⟩ := bindS h
  refine Rn.csI (As := [.int r8]) (rest := []) dk_78_40 ck_78_40.choose_spec rfl (x_79 (Nat.le_trans (Nat.le_of_ble_eq_true rfl) hD) e11) ?_
  by_cases c12 : r10 = 0
  · rw [if_pos c12] at h
    refine Rn.i1t (t := 74) dk_78_43 rfl (decide_eq_true c12) ?_
    cases h
    exact Rn.rv dk_78_74 R_78
  · rw [if_neg c12] at h
    refine Rn.i1f (t := 74) dk_78_43 rfl (decide_eq_false c12) ?_
    refine Rn.pu (st' := [.ref 6]) dk_78_46 L_78 rfl ?_
    obtain ⟨r13, e14, h⟩ := bindS h
    refine Rn.cvV (p := 6) (As := []) (rest := []) dk_78_47 ck_78_47.choose_spec rfl sk_6 rfl (x_72 (Nat.le_trans (Nat.le_of_ble_eq_true rfl) hD) e14) ?_
    refine Rn.gt (t := 74) dk_78_50 rfl ?_
    cases h
    exact Rn.rv dk_78_74 R_78
def b_78_0 (x1 : Int32) (I : dI) (J : dJ) : Option (dI × dJ) := if x1 = 11 then (b_78_12 I J) else (if ¬ x1 = 13 then ((m_71 x1 I J).bind (fun r3 => (m_70 r3 I J).bind (fun r5 => (m_75 12 80 x1 r5.1 r5.2).bind (fun r7 => lt_ (sI r7.1 6 6 0) (fun I9 => some (I9, r7.2)))))) else (b_78_12 I J))
theorem p_78_0 {Q : Nat → Option Nat} {D : Nat} (hD : 4 ≤ D) (x1 : Int32) (I : dI) (J : dJ) (R : (dI × dJ)) (h : b_78_0 x1 I J = some R) : Rn Q D 78 0 [(0, .ref 6), (1, .int x1)] [] I J (none) R.1 R.2 := by
  replace h : (if x1 = 11 then (b_78_12 I J) else (if ¬ x1 = 13 then ((m_71 x1 I J).bind (fun r3 => (m_70 r3 I J).bind (fun r5 => (m_75 12 80 x1 r5.1 r5.2).bind (fun r7 => lt_ (sI r7.1 6 6 0) (fun I9 => some (I9, r7.2)))))) else (b_78_12 I J))) = some R := h
  refine Rn.pu (st' := [.int x1]) dk_78_0 L_78 rfl ?_
  refine Rn.bp dk_78_1 cbp_11 ?_
  by_cases c1 : x1 = 11
  · rw [if_pos c1] at h
    refine Rn.i2t (t := 12) dk_78_3 rfl (decide_eq_true c1) ?_
    exact Rn.wk [0] rfl (p_78_12 hD _ _ _ h)
  · rw [if_neg c1] at h
    refine Rn.i2f (t := 12) dk_78_3 rfl (decide_eq_false c1) ?_
    refine Rn.pu (st' := [.int x1]) dk_78_6 L_78 rfl ?_
    refine Rn.bp dk_78_7 cbp_13 ?_
    by_cases c2 : ¬ x1 = 13
    · rw [if_pos c2] at h
      refine Rn.i2t (t := 53) dk_78_9 rfl (decide_eq_true c2) ?_
      refine Rn.pu (st' := [.ref 6]) dk_78_53 L_78 rfl ?_
      refine Rn.pu (st' := [.int x1, .ref 6]) dk_78_54 L_78 rfl ?_
      obtain ⟨r3, e4, h⟩ := bindS h
      refine Rn.csI (As := [.int x1]) (rest := [.ref 6]) dk_78_55 ck_78_55.choose_spec rfl (x_71 (Nat.le_trans (Nat.le_of_ble_eq_true rfl) hD) e4) ?_
      obtain ⟨r5, e6, h⟩ := bindS h
      refine Rn.cvV (p := 6) (As := [.int r3]) (rest := []) dk_78_58 ck_78_58.choose_spec rfl sk_6 rfl (x_70 (Nat.le_trans (Nat.le_of_ble_eq_true rfl) hD) e6) ?_
      refine Rn.pu (st' := [.ref 6]) dk_78_61 L_78 rfl ?_
      refine Rn.gR (r := 12) dk_78_62 f_78_62.choose_spec sk_6 rfl ?_
      refine Rn.pu (st' := [.int x1, .ref 12]) dk_78_65 L_78 rfl ?_
      obtain ⟨r7, e8, h⟩ := bindS h
      refine Rn.cvV (p := 12) (As := [.int x1]) (rest := []) dk_78_66 ck_78_66.choose_spec rfl sk_12 rfl (x_75 (Nat.le_trans (Nat.le_of_ble_eq_true rfl) hD) ok_12 e8) ?_
      refine Rn.pu (st' := [.ref 6]) dk_78_69 L_78 rfl ?_
      refine Rn.ic dk_78_70 cic_0 ?_
      obtain ⟨I9, eI9, h⟩ := letS h
      refine Rn.pI dk_78_71 f_78_71.choose_spec.1 sk_6 rfl f_78_71.choose_spec.2 rfl rfl ?_
      rw [← eI9]
      cases h
      exact Rn.rv dk_78_74 R_78
    · rw [if_neg c2] at h
      refine Rn.i2f (t := 53) dk_78_9 rfl (decide_eq_false c2) ?_
      exact Rn.wk [0] rfl (p_78_12 hD _ _ _ h)
def m_78 (x1 : Int32) (I : dI) (J : dJ) : Option (dI × dJ) := b_78_0 x1 I J
theorem x_78 {Q : Nat → Option Nat} {D : Nat} (hD : 5 ≤ D) {x1 : Int32} {I : dI} {J : dJ} {R : (dI × dJ)} (h : m_78 x1 I J = some R) : Ex Q D 78 I J [.ref 6, .int x1] (none) R.1 R.2 := by
  obtain ⟨D, rfl⟩ : ∃ D', D = D' + 1 := ⟨D - 1, by omega⟩
  exact Ex.of (by decide) (by rw [L_78]; exact Nat.le_of_ble_eq_true rfl) (show xm_sub [(0, .ref 6), (1, .int x1)] [(0, .ref 6), (1, .int x1)] from xm_sub_of [0, 1] [0, 1] rfl rfl (by decide)) (p_78_0 (Nat.le_of_succ_le_succ hD) _ _ _ _ h)
-- ConditionDesk$Builder.takeBeforeOperand(I)V
theorem L_80 : tb_mL 80 = 2 := by decide +kernel
theorem R_80 : tb_mr 80 = none := by decide +kernel
theorem dk_80_0 : decode (tb_mb 80) 0 = .ok (.iload_n 1, 1) := by decide +kernel
theorem dk_80_1 : decode (tb_mb 80) 1 = .ok (.tableswitch (107) 3 9 #[43, 43, 43, 91, 91, 75, 75], 43) := by decide +kernel
theorem dk_80_44 : decode (tb_mb 80) 44 = .ok (.aload_n 0, 1) := by decide +kernel
theorem dk_80_45 : decode (tb_mb 80) 45 = .ok (.getfield 27, 3) := by decide +kernel
theorem f_80_45 : ∃ b, tb_fr (tb_oc 80) 27 = some (0, 4, b) := ⟨_, rfl⟩
theorem dk_80_48 : decode (tb_mb 80) 48 = .ok (.aload_n 0, 1) := by decide +kernel
theorem dk_80_49 : decode (tb_mb 80) 49 = .ok (.getfield 12, 3) := by decide +kernel
theorem f_80_49 : ∃ b, tb_fr (tb_oc 80) 12 = some (0, 2, b) := ⟨_, rfl⟩
theorem dk_80_52 : decode (tb_mb 80) 52 = .ok (.iload_n 1, 1) := by decide +kernel
theorem dk_80_53 : decode (tb_mb 80) 53 = .ok (.iconst (-1), 1) := by decide +kernel
theorem dk_80_54 : decode (tb_mb 80) 54 = .ok (.iconst (-1), 1) := by decide +kernel
theorem dk_80_55 : decode (tb_mb 80) 55 = .ok (.aload_n 0, 1) := by decide +kernel
theorem dk_80_56 : decode (tb_mb 80) 56 = .ok (.getfield 46, 3) := by decide +kernel
theorem f_80_56 : ∃ b, tb_fr (tb_oc 80) 46 = some (0, 1, b) := ⟨_, rfl⟩
theorem dk_80_59 : decode (tb_mb 80) 59 = .ok (.getfield 123, 3) := by decide +kernel
theorem f_80_59 : ∃ b, tb_fr (tb_oc 80) 123 = some (6, 4, b) := ⟨_, rfl⟩
theorem dk_80_62 : decode (tb_mb 80) 62 = .ok (.invokevirtual 127, 3) := by decide +kernel
theorem ck_80_62 : ∃ b, tb_cr (tb_oc 80) 127 = some (0, 74, b, 4) := ⟨_, rfl⟩
theorem dk_80_65 : decode (tb_mb 80) 65 = .ok (.invokevirtual 120, 3) := by decide +kernel
theorem ck_80_65 : ∃ b, tb_cr (tb_oc 80) 120 = some (0, 75, b, 1) := ⟨_, rfl⟩
theorem dk_80_68 : decode (tb_mb 80) 68 = .ok (.aload_n 0, 1) := by decide +kernel
theorem dk_80_69 : decode (tb_mb 80) 69 = .ok (.iconst (1), 1) := by decide +kernel
theorem dk_80_70 : decode (tb_mb 80) 70 = .ok (.putfield 33, 3) := by decide +kernel
theorem f_80_70 : ∃ b, tb_fr (tb_oc 80) 33 = some (0, 6, b) ∧ xm_fin tb_cl (tb_ini 80) b 0 6 = true := ⟨_, rfl, rfl⟩
theorem dk_80_73 : decode (tb_mb 80) 73 = .ok (.goto (54), 3) := by decide +kernel
theorem dk_80_127 : decode (tb_mb 80) 127 = .ok (.return_, 1) := by decide +kernel
theorem dk_80_92 : decode (tb_mb 80) 92 = .ok (.aload_n 0, 1) := by decide +kernel
theorem dk_80_93 : decode (tb_mb 80) 93 = .ok (.getfield 23, 3) := by decide +kernel
theorem f_80_93 : ∃ b, tb_fr (tb_oc 80) 23 = some (0, 3, b) := ⟨_, rfl⟩
theorem dk_80_96 : decode (tb_mb 80) 96 = .ok (.iload_n 1, 1) := by decide +kernel
theorem dk_80_97 : decode (tb_mb 80) 97 = .ok (.invokevirtual 120, 3) := by decide +kernel
theorem ck_80_97 : ∃ b, tb_cr (tb_oc 80) 120 = some (0, 75, b, 1) := ⟨_, rfl⟩
theorem dk_80_100 : decode (tb_mb 80) 100 = .ok (.aload_n 0, 1) := by decide +kernel
theorem dk_80_101 : decode (tb_mb 80) 101 = .ok (.iconst (3), 1) := by decide +kernel
theorem dk_80_102 : decode (tb_mb 80) 102 = .ok (.putfield 33, 3) := by decide +kernel
theorem f_80_102 : ∃ b, tb_fr (tb_oc 80) 33 = some (0, 6, b) ∧ xm_fin tb_cl (tb_ini 80) b 0 6 = true := ⟨_, rfl, rfl⟩
theorem dk_80_105 : decode (tb_mb 80) 105 = .ok (.goto (22), 3) := by decide +kernel
theorem dk_80_76 : decode (tb_mb 80) 76 = .ok (.aload_n 0, 1) := by decide +kernel
theorem dk_80_77 : decode (tb_mb 80) 77 = .ok (.getfield 23, 3) := by decide +kernel
theorem f_80_77 : ∃ b, tb_fr (tb_oc 80) 23 = some (0, 3, b) := ⟨_, rfl⟩
theorem dk_80_80 : decode (tb_mb 80) 80 = .ok (.iload_n 1, 1) := by decide +kernel
theorem dk_80_81 : decode (tb_mb 80) 81 = .ok (.invokevirtual 120, 3) := by decide +kernel
theorem ck_80_81 : ∃ b, tb_cr (tb_oc 80) 120 = some (0, 75, b, 1) := ⟨_, rfl⟩
theorem dk_80_84 : decode (tb_mb 80) 84 = .ok (.aload_n 0, 1) := by decide +kernel
theorem dk_80_85 : decode (tb_mb 80) 85 = .ok (.iconst (2), 1) := by decide +kernel
theorem dk_80_86 : decode (tb_mb 80) 86 = .ok (.putfield 33, 3) := by decide +kernel
theorem f_80_86 : ∃ b, tb_fr (tb_oc 80) 33 = some (0, 6, b) ∧ xm_fin tb_cl (tb_ini 80) b 0 6 = true := ⟨_, rfl, rfl⟩
theorem dk_80_89 : decode (tb_mb 80) 89 = .ok (.goto (38), 3) := by decide +kernel
theorem dk_80_108 : decode (tb_mb 80) 108 = .ok (.aload_n 0, 1) := by decide +kernel
theorem dk_80_109 : decode (tb_mb 80) 109 = .ok (.getfield 23, 3) := by decide +kernel
theorem f_80_109 : ∃ b, tb_fr (tb_oc 80) 23 = some (0, 3, b) := ⟨_, rfl⟩
theorem dk_80_112 : decode (tb_mb 80) 112 = .ok (.iload_n 1, 1) := by decide +kernel
theorem dk_80_113 : decode (tb_mb 80) 113 = .ok (.bipush (30), 2) := by decide +kernel
theorem dk_80_115 : decode (tb_mb 80) 115 = .ok (.if_icmp .ne (8), 3) := by decide +kernel
theorem dk_80_123 : decode (tb_mb 80) 123 = .ok (.iload_n 1, 1) := by decide +kernel
theorem dk_80_124 : decode (tb_mb 80) 124 = .ok (.invokevirtual 120, 3) := by decide +kernel
theorem ck_80_124 : ∃ b, tb_cr (tb_oc 80) 120 = some (0, 75, b, 1) := ⟨_, rfl⟩
theorem dk_80_118 : decode (tb_mb 80) 118 = .ok (.bipush (35), 2) := by decide +kernel
theorem dk_80_120 : decode (tb_mb 80) 120 = .ok (.goto (4), 3) := by decide +kernel
def b_80_44 (x1 : Int32) (I : dI) (J : dJ) : Option (dI × dJ) := (m_74 7 x1 (-1) (-1) (J 18 4) I J).bind (fun r2 => (m_75 14 40 r2.1 r2.2.1 r2.2.2).bind (fun r4 => lt_ (sI r4.1 6 6 1) (fun I6 => some (I6, r4.2))))
theorem p_80_44 {Q : Nat → Option Nat} {D : Nat} (hD : 2 ≤ D) (x1 : Int32) (I : dI) (J : dJ) (R : (dI × dJ)) (h : b_80_44 x1 I J = some R) : Rn Q D 80 44 [(0, .ref 6), (1, .int x1)] [] I J (none) R.1 R.2 := by
  replace h : ((m_74 7 x1 (-1) (-1) (J 18 4) I J).bind (fun r2 => (m_75 14 40 r2.1 r2.2.1 r2.2.2).bind (fun r4 => lt_ (sI r4.1 6 6 1) (fun I6 => some (I6, r4.2))))) = some R := h
  refine Rn.pu (st' := [.ref 6]) dk_80_44 L_80 rfl ?_
  refine Rn.gR (r := 14) dk_80_45 f_80_45.choose_spec sk_6 rfl ?_
  refine Rn.pu (st' := [.ref 6, .ref 14]) dk_80_48 L_80 rfl ?_
  refine Rn.gR (r := 7) dk_80_49 f_80_49.choose_spec sk_6 rfl ?_
  refine Rn.pu (st' := [.int x1, .ref 7, .ref 14]) dk_80_52 L_80 rfl ?_
  refine Rn.ic dk_80_53 cic_m1 ?_
  refine Rn.ic dk_80_54 cic_m1 ?_
  refine Rn.pu (st' := [.ref 6, .int (-1), .int (-1), .int x1, .ref 7, .ref 14]) dk_80_55 L_80 rfl ?_
  refine Rn.gR (r := 18) dk_80_56 f_80_56.choose_spec sk_6 rfl ?_
  refine Rn.gJ dk_80_59 f_80_59.choose_spec sk_18 rfl ?_
  obtain ⟨r2, e3, h⟩ := bindS h
  refine Rn.cvI (p := 7) (As := [.int x1, .int (-1), .int (-1), .long (J 18 4)]) (rest := [.ref 14]) dk_80_62 ck_80_62.choose_spec rfl sk_7 rfl (x_74 (Nat.le_trans (Nat.le_of_ble_eq_true rfl) hD) ok_7 e3) ?_
  obtain ⟨r4, e5, h⟩ := bindS h
  refine Rn.cvV (p := 14) (As := [.int r2.1]) (rest := []) dk_80_65 ck_80_65.choose_spec rfl sk_14 rfl (x_75 (Nat.le_trans (Nat.le_of_ble_eq_true rfl) hD) ok_14 e5) ?_
  refine Rn.pu (st' := [.ref 6]) dk_80_68 L_80 rfl ?_
  refine Rn.ic dk_80_69 cic_1 ?_
  obtain ⟨I6, eI6, h⟩ := letS h
  refine Rn.pI dk_80_70 f_80_70.choose_spec.1 sk_6 rfl f_80_70.choose_spec.2 rfl rfl ?_
  rw [← eI6]
  refine Rn.gt (t := 127) dk_80_73 rfl ?_
  cases h
  exact Rn.rv dk_80_127 R_80
def b_80_92 (x1 : Int32) (I : dI) (J : dJ) : Option (dI × dJ) := (m_75 12 80 x1 I J).bind (fun r10 => lt_ (sI r10.1 6 6 3) (fun I12 => some (I12, r10.2)))
theorem p_80_92 {Q : Nat → Option Nat} {D : Nat} (hD : 2 ≤ D) (x1 : Int32) (I : dI) (J : dJ) (R : (dI × dJ)) (h : b_80_92 x1 I J = some R) : Rn Q D 80 92 [(0, .ref 6), (1, .int x1)] [] I J (none) R.1 R.2 := by
  replace h : ((m_75 12 80 x1 I J).bind (fun r10 => lt_ (sI r10.1 6 6 3) (fun I12 => some (I12, r10.2)))) = some R := h
  refine Rn.pu (st' := [.ref 6]) dk_80_92 L_80 rfl ?_
  refine Rn.gR (r := 12) dk_80_93 f_80_93.choose_spec sk_6 rfl ?_
  refine Rn.pu (st' := [.int x1, .ref 12]) dk_80_96 L_80 rfl ?_
  obtain ⟨r10, e11, h⟩ := bindS h
  refine Rn.cvV (p := 12) (As := [.int x1]) (rest := []) dk_80_97 ck_80_97.choose_spec rfl sk_12 rfl (x_75 (Nat.le_trans (Nat.le_of_ble_eq_true rfl) hD) ok_12 e11) ?_
  refine Rn.pu (st' := [.ref 6]) dk_80_100 L_80 rfl ?_
  refine Rn.ic dk_80_101 cic_3 ?_
  obtain ⟨I12, eI12, h⟩ := letS h
  refine Rn.pI dk_80_102 f_80_102.choose_spec.1 sk_6 rfl f_80_102.choose_spec.2 rfl rfl ?_
  rw [← eI12]
  refine Rn.gt (t := 127) dk_80_105 rfl ?_
  cases h
  exact Rn.rv dk_80_127 R_80
def b_80_76 (x1 : Int32) (I : dI) (J : dJ) : Option (dI × dJ) := (m_75 12 80 x1 I J).bind (fun r15 => lt_ (sI r15.1 6 6 2) (fun I17 => some (I17, r15.2)))
theorem p_80_76 {Q : Nat → Option Nat} {D : Nat} (hD : 2 ≤ D) (x1 : Int32) (I : dI) (J : dJ) (R : (dI × dJ)) (h : b_80_76 x1 I J = some R) : Rn Q D 80 76 [(0, .ref 6), (1, .int x1)] [] I J (none) R.1 R.2 := by
  replace h : ((m_75 12 80 x1 I J).bind (fun r15 => lt_ (sI r15.1 6 6 2) (fun I17 => some (I17, r15.2)))) = some R := h
  refine Rn.pu (st' := [.ref 6]) dk_80_76 L_80 rfl ?_
  refine Rn.gR (r := 12) dk_80_77 f_80_77.choose_spec sk_6 rfl ?_
  refine Rn.pu (st' := [.int x1, .ref 12]) dk_80_80 L_80 rfl ?_
  obtain ⟨r15, e16, h⟩ := bindS h
  refine Rn.cvV (p := 12) (As := [.int x1]) (rest := []) dk_80_81 ck_80_81.choose_spec rfl sk_12 rfl (x_75 (Nat.le_trans (Nat.le_of_ble_eq_true rfl) hD) ok_12 e16) ?_
  refine Rn.pu (st' := [.ref 6]) dk_80_84 L_80 rfl ?_
  refine Rn.ic dk_80_85 cic_2 ?_
  obtain ⟨I17, eI17, h⟩ := letS h
  refine Rn.pI dk_80_86 f_80_86.choose_spec.1 sk_6 rfl f_80_86.choose_spec.2 rfl rfl ?_
  rw [← eI17]
  refine Rn.gt (t := 127) dk_80_89 rfl ?_
  cases h
  exact Rn.rv dk_80_127 R_80
def b_80_124 (s0 : Int32) (I : dI) (J : dJ) : Option (dI × dJ) := (m_75 12 80 s0 I J).bind (fun r20 => some (r20.1, r20.2))
theorem p_80_124 {Q : Nat → Option Nat} {D : Nat} (hD : 2 ≤ D) (s0 : Int32) (I : dI) (J : dJ) (R : (dI × dJ)) (h : b_80_124 s0 I J = some R) : Rn Q D 80 124 [] [.int s0, .ref 12] I J (none) R.1 R.2 := by
  replace h : ((m_75 12 80 s0 I J).bind (fun r20 => some (r20.1, r20.2))) = some R := h
  obtain ⟨r20, e21, h⟩ := bindS h
  refine Rn.cvV (p := 12) (As := [.int s0]) (rest := []) dk_80_124 ck_80_124.choose_spec rfl sk_12 rfl (x_75 (Nat.le_trans (Nat.le_of_ble_eq_true rfl) hD) ok_12 e21) ?_
  cases h
  exact Rn.rv dk_80_127 R_80
def b_80_0 (x1 : Int32) (I : dI) (J : dJ) : Option (dI × dJ) := if x1 = 3 then (b_80_44 x1 I J) else if x1 = 4 then (b_80_44 x1 I J) else if x1 = 5 then (b_80_44 x1 I J) else if x1 = 6 then (b_80_92 x1 I J) else if x1 = 7 then (b_80_92 x1 I J) else if x1 = 8 then (b_80_76 x1 I J) else if x1 = 9 then (b_80_76 x1 I J) else (if ¬ x1 = 30 then (b_80_124 x1 I J) else (b_80_124 35 I J))
theorem p_80_0 {Q : Nat → Option Nat} {D : Nat} (hD : 2 ≤ D) (x1 : Int32) (I : dI) (J : dJ) (R : (dI × dJ)) (h : b_80_0 x1 I J = some R) : Rn Q D 80 0 [(0, .ref 6), (1, .int x1)] [] I J (none) R.1 R.2 := by
  replace h : (if x1 = 3 then (b_80_44 x1 I J) else if x1 = 4 then (b_80_44 x1 I J) else if x1 = 5 then (b_80_44 x1 I J) else if x1 = 6 then (b_80_92 x1 I J) else if x1 = 7 then (b_80_92 x1 I J) else if x1 = 8 then (b_80_76 x1 I J) else if x1 = 9 then (b_80_76 x1 I J) else (if ¬ x1 = 30 then (b_80_124 x1 I J) else (b_80_124 35 I J))) = some R := h
  refine Rn.pu (st' := [.int x1]) dk_80_0 L_80 rfl ?_
  by_cases c1 : x1 = 3
  · rw [if_pos c1] at h
    refine Rn.sw (t := 44) (st' := []) dk_80_1 (fun _ _ => rfl) (by rw [c1]; rfl) ?_
    exact Rn.wk [0, 1] rfl (p_80_44 hD _ _ _ _ h)
  · rw [if_neg c1] at h
    by_cases c2 : x1 = 4
    · rw [if_pos c2] at h
      refine Rn.sw (t := 44) (st' := []) dk_80_1 (fun _ _ => rfl) (by rw [c2]; rfl) ?_
      exact Rn.wk [0, 1] rfl (p_80_44 hD _ _ _ _ h)
    · rw [if_neg c2] at h
      by_cases c3 : x1 = 5
      · rw [if_pos c3] at h
        refine Rn.sw (t := 44) (st' := []) dk_80_1 (fun _ _ => rfl) (by rw [c3]; rfl) ?_
        exact Rn.wk [0, 1] rfl (p_80_44 hD _ _ _ _ h)
      · rw [if_neg c3] at h
        by_cases c4 : x1 = 6
        · rw [if_pos c4] at h
          refine Rn.sw (t := 92) (st' := []) dk_80_1 (fun _ _ => rfl) (by rw [c4]; rfl) ?_
          exact Rn.wk [0, 1] rfl (p_80_92 hD _ _ _ _ h)
        · rw [if_neg c4] at h
          by_cases c5 : x1 = 7
          · rw [if_pos c5] at h
            refine Rn.sw (t := 92) (st' := []) dk_80_1 (fun _ _ => rfl) (by rw [c5]; rfl) ?_
            exact Rn.wk [0, 1] rfl (p_80_92 hD _ _ _ _ h)
          · rw [if_neg c5] at h
            by_cases c6 : x1 = 8
            · rw [if_pos c6] at h
              refine Rn.sw (t := 76) (st' := []) dk_80_1 (fun _ _ => rfl) (by rw [c6]; rfl) ?_
              exact Rn.wk [0, 1] rfl (p_80_76 hD _ _ _ _ h)
            · rw [if_neg c6] at h
              by_cases c7 : x1 = 9
              · rw [if_pos c7] at h
                refine Rn.sw (t := 76) (st' := []) dk_80_1 (fun _ _ => rfl) (by rw [c7]; rfl) ?_
                exact Rn.wk [0, 1] rfl (p_80_76 hD _ _ _ _ h)
              · rw [if_neg c7] at h
                have q0 : xm_br (.tableswitch (107) 3 9 #[43, 43, 43, 91, 91, 75, 75]) 43 1 (.int x1 :: []) = some (true, 108, []) := by
                  have q1 := i_ne c1 (z := 3) rfl
                  have q2 := i_ne c2 (z := 4) rfl
                  have q3 := i_ne c3 (z := 5) rfl
                  have q4 := i_ne c4 (z := 6) rfl
                  have q5 := i_ne c5 (z := 7) rfl
                  have q6 := i_ne c6 (z := 8) rfl
                  have q7 := i_ne c7 (z := 9) rfl
                  exact ts_def (by omega) rfl
                refine Rn.sw dk_80_1 (fun _ _ => rfl) q0 ?_
                refine Rn.pu (st' := [.ref 6]) dk_80_108 L_80 rfl ?_
                refine Rn.gR (r := 12) dk_80_109 f_80_109.choose_spec sk_6 rfl ?_
                refine Rn.pu (st' := [.int x1, .ref 12]) dk_80_112 L_80 rfl ?_
                refine Rn.bp dk_80_113 cbp_30 ?_
                by_cases c8 : ¬ x1 = 30
                · rw [if_pos c8] at h
                  refine Rn.i2t (t := 123) dk_80_115 rfl (decide_eq_true c8) ?_
                  refine Rn.pu (st' := [.int x1, .ref 12]) dk_80_123 L_80 rfl ?_
                  exact Rn.wk [] rfl (p_80_124 hD _ _ _ _ h)
                · rw [if_neg c8] at h
                  refine Rn.i2f (t := 123) dk_80_115 rfl (decide_eq_false c8) ?_
                  refine Rn.bp dk_80_118 cbp_35 ?_
                  refine Rn.gt (t := 124) dk_80_120 rfl ?_
                  exact Rn.wk [] rfl (p_80_124 hD _ _ _ _ h)
def m_80 (x1 : Int32) (I : dI) (J : dJ) : Option (dI × dJ) := b_80_0 x1 I J
theorem x_80 {Q : Nat → Option Nat} {D : Nat} (hD : 3 ≤ D) {x1 : Int32} {I : dI} {J : dJ} {R : (dI × dJ)} (h : m_80 x1 I J = some R) : Ex Q D 80 I J [.ref 6, .int x1] (none) R.1 R.2 := by
  obtain ⟨D, rfl⟩ : ∃ D', D = D' + 1 := ⟨D - 1, by omega⟩
  exact Ex.of (by decide) (by rw [L_80]; exact Nat.le_of_ble_eq_true rfl) (show xm_sub [(0, .ref 6), (1, .int x1)] [(0, .ref 6), (1, .int x1)] from xm_sub_of [0, 1] [0, 1] rfl rfl (by decide)) (p_80_0 (Nat.le_of_succ_le_succ hD) _ _ _ _ h)
-- ConditionDesk$Builder.take(I)V
theorem L_76 : tb_mL 76 = 2 := by decide +kernel
theorem R_76 : tb_mr 76 = none := by decide +kernel
theorem dk_76_0 : decode (tb_mb 76) 0 = .ok (.iload_n 1, 1) := by decide +kernel
theorem dk_76_1 : decode (tb_mb 76) 1 = .ok (.invokestatic 86, 3) := by decide +kernel
theorem ck_76_1 : ∃ b, tb_cr (tb_oc 76) 86 = some (1, 68, b, 1) := ⟨_, rfl⟩
theorem dk_76_4 : decode (tb_mb 76) 4 = .ok (.ifCond .eq (16), 3) := by decide +kernel
theorem dk_76_20 : decode (tb_mb 76) 20 = .ok (.iload_n 1, 1) := by decide +kernel
theorem dk_76_21 : decode (tb_mb 76) 21 = .ok (.invokestatic 92, 3) := by decide +kernel
theorem ck_76_21 : ∃ b, tb_cr (tb_oc 76) 92 = some (1, 69, b, 1) := ⟨_, rfl⟩
theorem dk_76_24 : decode (tb_mb 76) 24 = .ok (.ifCond .eq (11), 3) := by decide +kernel
theorem dk_76_35 : decode (tb_mb 76) 35 = .ok (.aload_n 0, 1) := by decide +kernel
theorem dk_76_36 : decode (tb_mb 76) 36 = .ok (.getfield 33, 3) := by decide +kernel
theorem f_76_36 : ∃ b, tb_fr (tb_oc 76) 33 = some (0, 6, b) := ⟨_, rfl⟩
theorem dk_76_39 : decode (tb_mb 76) 39 = .ok (.iconst (1), 1) := by decide +kernel
theorem dk_76_40 : decode (tb_mb 76) 40 = .ok (.if_icmp .ne (11), 3) := by decide +kernel
theorem dk_76_51 : decode (tb_mb 76) 51 = .ok (.aload_n 0, 1) := by decide +kernel
theorem dk_76_52 : decode (tb_mb 76) 52 = .ok (.iload_n 1, 1) := by decide +kernel
theorem dk_76_53 : decode (tb_mb 76) 53 = .ok (.invokevirtual 117, 3) := by decide +kernel
theorem ck_76_53 : ∃ b, tb_cr (tb_oc 76) 117 = some (0, 80, b, 1) := ⟨_, rfl⟩
theorem dk_76_56 : decode (tb_mb 76) 56 = .ok (.return_, 1) := by decide +kernel
theorem dk_76_43 : decode (tb_mb 76) 43 = .ok (.aload_n 0, 1) := by decide +kernel
theorem dk_76_44 : decode (tb_mb 76) 44 = .ok (.iload_n 1, 1) := by decide +kernel
theorem dk_76_45 : decode (tb_mb 76) 45 = .ok (.invokevirtual 114, 3) := by decide +kernel
theorem ck_76_45 : ∃ b, tb_cr (tb_oc 76) 114 = some (0, 78, b, 1) := ⟨_, rfl⟩
theorem dk_76_48 : decode (tb_mb 76) 48 = .ok (.goto (8), 3) := by decide +kernel
theorem dk_76_27 : decode (tb_mb 76) 27 = .ok (.aload_n 0, 1) := by decide +kernel
theorem dk_76_28 : decode (tb_mb 76) 28 = .ok (.iload_n 1, 1) := by decide +kernel
theorem dk_76_29 : decode (tb_mb 76) 29 = .ok (.invokevirtual 111, 3) := by decide +kernel
theorem ck_76_29 : ∃ b, tb_cr (tb_oc 76) 111 = some (0, 77, b, 1) := ⟨_, rfl⟩
theorem dk_76_32 : decode (tb_mb 76) 32 = .ok (.goto (24), 3) := by decide +kernel
theorem dk_76_7 : decode (tb_mb 76) 7 = .ok (.aload_n 0, 1) := by decide +kernel
theorem dk_76_8 : decode (tb_mb 76) 8 = .ok (.getfield 12, 3) := by decide +kernel
theorem f_76_8 : ∃ b, tb_fr (tb_oc 76) 12 = some (0, 2, b) := ⟨_, rfl⟩
theorem dk_76_11 : decode (tb_mb 76) 11 = .ok (.dup, 1) := by decide +kernel
theorem dk_76_12 : decode (tb_mb 76) 12 = .ok (.getfield 89, 3) := by decide +kernel
theorem f_76_12 : ∃ b, tb_fr (tb_oc 76) 89 = some (4, 5, b) := ⟨_, rfl⟩
theorem dk_76_15 : decode (tb_mb 76) 15 = .ok (.iconst (1), 1) := by decide +kernel
theorem dk_76_16 : decode (tb_mb 76) 16 = .ok (.iadd, 1) := by decide +kernel
theorem dk_76_17 : decode (tb_mb 76) 17 = .ok (.putfield 89, 3) := by decide +kernel
theorem f_76_17 : ∃ b, tb_fr (tb_oc 76) 89 = some (4, 5, b) ∧ xm_fin tb_cl (tb_ini 76) b 4 5 = true := ⟨_, rfl, rfl⟩
def b_76_20 (x1 : Int32) (I : dI) (J : dJ) : Option (dI × dJ) := (m_69 x1 I J).bind (fun r4 => if r4 = 0 then (if ¬ (I 6 6) = 1 then ((m_80 x1 I J).bind (fun r8 => some (r8.1, r8.2))) else ((m_78 x1 I J).bind (fun r10 => some (r10.1, r10.2)))) else ((m_77 x1 I J).bind (fun r12 => some (r12.1, r12.2))))
theorem p_76_20 {Q : Nat → Option Nat} {D : Nat} (hD : 5 ≤ D) (x1 : Int32) (I : dI) (J : dJ) (R : (dI × dJ)) (h : b_76_20 x1 I J = some R) : Rn Q D 76 20 [(0, .ref 6), (1, .int x1)] [] I J (none) R.1 R.2 := by
  replace h : ((m_69 x1 I J).bind (fun r4 => if r4 = 0 then (if ¬ (I 6 6) = 1 then ((m_80 x1 I J).bind (fun r8 => some (r8.1, r8.2))) else ((m_78 x1 I J).bind (fun r10 => some (r10.1, r10.2)))) else ((m_77 x1 I J).bind (fun r12 => some (r12.1, r12.2))))) = some R := h
  refine Rn.pu (st' := [.int x1]) dk_76_20 L_76 rfl ?_
  obtain ⟨r4, e5, h⟩ := bindS h
  refine Rn.csI (As := [.int x1]) (rest := []) dk_76_21 ck_76_21.choose_spec rfl (x_69 (Nat.le_trans (Nat.le_of_ble_eq_true rfl) hD) e5) ?_
  by_cases c6 : r4 = 0
  · rw [if_pos c6] at h
    refine Rn.i1t (t := 35) dk_76_24 rfl (decide_eq_true c6) ?_
    refine Rn.pu (st' := [.ref 6]) dk_76_35 L_76 rfl ?_
    refine Rn.gI dk_76_36 f_76_36.choose_spec sk_6 rfl ?_
    refine Rn.ic dk_76_39 cic_1 ?_
    by_cases c7 : ¬ (I 6 6) = 1
    · rw [if_pos c7] at h
      refine Rn.i2t (t := 51) dk_76_40 rfl (decide_eq_true c7) ?_
      refine Rn.pu (st' := [.ref 6]) dk_76_51 L_76 rfl ?_
      refine Rn.pu (st' := [.int x1, .ref 6]) dk_76_52 L_76 rfl ?_
      obtain ⟨r8, e9, h⟩ := bindS h
      refine Rn.cvV (p := 6) (As := [.int x1]) (rest := []) dk_76_53 ck_76_53.choose_spec rfl sk_6 rfl (x_80 (Nat.le_trans (Nat.le_of_ble_eq_true rfl) hD) e9) ?_
      cases h
      exact Rn.rv dk_76_56 R_76
    · rw [if_neg c7] at h
      refine Rn.i2f (t := 51) dk_76_40 rfl (decide_eq_false c7) ?_
      refine Rn.pu (st' := [.ref 6]) dk_76_43 L_76 rfl ?_
      refine Rn.pu (st' := [.int x1, .ref 6]) dk_76_44 L_76 rfl ?_
      obtain ⟨r10, e11, h⟩ := bindS h
      refine Rn.cvV (p := 6) (As := [.int x1]) (rest := []) dk_76_45 ck_76_45.choose_spec rfl sk_6 rfl (x_78 (Nat.le_trans (Nat.le_of_ble_eq_true rfl) hD) e11) ?_
      refine Rn.gt (t := 56) dk_76_48 rfl ?_
      cases h
      exact Rn.rv dk_76_56 R_76
  · rw [if_neg c6] at h
    refine Rn.i1f (t := 35) dk_76_24 rfl (decide_eq_false c6) ?_
    refine Rn.pu (st' := [.ref 6]) dk_76_27 L_76 rfl ?_
    refine Rn.pu (st' := [.int x1, .ref 6]) dk_76_28 L_76 rfl ?_
    obtain ⟨r12, e13, h⟩ := bindS h
    refine Rn.cvV (p := 6) (As := [.int x1]) (rest := []) dk_76_29 ck_76_29.choose_spec rfl sk_6 rfl (x_77 (Nat.le_trans (Nat.le_of_ble_eq_true rfl) hD) e13) ?_
    refine Rn.gt (t := 56) dk_76_32 rfl ?_
    cases h
    exact Rn.rv dk_76_56 R_76
def b_76_0 (x1 : Int32) (I : dI) (J : dJ) : Option (dI × dJ) := (m_68 x1 I J).bind (fun r1 => if r1 = 0 then (b_76_20 x1 I J) else (lt_ (sI I 7 5 ((I 7 5) + 1)) (fun I4 => b_76_20 x1 I4 J)))
theorem p_76_0 {Q : Nat → Option Nat} {D : Nat} (hD : 5 ≤ D) (x1 : Int32) (I : dI) (J : dJ) (R : (dI × dJ)) (h : b_76_0 x1 I J = some R) : Rn Q D 76 0 [(0, .ref 6), (1, .int x1)] [] I J (none) R.1 R.2 := by
  replace h : ((m_68 x1 I J).bind (fun r1 => if r1 = 0 then (b_76_20 x1 I J) else (lt_ (sI I 7 5 ((I 7 5) + 1)) (fun I4 => b_76_20 x1 I4 J)))) = some R := h
  refine Rn.pu (st' := [.int x1]) dk_76_0 L_76 rfl ?_
  obtain ⟨r1, e2, h⟩ := bindS h
  refine Rn.csI (As := [.int x1]) (rest := []) dk_76_1 ck_76_1.choose_spec rfl (x_68 (Nat.le_trans (Nat.le_of_ble_eq_true rfl) hD) e2) ?_
  by_cases c3 : r1 = 0
  · rw [if_pos c3] at h
    refine Rn.i1t (t := 20) dk_76_4 rfl (decide_eq_true c3) ?_
    exact Rn.wk [0, 1] rfl (p_76_20 hD _ _ _ _ h)
  · rw [if_neg c3] at h
    refine Rn.i1f (t := 20) dk_76_4 rfl (decide_eq_false c3) ?_
    refine Rn.pu (st' := [.ref 6]) dk_76_7 L_76 rfl ?_
    refine Rn.gR (r := 7) dk_76_8 f_76_8.choose_spec sk_6 rfl ?_
    refine Rn.pu (st' := [.ref 7, .ref 7]) dk_76_11 L_76 rfl ?_
    refine Rn.gI dk_76_12 f_76_12.choose_spec sk_7 rfl ?_
    refine Rn.ic dk_76_15 cic_1 ?_
    refine Rn.pu (st' := [.int ((I 7 5) + 1), .ref 7]) dk_76_16 L_76 rfl ?_
    obtain ⟨I4, eI4, h⟩ := letS h
    refine Rn.pI dk_76_17 f_76_17.choose_spec.1 sk_7 rfl f_76_17.choose_spec.2 rfl rfl ?_
    rw [← eI4]
    exact Rn.wk [0, 1] rfl (p_76_20 hD _ _ _ _ h)
def m_76 (x1 : Int32) (I : dI) (J : dJ) : Option (dI × dJ) := b_76_0 x1 I J
theorem x_76 {Q : Nat → Option Nat} {D : Nat} (hD : 6 ≤ D) {x1 : Int32} {I : dI} {J : dJ} {R : (dI × dJ)} (h : m_76 x1 I J = some R) : Ex Q D 76 I J [.ref 6, .int x1] (none) R.1 R.2 := by
  obtain ⟨D, rfl⟩ : ∃ D', D = D' + 1 := ⟨D - 1, by omega⟩
  exact Ex.of (by decide) (by rw [L_76]; exact Nat.le_of_ble_eq_true rfl) (show xm_sub [(0, .ref 6), (1, .int x1)] [(0, .ref 6), (1, .int x1)] from xm_sub_of [0, 1] [0, 1] rfl rfl (by decide)) (p_76_0 (Nat.le_of_succ_le_succ hD) _ _ _ _ h)
-- ConditionDesk$Builder.build()I
theorem L_41 : tb_mL 41 = 3 := by decide +kernel
theorem R_41 : tb_mr 41 = some .int := by decide +kernel
theorem dk_41_0 : decode (tb_mb 41) 0 = .ok (.aload_n 0, 1) := by decide +kernel
theorem dk_41_1 : decode (tb_mb 41) 1 = .ok (.invokevirtual 50, 3) := by decide +kernel
theorem ck_41_1 : ∃ b, tb_cr (tb_oc 41) 50 = some (0, 42, b, 0) := ⟨_, rfl⟩
theorem dk_41_4 : decode (tb_mb 41) 4 = .ok (.iconst (0), 1) := by decide +kernel
theorem dk_41_5 : decode (tb_mb 41) 5 = .ok (.istore_n 1, 1) := by decide +kernel
theorem dk_41_6 : decode (tb_mb 41) 6 = .ok (.iload_n 1, 1) := by decide +kernel
theorem dk_41_7 : decode (tb_mb 41) 7 = .ok (.bipush (120), 2) := by decide +kernel
theorem dk_41_9 : decode (tb_mb 41) 9 = .ok (.if_icmp .gt (73), 3) := by decide +kernel
theorem dk_41_82 : decode (tb_mb 41) 82 = .ok (.iconst (1), 1) := by decide +kernel
theorem dk_41_83 : decode (tb_mb 41) 83 = .ok (.bipush (8), 2) := by decide +kernel
theorem dk_41_85 : decode (tb_mb 41) 85 = .ok (.aload_n 0, 1) := by decide +kernel
theorem dk_41_86 : decode (tb_mb 41) 86 = .ok (.getfield 37, 3) := by decide +kernel
theorem f_41_86 : ∃ b, tb_fr (tb_oc 41) 37 = some (0, 0, b) := ⟨_, rfl⟩
theorem dk_41_89 : decode (tb_mb 41) 89 = .ok (.getfield 72, 3) := by decide +kernel
theorem f_41_89 : ∃ b, tb_fr (tb_oc 41) 72 = some (5, 1, b) := ⟨_, rfl⟩
theorem dk_41_92 : decode (tb_mb 41) 92 = .ok (.imul, 1) := by decide +kernel
theorem dk_41_93 : decode (tb_mb 41) 93 = .ok (.iadd, 1) := by decide +kernel
theorem dk_41_94 : decode (tb_mb 41) 94 = .ok (.ireturn, 1) := by decide +kernel
theorem dk_41_12 : decode (tb_mb 41) 12 = .ok (.aload_n 0, 1) := by decide +kernel
theorem dk_41_13 : decode (tb_mb 41) 13 = .ok (.getfield 46, 3) := by decide +kernel
theorem f_41_13 : ∃ b, tb_fr (tb_oc 41) 46 = some (0, 1, b) := ⟨_, rfl⟩
theorem dk_41_16 : decode (tb_mb 41) 16 = .ok (.invokevirtual 53, 3) := by decide +kernel
theorem ck_41_16 : ∃ b, tb_cr (tb_oc 41) 53 = some (0, 46, b, 0) := ⟨_, rfl⟩
theorem dk_41_19 : decode (tb_mb 41) 19 = .ok (.aload_n 0, 1) := by decide +kernel
theorem dk_41_20 : decode (tb_mb 41) 20 = .ok (.aload_n 0, 1) := by decide +kernel
theorem dk_41_21 : decode (tb_mb 41) 21 = .ok (.getfield 46, 3) := by decide +kernel
theorem f_41_21 : ∃ b, tb_fr (tb_oc 41) 46 = some (0, 1, b) := ⟨_, rfl⟩
theorem dk_41_24 : decode (tb_mb 41) 24 = .ok (.getfield 56, 3) := by decide +kernel
theorem f_41_24 : ∃ b, tb_fr (tb_oc 41) 56 = some (6, 3, b) := ⟨_, rfl⟩
theorem dk_41_27 : decode (tb_mb 41) 27 = .ok (.invokevirtual 59, 3) := by decide +kernel
theorem ck_41_27 : ∃ b, tb_cr (tb_oc 41) 59 = some (0, 62, b, 1) := ⟨_, rfl⟩
theorem dk_41_30 : decode (tb_mb 41) 30 = .ok (.istore_n 2, 1) := by decide +kernel
theorem dk_41_31 : decode (tb_mb 41) 31 = .ok (.iload_n 2, 1) := by decide +kernel
theorem dk_41_32 : decode (tb_mb 41) 32 = .ok (.ifCond .eq (16), 3) := by decide +kernel
theorem dk_41_48 : decode (tb_mb 41) 48 = .ok (.aload_n 0, 1) := by decide +kernel
theorem dk_41_49 : decode (tb_mb 41) 49 = .ok (.getfield 46, 3) := by decide +kernel
theorem f_41_49 : ∃ b, tb_fr (tb_oc 41) 46 = some (0, 1, b) := ⟨_, rfl⟩
theorem dk_41_52 : decode (tb_mb 41) 52 = .ok (.getfield 56, 3) := by decide +kernel
theorem f_41_52 : ∃ b, tb_fr (tb_oc 41) 56 = some (6, 3, b) := ⟨_, rfl⟩
theorem dk_41_55 : decode (tb_mb 41) 55 = .ok (.ifCond .ne (10), 3) := by decide +kernel
theorem dk_41_65 : decode (tb_mb 41) 65 = .ok (.aload_n 0, 1) := by decide +kernel
theorem dk_41_66 : decode (tb_mb 41) 66 = .ok (.aload_n 0, 1) := by decide +kernel
theorem dk_41_67 : decode (tb_mb 41) 67 = .ok (.getfield 46, 3) := by decide +kernel
theorem f_41_67 : ∃ b, tb_fr (tb_oc 41) 46 = some (0, 1, b) := ⟨_, rfl⟩
theorem dk_41_70 : decode (tb_mb 41) 70 = .ok (.getfield 56, 3) := by decide +kernel
theorem f_41_70 : ∃ b, tb_fr (tb_oc 41) 56 = some (6, 3, b) := ⟨_, rfl⟩
theorem dk_41_73 : decode (tb_mb 41) 73 = .ok (.invokevirtual 69, 3) := by decide +kernel
theorem ck_41_73 : ∃ b, tb_cr (tb_oc 41) 69 = some (0, 76, b, 1) := ⟨_, rfl⟩
theorem dk_41_76 : decode (tb_mb 41) 76 = .ok (.iinc 1 (1), 3) := by decide +kernel
theorem dk_41_79 : decode (tb_mb 41) 79 = .ok (.goto (-73), 3) := by decide +kernel
theorem dk_41_58 : decode (tb_mb 41) 58 = .ok (.aload_n 0, 1) := by decide +kernel
theorem dk_41_59 : decode (tb_mb 41) 59 = .ok (.iconst (1), 1) := by decide +kernel
theorem dk_41_60 : decode (tb_mb 41) 60 = .ok (.invokevirtual 66, 3) := by decide +kernel
theorem ck_41_60 : ∃ b, tb_cr (tb_oc 41) 66 = some (0, 70, b, 1) := ⟨_, rfl⟩
theorem dk_41_63 : decode (tb_mb 41) 63 = .ok (.iconst (0), 1) := by decide +kernel
theorem dk_41_64 : decode (tb_mb 41) 64 = .ok (.ireturn, 1) := by decide +kernel
theorem dk_41_35 : decode (tb_mb 41) 35 = .ok (.iload_n 2, 1) := by decide +kernel
theorem dk_41_36 : decode (tb_mb 41) 36 = .ok (.bipush (8), 2) := by decide +kernel
theorem dk_41_38 : decode (tb_mb 41) 38 = .ok (.aload_n 0, 1) := by decide +kernel
theorem dk_41_39 : decode (tb_mb 41) 39 = .ok (.getfield 46, 3) := by decide +kernel
theorem f_41_39 : ∃ b, tb_fr (tb_oc 41) 46 = some (0, 1, b) := ⟨_, rfl⟩
theorem dk_41_42 : decode (tb_mb 41) 42 = .ok (.getfield 63, 3) := by decide +kernel
theorem f_41_42 : ∃ b, tb_fr (tb_oc 41) 63 = some (6, 1, b) := ⟨_, rfl⟩
theorem dk_41_45 : decode (tb_mb 41) 45 = .ok (.imul, 1) := by decide +kernel
theorem dk_41_46 : decode (tb_mb 41) 46 = .ok (.iadd, 1) := by decide +kernel
theorem dk_41_47 : decode (tb_mb 41) 47 = .ok (.ireturn, 1) := by decide +kernel
def b_41_6 : Nat → Int32 → dI → dJ → Option (Int32 × dI × dJ)
  | 0, _, _, _ => none
  | n + 1, x1, I, J => if 120 < x1 then (some ((1 + (8 * (I 1 1))), I, J)) else ((m_46 I J).bind (fun r4 => (m_62 (r4.1 18 3) r4.1 r4.2).bind (fun r6 => if r6 = 0 then (if ¬ (r4.1 18 3) = 0 then ((m_76 (r4.1 18 3) r4.1 r4.2).bind (fun r10 => (b_41_6 n) (x1 + 1) r10.1 r10.2)) else ((m_70 1 r4.1 r4.2).bind (fun r12 => some (0, r12.1, r12.2)))) else (some ((r6 + (8 * (r4.1 18 1))), r4.1, r4.2)))))
theorem p_41_6 {Q : Nat → Option Nat} {D : Nat} (hD : 6 ≤ D) : ∀ (n : Nat) (x1 : Int32) (I : dI) (J : dJ) (R : (Int32 × dI × dJ)), b_41_6 n x1 I J = some R → Rn Q D 41 6 [(0, .ref 6), (1, .int x1)] [] I J (some (.int R.1)) R.2.1 R.2.2 := by
  intro n
  induction n with
  | zero => intro x1 I J R h; exact absurd h (by simp [b_41_6])
  | succ n ih =>
    intro x1 I J R h
    replace h : (if 120 < x1 then (some ((1 + (8 * (I 1 1))), I, J)) else ((m_46 I J).bind (fun r4 => (m_62 (r4.1 18 3) r4.1 r4.2).bind (fun r6 => if r6 = 0 then (if ¬ (r4.1 18 3) = 0 then ((m_76 (r4.1 18 3) r4.1 r4.2).bind (fun r10 => (b_41_6 n) (x1 + 1) r10.1 r10.2)) else ((m_70 1 r4.1 r4.2).bind (fun r12 => some (0, r12.1, r12.2)))) else (some ((r6 + (8 * (r4.1 18 1))), r4.1, r4.2)))))) = some R := h
    refine Rn.pu (st' := [.int x1]) dk_41_6 L_41 rfl ?_
    refine Rn.bp dk_41_7 cbp_120 ?_
    by_cases c3 : 120 < x1
    · rw [if_pos c3] at h
      refine Rn.i2t (t := 82) dk_41_9 rfl (decide_eq_true c3) ?_
      refine Rn.ic dk_41_82 cic_1 ?_
      refine Rn.bp dk_41_83 cbp_8 ?_
      refine Rn.pu (st' := [.ref 6, .int 8, .int 1]) dk_41_85 L_41 rfl ?_
      refine Rn.gR (r := 1) dk_41_86 f_41_86.choose_spec sk_6 rfl ?_
      refine Rn.gI dk_41_89 f_41_89.choose_spec sk_1 rfl ?_
      refine Rn.pu (st' := [.int (8 * (I 1 1)), .int 1]) dk_41_92 L_41 rfl ?_
      refine Rn.pu (st' := [.int (1 + (8 * (I 1 1)))]) dk_41_93 L_41 rfl ?_
      cases h
      exact Rn.ri dk_41_94 R_41 rfl
    · rw [if_neg c3] at h
      refine Rn.i2f (t := 82) dk_41_9 rfl (decide_eq_false c3) ?_
      refine Rn.pu (st' := [.ref 6]) dk_41_12 L_41 rfl ?_
      refine Rn.gR (r := 18) dk_41_13 f_41_13.choose_spec sk_6 rfl ?_
      obtain ⟨r4, e5, h⟩ := bindS h
      refine Rn.cvV (p := 18) (As := []) (rest := []) dk_41_16 ck_41_16.choose_spec rfl sk_18 rfl (x_46 (Nat.le_trans (Nat.le_of_ble_eq_true rfl) hD) e5) ?_
      refine Rn.pu (st' := [.ref 6]) dk_41_19 L_41 rfl ?_
      refine Rn.pu (st' := [.ref 6, .ref 6]) dk_41_20 L_41 rfl ?_
      refine Rn.gR (r := 18) dk_41_21 f_41_21.choose_spec sk_6 rfl ?_
      refine Rn.gI dk_41_24 f_41_24.choose_spec sk_18 rfl ?_
      obtain ⟨r6, e7, h⟩ := bindS h
      refine Rn.cvI (p := 6) (As := [.int (r4.1 18 3)]) (rest := []) dk_41_27 ck_41_27.choose_spec rfl sk_6 rfl (x_62 (Nat.le_trans (Nat.le_of_ble_eq_true rfl) hD) e7) ?_
      refine Rn.pu (ls' := [(2, .int r6), (0, .ref 6), (1, .int x1)]) (st' := []) dk_41_30 L_41 rfl ?_
      refine Rn.pu (st' := [.int r6]) dk_41_31 L_41 rfl ?_
      by_cases c8 : r6 = 0
      · rw [if_pos c8] at h
        refine Rn.i1t (t := 48) dk_41_32 rfl (decide_eq_true c8) ?_
        refine Rn.pu (st' := [.ref 6]) dk_41_48 L_41 rfl ?_
        refine Rn.gR (r := 18) dk_41_49 f_41_49.choose_spec sk_6 rfl ?_
        refine Rn.gI dk_41_52 f_41_52.choose_spec sk_18 rfl ?_
        by_cases c9 : ¬ (r4.1 18 3) = 0
        · rw [if_pos c9] at h
          refine Rn.i1t (t := 65) dk_41_55 rfl (decide_eq_true c9) ?_
          refine Rn.pu (st' := [.ref 6]) dk_41_65 L_41 rfl ?_
          refine Rn.pu (st' := [.ref 6, .ref 6]) dk_41_66 L_41 rfl ?_
          refine Rn.gR (r := 18) dk_41_67 f_41_67.choose_spec sk_6 rfl ?_
          refine Rn.gI dk_41_70 f_41_70.choose_spec sk_18 rfl ?_
          obtain ⟨r10, e11, h⟩ := bindS h
          refine Rn.cvV (p := 6) (As := [.int (r4.1 18 3)]) (rest := []) dk_41_73 ck_41_73.choose_spec rfl sk_6 rfl (x_76 (Nat.le_trans (Nat.le_of_ble_eq_true rfl) hD) e11) ?_
          refine Rn.inc (ls' := [(1, .int (x1 + 1)), (2, .int r6), (0, .ref 6)]) dk_41_76 L_41 (by decide) cic_1 rfl rfl ?_
          refine Rn.gt (t := 6) dk_41_79 rfl ?_
          exact Rn.wk [2, 0] rfl (ih _ _ _ _ h)
        · rw [if_neg c9] at h
          refine Rn.i1f (t := 65) dk_41_55 rfl (decide_eq_false c9) ?_
          refine Rn.pu (st' := [.ref 6]) dk_41_58 L_41 rfl ?_
          refine Rn.ic dk_41_59 cic_1 ?_
          obtain ⟨r12, e13, h⟩ := bindS h
          refine Rn.cvV (p := 6) (As := [.int 1]) (rest := []) dk_41_60 ck_41_60.choose_spec rfl sk_6 rfl (x_70 (Nat.le_trans (Nat.le_of_ble_eq_true rfl) hD) e13) ?_
          refine Rn.ic dk_41_63 cic_0 ?_
          cases h
          exact Rn.ri dk_41_64 R_41 rfl
      · rw [if_neg c8] at h
        refine Rn.i1f (t := 48) dk_41_32 rfl (decide_eq_false c8) ?_
        refine Rn.pu (st' := [.int r6]) dk_41_35 L_41 rfl ?_
        refine Rn.bp dk_41_36 cbp_8 ?_
        refine Rn.pu (st' := [.ref 6, .int 8, .int r6]) dk_41_38 L_41 rfl ?_
        refine Rn.gR (r := 18) dk_41_39 f_41_39.choose_spec sk_6 rfl ?_
        refine Rn.gI dk_41_42 f_41_42.choose_spec sk_18 rfl ?_
        refine Rn.pu (st' := [.int (8 * (r4.1 18 1)), .int r6]) dk_41_45 L_41 rfl ?_
        refine Rn.pu (st' := [.int (r6 + (8 * (r4.1 18 1)))]) dk_41_46 L_41 rfl ?_
        cases h
        exact Rn.ri dk_41_47 R_41 rfl
def b_41_0 (I : dI) (J : dJ) : Option (Int32 × dI × dJ) := (m_42 I J).bind (fun r1 => b_41_6 FU 0 r1.1 r1.2)
theorem p_41_0 {Q : Nat → Option Nat} {D : Nat} (hD : 6 ≤ D) (I : dI) (J : dJ) (R : (Int32 × dI × dJ)) (h : b_41_0 I J = some R) : Rn Q D 41 0 [(0, .ref 6)] [] I J (some (.int R.1)) R.2.1 R.2.2 := by
  replace h : ((m_42 I J).bind (fun r1 => b_41_6 FU 0 r1.1 r1.2)) = some R := h
  refine Rn.pu (st' := [.ref 6]) dk_41_0 L_41 rfl ?_
  obtain ⟨r1, e2, h⟩ := bindS h
  refine Rn.cvV (p := 6) (As := []) (rest := []) dk_41_1 ck_41_1.choose_spec rfl sk_6 rfl (x_42 (Nat.le_trans (Nat.le_of_ble_eq_true rfl) hD) e2) ?_
  refine Rn.ic dk_41_4 cic_0 ?_
  refine Rn.pu (ls' := [(1, .int 0), (0, .ref 6)]) (st' := []) dk_41_5 L_41 rfl ?_
  exact Rn.wk [1, 0] rfl (p_41_6 hD FU _ _ _ _ h)
def m_41 (I : dI) (J : dJ) : Option (Int32 × dI × dJ) := b_41_0 I J
theorem x_41 {Q : Nat → Option Nat} {D : Nat} (hD : 7 ≤ D) {I : dI} {J : dJ} {R : (Int32 × dI × dJ)} (h : m_41 I J = some R) : Ex Q D 41 I J [.ref 6] (some (.int R.1)) R.2.1 R.2.2 := by
  obtain ⟨D, rfl⟩ : ∃ D', D = D' + 1 := ⟨D - 1, by omega⟩
  exact Ex.of (by decide) (by rw [L_41]; exact Nat.le_of_ble_eq_true rfl) (show xm_sub [(0, .ref 6)] [(0, .ref 6)] from xm_sub_of [0] [0] rfl rfl (by decide)) (p_41_0 (Nat.le_of_succ_le_succ hD) _ _ _ h)
-- ConditionDesk$Text.clear()V
theorem L_81 : tb_mL 81 = 1 := by decide +kernel
theorem R_81 : tb_mr 81 = none := by decide +kernel
theorem dk_81_0 : decode (tb_mb 81) 0 = .ok (.aload_n 0, 1) := by decide +kernel
theorem dk_81_1 : decode (tb_mb 81) 1 = .ok (.iconst (0), 1) := by decide +kernel
theorem dk_81_2 : decode (tb_mb 81) 2 = .ok (.putfield 15, 3) := by decide +kernel
theorem f_81_2 : ∃ b, tb_fr (tb_oc 81) 15 = some (5, 1, b) ∧ xm_fin tb_cl (tb_ini 81) b 5 1 = true := ⟨_, rfl, rfl⟩
theorem dk_81_5 : decode (tb_mb 81) 5 = .ok (.return_, 1) := by decide +kernel
def b_81_0 (I : dI) (J : dJ) : Option (dI × dJ) := lt_ (sI I 1 1 0) (fun I1 => some (I1, J))
theorem p_81_0 {Q : Nat → Option Nat} {D : Nat} (hD : 1 ≤ D) (I : dI) (J : dJ) (R : (dI × dJ)) (h : b_81_0 I J = some R) : Rn Q D 81 0 [(0, .ref 1)] [] I J (none) R.1 R.2 := by
  replace h : (lt_ (sI I 1 1 0) (fun I1 => some (I1, J))) = some R := h
  refine Rn.pu (st' := [.ref 1]) dk_81_0 L_81 rfl ?_
  refine Rn.ic dk_81_1 cic_0 ?_
  obtain ⟨I1, eI1, h⟩ := letS h
  refine Rn.pI dk_81_2 f_81_2.choose_spec.1 sk_1 rfl f_81_2.choose_spec.2 rfl rfl ?_
  rw [← eI1]
  cases h
  exact Rn.rv dk_81_5 R_81
def m_81 (I : dI) (J : dJ) : Option (dI × dJ) := b_81_0 I J
theorem x_81 {Q : Nat → Option Nat} {D : Nat} (hD : 2 ≤ D) {I : dI} {J : dJ} {R : (dI × dJ)} (h : m_81 I J = some R) : Ex Q D 81 I J [.ref 1] (none) R.1 R.2 := by
  obtain ⟨D, rfl⟩ : ∃ D', D = D' + 1 := ⟨D - 1, by omega⟩
  exact Ex.of (by decide) (by rw [L_81]; exact Nat.le_of_ble_eq_true rfl) (show xm_sub [(0, .ref 1)] [(0, .ref 1)] from xm_sub_of [0] [0] rfl rfl (by decide)) (p_81_0 (Nat.le_of_succ_le_succ hD) _ _ _ h)
