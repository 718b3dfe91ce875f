/-! Printed by wip/whole/gen_dec.py: methods read back. -/
-- ConditionDeskModel.askAll()I
theorem L_133 : tb_mL 133 = 3 := by decide +kernel
theorem R_133 : tb_mr 133 = some .int := by decide +kernel
theorem dk_133_0 : decode (tb_mb 133) 0 = .ok (.aload_n 0, 1) := by decide +kernel
theorem dk_133_1 : decode (tb_mb 133) 1 = .ok (.iconst (0), 1) := by decide +kernel
theorem dk_133_2 : decode (tb_mb 133) 2 = .ok (.putfield 91, 3) := by decide +kernel
theorem f_133_2 : ∃ b, tb_fr (tb_oc 133) 91 = some (9, 0, b) ∧ xm_fin tb_cl (tb_ini 133) b 9 0 = true := ⟨_, rfl, rfl⟩
theorem dk_133_5 : decode (tb_mb 133) 5 = .ok (.iconst (0), 1) := by decide +kernel
theorem dk_133_6 : decode (tb_mb 133) 6 = .ok (.istore_n 1, 1) := by decide +kernel
theorem dk_133_7 : decode (tb_mb 133) 7 = .ok (.iconst (0), 1) := by decide +kernel
theorem dk_133_8 : decode (tb_mb 133) 8 = .ok (.istore_n 2, 1) := by decide +kernel
theorem dk_133_9 : decode (tb_mb 133) 9 = .ok (.iload_n 2, 1) := by decide +kernel
theorem dk_133_10 : decode (tb_mb 133) 10 = .ok (.bipush (8), 2) := by decide +kernel
theorem dk_133_12 : decode (tb_mb 133) 12 = .ok (.if_icmp .ge (33), 3) := by decide +kernel
theorem dk_133_45 : decode (tb_mb 133) 45 = .ok (.iload_n 1, 1) := by decide +kernel
theorem dk_133_46 : decode (tb_mb 133) 46 = .ok (.ireturn, 1) := by decide +kernel
theorem dk_133_15 : decode (tb_mb 133) 15 = .ok (.aload_n 0, 1) := by decide +kernel
theorem dk_133_16 : decode (tb_mb 133) 16 = .ok (.getfield 20, 3) := by decide +kernel
theorem f_133_16 : ∃ b, tb_fr (tb_oc 133) 20 = some (9, 6, b) := ⟨_, rfl⟩
theorem dk_133_19 : decode (tb_mb 133) 19 = .ok (.iload_n 2, 1) := by decide +kernel
theorem dk_133_20 : decode (tb_mb 133) 20 = .ok (.baload, 1) := by decide +kernel
theorem dk_133_21 : decode (tb_mb 133) 21 = .ok (.ifCond .eq (18), 3) := by decide +kernel
theorem dk_133_39 : decode (tb_mb 133) 39 = .ok (.iinc 2 (1), 3) := by decide +kernel
theorem dk_133_42 : decode (tb_mb 133) 42 = .ok (.goto (-33), 3) := by decide +kernel
theorem dk_133_24 : decode (tb_mb 133) 24 = .ok (.aload_n 0, 1) := by decide +kernel
theorem dk_133_25 : decode (tb_mb 133) 25 = .ok (.iload_n 2, 1) := by decide +kernel
theorem dk_133_26 : decode (tb_mb 133) 26 = .ok (.invokevirtual 270, 3) := by decide +kernel
theorem ck_133_26 : ∃ b, tb_cr (tb_oc 133) 270 = some (0, 119, b, 1) := ⟨_, rfl⟩
theorem dk_133_29 : decode (tb_mb 133) 29 = .ok (.iconst (1), 1) := by decide +kernel
theorem dk_133_30 : decode (tb_mb 133) 30 = .ok (.if_icmp .ne (9), 3) := by decide +kernel
theorem dk_133_33 : decode (tb_mb 133) 33 = .ok (.iload_n 1, 1) := by decide +kernel
theorem dk_133_34 : decode (tb_mb 133) 34 = .ok (.iconst (1), 1) := by decide +kernel
theorem dk_133_35 : decode (tb_mb 133) 35 = .ok (.iload_n 2, 1) := by decide +kernel
theorem dk_133_36 : decode (tb_mb 133) 36 = .ok (.ishl, 1) := by decide +kernel
theorem dk_133_37 : decode (tb_mb 133) 37 = .ok (.ior, 1) := by decide +kernel
theorem dk_133_38 : decode (tb_mb 133) 38 = .ok (.istore_n 1, 1) := by decide +kernel
def b_133_39 (h9 : Int32 → Int32 → dI → dJ → Option (Int32 × dI × dJ)) (x1 : Int32) (x2 : Int32) (I : dI) (J : dJ) : Option (Int32 × dI × dJ) := h9 x1 (x2 + 1) I J
theorem p_133_39 {Q : Nat → Option Nat} {D : Nat} (hD : 7 ≤ D) {h9 : Int32 → Int32 → dI → dJ → Option (Int32 × dI × dJ)} (H9 : ∀ (x1 : Int32) (x2 : Int32) (I : dI) (J : dJ) (R : (Int32 × dI × dJ)), h9 x1 x2 I J = some R → Rn Q D 133 9 [(0, .ref 92), (1, .int x1), (2, .int x2)] [] I J (some (.int R.1)) R.2.1 R.2.2) (x1 : Int32) (x2 : Int32) (I : dI) (J : dJ) (R : (Int32 × dI × dJ)) (h : b_133_39 h9 x1 x2 I J = some R) : Rn Q D 133 39 [(0, .ref 92), (1, .int x1), (2, .int x2)] [] I J (some (.int R.1)) R.2.1 R.2.2 := by
  replace h : (h9 x1 (x2 + 1) I J) = some R := h
  refine Rn.inc (ls' := [(2, .int (x2 + 1)), (0, .ref 92), (1, .int x1)]) dk_133_39 L_133 (by decide) cic_1 rfl rfl ?_
  refine Rn.gt (t := 9) dk_133_42 rfl ?_
  exact Rn.wk [1, 2, 0] rfl (H9 _ _ _ _ _ h)
def b_133_9 : Nat → Int32 → Int32 → dI → dJ → Option (Int32 × dI × dJ)
  | 0, _, _, _, _ => none
  | n + 1, x1, x2, I, J => if 8 ≤ x2 then (some (x1, I, J)) else (if ¬ (x2 < 0 ∨ 8 ≤ Int32.toNatClampNeg x2) then (if (I 96 (Int32.toNatClampNeg x2)) = 0 then (b_133_39 (b_133_9 n) x1 x2 I J) else ((m_119 x2 I J).bind (fun r5 => if ¬ r5.1 = 1 then (b_133_39 (b_133_9 n) x1 x2 r5.2.1 r5.2.2) else (b_133_39 (b_133_9 n) (x1 ||| (1 <<< (x2 &&& 31))) x2 r5.2.1 r5.2.2)))) else none)
theorem p_133_9 {Q : Nat → Option Nat} {D : Nat} (hD : 7 ≤ D) : ∀ (n : Nat) (x1 : Int32) (x2 : Int32) (I : dI) (J : dJ) (R : (Int32 × dI × dJ)), b_133_9 n x1 x2 I J = some R → Rn Q D 133 9 [(0, .ref 92), (1, .int x1), (2, .int x2)] [] I J (some (.int R.1)) R.2.1 R.2.2 := by
  intro n
  induction n with
  | zero => intro x1 x2 I J R h; exact absurd h (by simp [b_133_9])
  | succ n ih =>
    intro x1 x2 I J R h
    replace h : (if 8 ≤ x2 then (some (x1, I, J)) else (if ¬ (x2 < 0 ∨ 8 ≤ Int32.toNatClampNeg x2) then (if (I 96 (Int32.toNatClampNeg x2)) = 0 then (b_133_39 (b_133_9 n) x1 x2 I J) else ((m_119 x2 I J).bind (fun r5 => if ¬ r5.1 = 1 then (b_133_39 (b_133_9 n) x1 x2 r5.2.1 r5.2.2) else (b_133_39 (b_133_9 n) (x1 ||| (1 <<< (x2 &&& 31))) x2 r5.2.1 r5.2.2)))) else none)) = some R := h
    refine Rn.pu (st' := [.int x2]) dk_133_9 L_133 rfl ?_
    refine Rn.bp dk_133_10 cbp_8 ?_
    by_cases c2 : 8 ≤ x2
    · rw [if_pos c2] at h
      refine Rn.i2t (t := 45) dk_133_12 rfl (decide_eq_true c2) ?_
      refine Rn.pu (st' := [.int x1]) dk_133_45 L_133 rfl ?_
      cases h
      exact Rn.ri dk_133_46 R_133 rfl
    · rw [if_neg c2] at h
      refine Rn.i2f (t := 45) dk_133_12 rfl (decide_eq_false c2) ?_
      refine Rn.pu (st' := [.ref 92]) dk_133_15 L_133 rfl ?_
      refine Rn.gR (r := 96) dk_133_16 f_133_16.choose_spec sk_92 rfl ?_
      refine Rn.pu (st' := [.int x2, .ref 96]) dk_133_19 L_133 rfl ?_
      obtain ⟨c3, h⟩ := xm_if h
      refine Rn.bald dk_133_20 sk_96 c3 ?_
      by_cases c4 : (I 96 (Int32.toNatClampNeg x2)) = 0
      · rw [if_pos c4] at h
        refine Rn.i1t (t := 39) dk_133_21 rfl (decide_eq_true c4) ?_
        exact Rn.wk [0, 1, 2] rfl (p_133_39 hD ih _ _ _ _ _ h)
      · rw [if_neg c4] at h
        refine Rn.i1f (t := 39) dk_133_21 rfl (decide_eq_false c4) ?_
        refine Rn.pu (st' := [.ref 92]) dk_133_24 L_133 rfl ?_
        refine Rn.pu (st' := [.int x2, .ref 92]) dk_133_25 L_133 rfl ?_
        obtain ⟨r5, e6, h⟩ := bindS h
        refine Rn.cvI (p := 92) (As := [.int x2]) (rest := []) dk_133_26 ck_133_26.choose_spec rfl sk_92 rfl (x_119 (Nat.le_trans (Nat.le_of_ble_eq_true rfl) hD) e6) ?_
        refine Rn.ic dk_133_29 cic_1 ?_
        by_cases c7 : ¬ r5.1 = 1
        · rw [if_pos c7] at h
          refine Rn.i2t (t := 39) dk_133_30 rfl (decide_eq_true c7) ?_
          exact Rn.wk [0, 1, 2] rfl (p_133_39 hD ih _ _ _ _ _ h)
        · rw [if_neg c7] at h
          refine Rn.i2f (t := 39) dk_133_30 rfl (decide_eq_false c7) ?_
          refine Rn.pu (st' := [.int x1]) dk_133_33 L_133 rfl ?_
          refine Rn.ic dk_133_34 cic_1 ?_
          refine Rn.pu (st' := [.int x2, .int 1, .int x1]) dk_133_35 L_133 rfl ?_
          refine Rn.pu (st' := [.int (1 <<< (x2 &&& 31)), .int x1]) dk_133_36 L_133 rfl ?_
          refine Rn.pu (st' := [.int (x1 ||| (1 <<< (x2 &&& 31)))]) dk_133_37 L_133 rfl ?_
          refine Rn.pu (ls' := [(1, .int (x1 ||| (1 <<< (x2 &&& 31)))), (0, .ref 92), (2, .int x2)]) (st' := []) dk_133_38 L_133 rfl ?_
          exact Rn.wk [1, 0, 2] rfl (p_133_39 hD ih _ _ _ _ _ h)
def b_133_0 (I : dI) (J : dJ) : Option (Int32 × dI × dJ) := lt_ (sI I 92 0 0) (fun I1 => b_133_9 FU 0 0 I1 J)
theorem p_133_0 {Q : Nat → Option Nat} {D : Nat} (hD : 7 ≤ D) (I : dI) (J : dJ) (R : (Int32 × dI × dJ)) (h : b_133_0 I J = some R) : Rn Q D 133 0 [(0, .ref 92)] [] I J (some (.int R.1)) R.2.1 R.2.2 := by
  replace h : (lt_ (sI I 92 0 0) (fun I1 => b_133_9 FU 0 0 I1 J)) = some R := h
  refine Rn.pu (st' := [.ref 92]) dk_133_0 L_133 rfl ?_
  refine Rn.ic dk_133_1 cic_0 ?_
  obtain ⟨I1, eI1, h⟩ := letS h
  refine Rn.pI dk_133_2 f_133_2.choose_spec.1 sk_92 rfl f_133_2.choose_spec.2 rfl rfl ?_
  rw [← eI1]
  refine Rn.ic dk_133_5 cic_0 ?_
  refine Rn.pu (ls' := [(1, .int 0), (0, .ref 92)]) (st' := []) dk_133_6 L_133 rfl ?_
  refine Rn.ic dk_133_7 cic_0 ?_
  refine Rn.pu (ls' := [(2, .int 0), (1, .int 0), (0, .ref 92)]) (st' := []) dk_133_8 L_133 rfl ?_
  exact Rn.wk [2, 1, 0] rfl (p_133_9 hD FU _ _ _ _ _ h)
def m_133 (I : dI) (J : dJ) : Option (Int32 × dI × dJ) := b_133_0 I J
theorem x_133 {Q : Nat → Option Nat} {D : Nat} (hD : 8 ≤ D) {I : dI} {J : dJ} {R : (Int32 × dI × dJ)} (h : m_133 I J = some R) : Ex Q D 133 I J [.ref 92] (some (.int R.1)) R.2.1 R.2.2 := by
  obtain ⟨D, rfl⟩ : ∃ D', D = D' + 1 := ⟨D - 1, by omega⟩
  exact Ex.of (by decide) (by rw [L_133]; exact Nat.le_of_ble_eq_true rfl) (show xm_sub [(0, .ref 92)] [(0, .ref 92)] from xm_sub_of [0] [0] rfl rfl (by decide)) (p_133_0 (Nat.le_of_succ_le_succ hD) _ _ _ h)
-- ConditionDeskModel.about(II)J
theorem L_134 : tb_mL 134 = 3 := by decide +kernel
theorem R_134 : tb_mr 134 = some .long := by decide +kernel
theorem dk_134_0 : decode (tb_mb 134) 0 = .ok (.aload_n 0, 1) := by decide +kernel
theorem dk_134_1 : decode (tb_mb 134) 1 = .ok (.iload_n 1, 1) := by decide +kernel
theorem dk_134_2 : decode (tb_mb 134) 2 = .ok (.i2l, 1) := by decide +kernel
theorem dk_134_3 : decode (tb_mb 134) 3 = .ok (.lconst 0, 1) := by decide +kernel
theorem dk_134_4 : decode (tb_mb 134) 4 = .ok (.ldc2_w 182, 3) := by decide +kernel
theorem kl_134_4 : tb_kl (tb_oc 134) 182 = some (7) := by decide +kernel
theorem dk_134_7 : decode (tb_mb 134) 7 = .ok (.invokestatic 184, 3) := by decide +kernel
theorem ck_134_7 : ∃ b, tb_cr (tb_oc 134) 184 = some (1, 98, b, 3) := ⟨_, rfl⟩
theorem dk_134_10 : decode (tb_mb 134) 10 = .ok (.ifCond .eq (15), 3) := by decide +kernel
theorem dk_134_25 : decode (tb_mb 134) 25 = .ok (.iconst (1), 1) := by decide +kernel
theorem dk_134_26 : decode (tb_mb 134) 26 = .ok (.goto (4), 3) := by decide +kernel
theorem dk_134_30 : decode (tb_mb 134) 30 = .ok (.iload_n 1, 1) := by decide +kernel
theorem dk_134_31 : decode (tb_mb 134) 31 = .ok (.i2l, 1) := by decide +kernel
theorem dk_134_32 : decode (tb_mb 134) 32 = .ok (.lconst 0, 1) := by decide +kernel
theorem dk_134_33 : decode (tb_mb 134) 33 = .ok (.ldc2_w 182, 3) := by decide +kernel
theorem kl_134_33 : tb_kl (tb_oc 134) 182 = some (7) := by decide +kernel
theorem dk_134_36 : decode (tb_mb 134) 36 = .ok (.invokestatic 184, 3) := by decide +kernel
theorem ck_134_36 : ∃ b, tb_cr (tb_oc 134) 184 = some (1, 98, b, 3) := ⟨_, rfl⟩
theorem dk_134_39 : decode (tb_mb 134) 39 = .ok (.ifCond .eq (19), 3) := by decide +kernel
theorem dk_134_58 : decode (tb_mb 134) 58 = .ok (.iconst (0), 1) := by decide +kernel
theorem dk_134_59 : decode (tb_mb 134) 59 = .ok (.invokevirtual 188, 3) := by decide +kernel
theorem ck_134_59 : ∃ b, tb_cr (tb_oc 134) 188 = some (0, 99, b, 2) := ⟨_, rfl⟩
theorem dk_134_62 : decode (tb_mb 134) 62 = .ok (.ifCond .eq (5), 3) := by decide +kernel
theorem dk_134_67 : decode (tb_mb 134) 67 = .ok (.iload_n 2, 1) := by decide +kernel
theorem dk_134_68 : decode (tb_mb 134) 68 = .ok (.tableswitch (74) 0 4 #[36, 43, 50, 58, 66], 36) := by decide +kernel
theorem dk_134_104 : decode (tb_mb 134) 104 = .ok (.aload_n 0, 1) := by decide +kernel
theorem dk_134_105 : decode (tb_mb 134) 105 = .ok (.getfield 42, 3) := by decide +kernel
theorem f_134_105 : ∃ b, tb_fr (tb_oc 134) 42 = some (9, 13, b) := ⟨_, rfl⟩
theorem dk_134_108 : decode (tb_mb 134) 108 = .ok (.iload_n 1, 1) := by decide +kernel
theorem dk_134_109 : decode (tb_mb 134) 109 = .ok (.laload, 1) := by decide +kernel
theorem dk_134_110 : decode (tb_mb 134) 110 = .ok (.lreturn, 1) := by decide +kernel
theorem dk_134_111 : decode (tb_mb 134) 111 = .ok (.aload_n 0, 1) := by decide +kernel
theorem dk_134_112 : decode (tb_mb 134) 112 = .ok (.getfield 46, 3) := by decide +kernel
theorem f_134_112 : ∃ b, tb_fr (tb_oc 134) 46 = some (9, 14, b) := ⟨_, rfl⟩
theorem dk_134_115 : decode (tb_mb 134) 115 = .ok (.iload_n 1, 1) := by decide +kernel
theorem dk_134_116 : decode (tb_mb 134) 116 = .ok (.laload, 1) := by decide +kernel
theorem dk_134_117 : decode (tb_mb 134) 117 = .ok (.lreturn, 1) := by decide +kernel
theorem dk_134_118 : decode (tb_mb 134) 118 = .ok (.aload_n 0, 1) := by decide +kernel
theorem dk_134_119 : decode (tb_mb 134) 119 = .ok (.getfield 33, 3) := by decide +kernel
theorem f_134_119 : ∃ b, tb_fr (tb_oc 134) 33 = some (9, 10, b) := ⟨_, rfl⟩
theorem dk_134_122 : decode (tb_mb 134) 122 = .ok (.iload_n 1, 1) := by decide +kernel
theorem dk_134_123 : decode (tb_mb 134) 123 = .ok (.iaload, 1) := by decide +kernel
theorem dk_134_124 : decode (tb_mb 134) 124 = .ok (.i2l, 1) := by decide +kernel
theorem dk_134_125 : decode (tb_mb 134) 125 = .ok (.lreturn, 1) := by decide +kernel
theorem dk_134_126 : decode (tb_mb 134) 126 = .ok (.aload_n 0, 1) := by decide +kernel
theorem dk_134_127 : decode (tb_mb 134) 127 = .ok (.getfield 39, 3) := by decide +kernel
theorem f_134_127 : ∃ b, tb_fr (tb_oc 134) 39 = some (9, 12, b) := ⟨_, rfl⟩
theorem dk_134_130 : decode (tb_mb 134) 130 = .ok (.iload_n 1, 1) := by decide +kernel
theorem dk_134_131 : decode (tb_mb 134) 131 = .ok (.iaload, 1) := by decide +kernel
theorem dk_134_132 : decode (tb_mb 134) 132 = .ok (.i2l, 1) := by decide +kernel
theorem dk_134_133 : decode (tb_mb 134) 133 = .ok (.lreturn, 1) := by decide +kernel
theorem dk_134_134 : decode (tb_mb 134) 134 = .ok (.aload_n 0, 1) := by decide +kernel
theorem dk_134_135 : decode (tb_mb 134) 135 = .ok (.getfield 30, 3) := by decide +kernel
theorem f_134_135 : ∃ b, tb_fr (tb_oc 134) 30 = some (9, 9, b) := ⟨_, rfl⟩
theorem dk_134_138 : decode (tb_mb 134) 138 = .ok (.iload_n 1, 1) := by decide +kernel
theorem dk_134_139 : decode (tb_mb 134) 139 = .ok (.iaload, 1) := by decide +kernel
theorem dk_134_140 : decode (tb_mb 134) 140 = .ok (.i2l, 1) := by decide +kernel
theorem dk_134_141 : decode (tb_mb 134) 141 = .ok (.lreturn, 1) := by decide +kernel
theorem dk_134_142 : decode (tb_mb 134) 142 = .ok (.aload_n 0, 1) := by decide +kernel
theorem dk_134_143 : decode (tb_mb 134) 143 = .ok (.getfield 36, 3) := by decide +kernel
theorem f_134_143 : ∃ b, tb_fr (tb_oc 134) 36 = some (9, 11, b) := ⟨_, rfl⟩
theorem dk_134_146 : decode (tb_mb 134) 146 = .ok (.iload_n 1, 1) := by decide +kernel
theorem dk_134_147 : decode (tb_mb 134) 147 = .ok (.iaload, 1) := by decide +kernel
theorem dk_134_148 : decode (tb_mb 134) 148 = .ok (.i2l, 1) := by decide +kernel
theorem dk_134_149 : decode (tb_mb 134) 149 = .ok (.lreturn, 1) := by decide +kernel
theorem dk_134_65 : decode (tb_mb 134) 65 = .ok (.lconst 0, 1) := by decide +kernel
theorem dk_134_66 : decode (tb_mb 134) 66 = .ok (.lreturn, 1) := by decide +kernel
theorem dk_134_42 : decode (tb_mb 134) 42 = .ok (.aload_n 0, 1) := by decide +kernel
theorem dk_134_43 : decode (tb_mb 134) 43 = .ok (.getfield 20, 3) := by decide +kernel
theorem f_134_43 : ∃ b, tb_fr (tb_oc 134) 20 = some (9, 6, b) := ⟨_, rfl⟩
theorem dk_134_46 : decode (tb_mb 134) 46 = .ok (.iload_n 1, 1) := by decide +kernel
theorem dk_134_47 : decode (tb_mb 134) 47 = .ok (.bipush (7), 2) := by decide +kernel
theorem dk_134_49 : decode (tb_mb 134) 49 = .ok (.iand, 1) := by decide +kernel
theorem dk_134_50 : decode (tb_mb 134) 50 = .ok (.baload, 1) := by decide +kernel
theorem dk_134_51 : decode (tb_mb 134) 51 = .ok (.ifCond .ne (7), 3) := by decide +kernel
theorem dk_134_54 : decode (tb_mb 134) 54 = .ok (.iconst (1), 1) := by decide +kernel
theorem dk_134_55 : decode (tb_mb 134) 55 = .ok (.goto (4), 3) := by decide +kernel
theorem dk_134_13 : decode (tb_mb 134) 13 = .ok (.iload_n 2, 1) := by decide +kernel
theorem dk_134_14 : decode (tb_mb 134) 14 = .ok (.i2l, 1) := by decide +kernel
theorem dk_134_15 : decode (tb_mb 134) 15 = .ok (.lconst 0, 1) := by decide +kernel
theorem dk_134_16 : decode (tb_mb 134) 16 = .ok (.ldc2_w 273, 3) := by decide +kernel
theorem kl_134_16 : tb_kl (tb_oc 134) 273 = some (5) := by decide +kernel
theorem dk_134_19 : decode (tb_mb 134) 19 = .ok (.invokestatic 184, 3) := by decide +kernel
theorem ck_134_19 : ∃ b, tb_cr (tb_oc 134) 184 = some (1, 98, b, 3) := ⟨_, rfl⟩
theorem dk_134_22 : decode (tb_mb 134) 22 = .ok (.ifCond .ne (7), 3) := by decide +kernel
theorem dk_134_29 : decode (tb_mb 134) 29 = .ok (.iconst (0), 1) := by decide +kernel
def b_134_59 (x1 : Int32) (x2 : Int32) (s0 : Int32) (s1 : Int32) (I : dI) (J : dJ) : Option (Int64 × dI × dJ) := (m_99 s1 s0 I J).bind (fun r7 => if r7.1 = 0 then (if x2 = 0 then (if ¬ (x1 < 0 ∨ 8 ≤ Int32.toNatClampNeg x1) then (some ((r7.2.2 103 (Int32.toNatClampNeg x1)), r7.2.1, r7.2.2)) else none) else if x2 = 1 then (if ¬ (x1 < 0 ∨ 8 ≤ Int32.toNatClampNeg x1) then (some ((r7.2.2 104 (Int32.toNatClampNeg x1)), r7.2.1, r7.2.2)) else none) else if x2 = 2 then (if ¬ (x1 < 0 ∨ 8 ≤ Int32.toNatClampNeg x1) then (some ((Int32.toInt64 (r7.2.1 100 (Int32.toNatClampNeg x1))), r7.2.1, r7.2.2)) else none) else if x2 = 3 then (if ¬ (x1 < 0 ∨ 8 ≤ Int32.toNatClampNeg x1) then (some ((Int32.toInt64 (r7.2.1 102 (Int32.toNatClampNeg x1))), r7.2.1, r7.2.2)) else none) else if x2 = 4 then (if ¬ (x1 < 0 ∨ 8 ≤ Int32.toNatClampNeg x1) then (some ((Int32.toInt64 (r7.2.1 99 (Int32.toNatClampNeg x1))), r7.2.1, r7.2.2)) else none) else (if ¬ (x1 < 0 ∨ 8 ≤ Int32.toNatClampNeg x1) then (some ((Int32.toInt64 (r7.2.1 101 (Int32.toNatClampNeg x1))), r7.2.1, r7.2.2)) else none)) else (some (0, r7.2.1, r7.2.2)))
theorem p_134_59 {Q : Nat → Option Nat} {D : Nat} (hD : 2 ≤ D) (x1 : Int32) (x2 : Int32) (s0 : Int32) (s1 : Int32) (I : dI) (J : dJ) (R : (Int64 × dI × dJ)) (h : b_134_59 x1 x2 s0 s1 I J = some R) : Rn Q D 134 59 [(0, .ref 92), (1, .int x1), (2, .int x2)] [.int s0, .int s1, .ref 92] I J (some (.long R.1)) R.2.1 R.2.2 := by
  replace h : ((m_99 s1 s0 I J).bind (fun r7 => if r7.1 = 0 then (if x2 = 0 then (if ¬ (x1 < 0 ∨ 8 ≤ Int32.toNatClampNeg x1) then (some ((r7.2.2 103 (Int32.toNatClampNeg x1)), r7.2.1, r7.2.2)) else none) else if x2 = 1 then (if ¬ (x1 < 0 ∨ 8 ≤ Int32.toNatClampNeg x1) then (some ((r7.2.2 104 (Int32.toNatClampNeg x1)), r7.2.1, r7.2.2)) else none) else if x2 = 2 then (if ¬ (x1 < 0 ∨ 8 ≤ Int32.toNatClampNeg x1) then (some ((Int32.toInt64 (r7.2.1 100 (Int32.toNatClampNeg x1))), r7.2.1, r7.2.2)) else none) else if x2 = 3 then (if ¬ (x1 < 0 ∨ 8 ≤ Int32.toNatClampNeg x1) then (some ((Int32.toInt64 (r7.2.1 102 (Int32.toNatClampNeg x1))), r7.2.1, r7.2.2)) else none) else if x2 = 4 then (if ¬ (x1 < 0 ∨ 8 ≤ Int32.toNatClampNeg x1) then (some ((Int32.toInt64 (r7.2.1 99 (Int32.toNatClampNeg x1))), r7.2.1, r7.2.2)) else none) else (if ¬ (x1 < 0 ∨ 8 ≤ Int32.toNatClampNeg x1) then (some ((Int32.toInt64 (r7.2.1 101 (Int32.toNatClampNeg x1))), r7.2.1, r7.2.2)) else none)) else (some (0, r7.2.1, r7.2.2)))) = some R := h
  obtain ⟨r7, e8, h⟩ := bindS h
  refine Rn.cvI (p := 92) (As := [.int s1, .int s0]) (rest := []) dk_134_59 ck_134_59.choose_spec rfl sk_92 rfl (x_99 (Nat.le_trans (Nat.le_of_ble_eq_true rfl) hD) e8) ?_
  by_cases c9 : r7.1 = 0
  · rw [if_pos c9] at h
    refine Rn.i1t (t := 67) dk_134_62 rfl (decide_eq_true c9) ?_
    refine Rn.pu (st' := [.int x2]) dk_134_67 L_134 rfl ?_
    by_cases c10 : x2 = 0
    · rw [if_pos c10] at h
      refine Rn.sw (t := 104) (st' := []) dk_134_68 (fun _ _ => rfl) (by rw [c10]; rfl) ?_
      refine Rn.pu (st' := [.ref 92]) dk_134_104 L_134 rfl ?_
      refine Rn.gR (r := 103) dk_134_105 f_134_105.choose_spec sk_92 rfl ?_
      refine Rn.pu (st' := [.int x1, .ref 103]) dk_134_108 L_134 rfl ?_
      obtain ⟨c11, h⟩ := xm_if h
      refine Rn.lald dk_134_109 sk_103 c11 ?_
      cases h
      exact Rn.rl dk_134_110 R_134
    · rw [if_neg c10] at h
      by_cases c12 : x2 = 1
      · rw [if_pos c12] at h
        refine Rn.sw (t := 111) (st' := []) dk_134_68 (fun _ _ => rfl) (by rw [c12]; rfl) ?_
        refine Rn.pu (st' := [.ref 92]) dk_134_111 L_134 rfl ?_
        refine Rn.gR (r := 104) dk_134_112 f_134_112.choose_spec sk_92 rfl ?_
        refine Rn.pu (st' := [.int x1, .ref 104]) dk_134_115 L_134 rfl ?_
        obtain ⟨c13, h⟩ := xm_if h
        refine Rn.lald dk_134_116 sk_104 c13 ?_
        cases h
        exact Rn.rl dk_134_117 R_134
      · rw [if_neg c12] at h
        by_cases c14 : x2 = 2
        · rw [if_pos c14] at h
          refine Rn.sw (t := 118) (st' := []) dk_134_68 (fun _ _ => rfl) (by rw [c14]; rfl) ?_
          refine Rn.pu (st' := [.ref 92]) dk_134_118 L_134 rfl ?_
          refine Rn.gR (r := 100) dk_134_119 f_134_119.choose_spec sk_92 rfl ?_
          refine Rn.pu (st' := [.int x1, .ref 100]) dk_134_122 L_134 rfl ?_
          obtain ⟨c15, h⟩ := xm_if h
          refine Rn.iald dk_134_123 sk_100 c15 ?_
          refine Rn.pu (st' := [.long (Int32.toInt64 (r7.2.1 100 (Int32.toNatClampNeg x1)))]) dk_134_124 L_134 rfl ?_
          cases h
          exact Rn.rl dk_134_125 R_134
        · rw [if_neg c14] at h
          by_cases c16 : x2 = 3
          · rw [if_pos c16] at h
            refine Rn.sw (t := 126) (st' := []) dk_134_68 (fun _ _ => rfl) (by rw [c16]; rfl) ?_
            refine Rn.pu (st' := [.ref 92]) dk_134_126 L_134 rfl ?_
            refine Rn.gR (r := 102) dk_134_127 f_134_127.choose_spec sk_92 rfl ?_
            refine Rn.pu (st' := [.int x1, .ref 102]) dk_134_130 L_134 rfl ?_
            obtain ⟨c17, h⟩ := xm_if h
            refine Rn.iald dk_134_131 sk_102 c17 ?_
            refine Rn.pu (st' := [.long (Int32.toInt64 (r7.2.1 102 (Int32.toNatClampNeg x1)))]) dk_134_132 L_134 rfl ?_
            cases h
            exact Rn.rl dk_134_133 R_134
          · rw [if_neg c16] at h
            by_cases c18 : x2 = 4
            · rw [if_pos c18] at h
              refine Rn.sw (t := 134) (st' := []) dk_134_68 (fun _ _ => rfl) (by rw [c18]; rfl) ?_
              refine Rn.pu (st' := [.ref 92]) dk_134_134 L_134 rfl ?_
              refine Rn.gR (r := 99) dk_134_135 f_134_135.choose_spec sk_92 rfl ?_
              refine Rn.pu (st' := [.int x1, .ref 99]) dk_134_138 L_134 rfl ?_
              obtain ⟨c19, h⟩ := xm_if h
              refine Rn.iald dk_134_139 sk_99 c19 ?_
              refine Rn.pu (st' := [.long (Int32.toInt64 (r7.2.1 99 (Int32.toNatClampNeg x1)))]) dk_134_140 L_134 rfl ?_
              cases h
              exact Rn.rl dk_134_141 R_134
            · rw [if_neg c18] at h
              have q0 : xm_br (.tableswitch (74) 0 4 #[36, 43, 50, 58, 66]) 36 68 (.int x2 :: []) = some (true, 142, []) := by
                have q1 := i_ne c10 (z := 0) rfl
                have q2 := i_ne c12 (z := 1) rfl
                have q3 := i_ne c14 (z := 2) rfl
                have q4 := i_ne c16 (z := 3) rfl
                have q5 := i_ne c18 (z := 4) rfl
                exact ts_def (by omega) rfl
              refine Rn.sw dk_134_68 (fun _ _ => rfl) q0 ?_
              refine Rn.pu (st' := [.ref 92]) dk_134_142 L_134 rfl ?_
              refine Rn.gR (r := 101) dk_134_143 f_134_143.choose_spec sk_92 rfl ?_
              refine Rn.pu (st' := [.int x1, .ref 101]) dk_134_146 L_134 rfl ?_
              obtain ⟨c20, h⟩ := xm_if h
              refine Rn.iald dk_134_147 sk_101 c20 ?_
              refine Rn.pu (st' := [.long (Int32.toInt64 (r7.2.1 101 (Int32.toNatClampNeg x1)))]) dk_134_148 L_134 rfl ?_
              cases h
              exact Rn.rl dk_134_149 R_134
  · rw [if_neg c9] at h
    refine Rn.i1f (t := 67) dk_134_62 rfl (decide_eq_false c9) ?_
    refine Rn.lc dk_134_65 clc_0 ?_
    cases h
    exact Rn.rl dk_134_66 R_134
def b_134_58 (x1 : Int32) (x2 : Int32) (s0 : Int32) (I : dI) (J : dJ) : Option (Int64 × dI × dJ) := b_134_59 x1 x2 0 s0 I J
theorem p_134_58 {Q : Nat → Option Nat} {D : Nat} (hD : 2 ≤ D) (x1 : Int32) (x2 : Int32) (s0 : Int32) (I : dI) (J : dJ) (R : (Int64 × dI × dJ)) (h : b_134_58 x1 x2 s0 I J = some R) : Rn Q D 134 58 [(0, .ref 92), (1, .int x1), (2, .int x2)] [.int s0, .ref 92] I J (some (.long R.1)) R.2.1 R.2.2 := by
  replace h : (b_134_59 x1 x2 0 s0 I J) = some R := h
  refine Rn.ic dk_134_58 cic_0 ?_
  exact Rn.wk [0, 1, 2] rfl (p_134_59 hD _ _ _ _ _ _ _ h)
def b_134_30 (x1 : Int32) (x2 : Int32) (s0 : Int32) (I : dI) (J : dJ) : Option (Int64 × dI × dJ) := (m_98 (Int32.toInt64 x1) 0 7 I J).bind (fun r4 => if r4 = 0 then (b_134_58 x1 x2 s0 I J) else (if ¬ ((x1 &&& 7) < 0 ∨ 8 ≤ Int32.toNatClampNeg (x1 &&& 7)) then (if ¬ (I 96 (Int32.toNatClampNeg (x1 &&& 7))) = 0 then (b_134_58 x1 x2 s0 I J) else (b_134_59 x1 x2 1 s0 I J)) else none))
theorem p_134_30 {Q : Nat → Option Nat} {D : Nat} (hD : 2 ≤ D) (x1 : Int32) (x2 : Int32) (s0 : Int32) (I : dI) (J : dJ) (R : (Int64 × dI × dJ)) (h : b_134_30 x1 x2 s0 I J = some R) : Rn Q D 134 30 [(0, .ref 92), (1, .int x1), (2, .int x2)] [.int s0, .ref 92] I J (some (.long R.1)) R.2.1 R.2.2 := by
  replace h : ((m_98 (Int32.toInt64 x1) 0 7 I J).bind (fun r4 => if r4 = 0 then (b_134_58 x1 x2 s0 I J) else (if ¬ ((x1 &&& 7) < 0 ∨ 8 ≤ Int32.toNatClampNeg (x1 &&& 7)) then (if ¬ (I 96 (Int32.toNatClampNeg (x1 &&& 7))) = 0 then (b_134_58 x1 x2 s0 I J) else (b_134_59 x1 x2 1 s0 I J)) else none))) = some R := h
  refine Rn.pu (st' := [.int x1, .int s0, .ref 92]) dk_134_30 L_134 rfl ?_
  refine Rn.pu (st' := [.long (Int32.toInt64 x1), .int s0, .ref 92]) dk_134_31 L_134 rfl ?_
  refine Rn.lc dk_134_32 clc_0 ?_
  refine Rn.ldl dk_134_33 kl_134_33 ?_
  obtain ⟨r4, e5, h⟩ := bindS h
  refine Rn.csI (As := [.long (Int32.toInt64 x1), .long 0, .long 7]) (rest := [.int s0, .ref 92]) dk_134_36 ck_134_36.choose_spec rfl (x_98 (Nat.le_trans (Nat.le_of_ble_eq_true rfl) hD) e5) ?_
  by_cases c6 : r4 = 0
  · rw [if_pos c6] at h
    refine Rn.i1t (t := 58) dk_134_39 rfl (decide_eq_true c6) ?_
    exact Rn.wk [0, 1, 2] rfl (p_134_58 hD _ _ _ _ _ _ h)
  · rw [if_neg c6] at h
    refine Rn.i1f (t := 58) dk_134_39 rfl (decide_eq_false c6) ?_
    refine Rn.pu (st' := [.ref 92, .int s0, .ref 92]) dk_134_42 L_134 rfl ?_
    refine Rn.gR (r := 96) dk_134_43 f_134_43.choose_spec sk_92 rfl ?_
    refine Rn.pu (st' := [.int x1, .ref 96, .int s0, .ref 92]) dk_134_46 L_134 rfl ?_
    refine Rn.bp dk_134_47 cbp_7 ?_
    refine Rn.pu (st' := [.int (x1 &&& 7), .ref 96, .int s0, .ref 92]) dk_134_49 L_134 rfl ?_
    obtain ⟨c7, h⟩ := xm_if h
    refine Rn.bald dk_134_50 sk_96 c7 ?_
    by_cases c8 : ¬ (I 96 (Int32.toNatClampNeg (x1 &&& 7))) = 0
    · rw [if_pos c8] at h
      refine Rn.i1t (t := 58) dk_134_51 rfl (decide_eq_true c8) ?_
      exact Rn.wk [0, 1, 2] rfl (p_134_58 hD _ _ _ _ _ _ h)
    · rw [if_neg c8] at h
      refine Rn.i1f (t := 58) dk_134_51 rfl (decide_eq_false c8) ?_
      refine Rn.ic dk_134_54 cic_1 ?_
      refine Rn.gt (t := 59) dk_134_55 rfl ?_
      exact Rn.wk [0, 1, 2] rfl (p_134_59 hD _ _ _ _ _ _ _ h)
def b_134_25 (x1 : Int32) (x2 : Int32) (I : dI) (J : dJ) : Option (Int64 × dI × dJ) := b_134_30 x1 x2 1 I J
theorem p_134_25 {Q : Nat → Option Nat} {D : Nat} (hD : 2 ≤ D) (x1 : Int32) (x2 : Int32) (I : dI) (J : dJ) (R : (Int64 × dI × dJ)) (h : b_134_25 x1 x2 I J = some R) : Rn Q D 134 25 [(0, .ref 92), (1, .int x1), (2, .int x2)] [.ref 92] I J (some (.long R.1)) R.2.1 R.2.2 := by
  replace h : (b_134_30 x1 x2 1 I J) = some R := h
  refine Rn.ic dk_134_25 cic_1 ?_
  refine Rn.gt (t := 30) dk_134_26 rfl ?_
  exact Rn.wk [0, 1, 2] rfl (p_134_30 hD _ _ _ _ _ _ h)
def b_134_0 (x1 : Int32) (x2 : Int32) (I : dI) (J : dJ) : Option (Int64 × dI × dJ) := (m_98 (Int32.toInt64 x1) 0 7 I J).bind (fun r1 => if r1 = 0 then (b_134_25 x1 x2 I J) else ((m_98 (Int32.toInt64 x2) 0 5 I J).bind (fun r4 => if ¬ r4 = 0 then (b_134_30 x1 x2 0 I J) else (b_134_25 x1 x2 I J))))
theorem p_134_0 {Q : Nat → Option Nat} {D : Nat} (hD : 2 ≤ D) (x1 : Int32) (x2 : Int32) (I : dI) (J : dJ) (R : (Int64 × dI × dJ)) (h : b_134_0 x1 x2 I J = some R) : Rn Q D 134 0 [(0, .ref 92), (1, .int x1), (2, .int x2)] [] I J (some (.long R.1)) R.2.1 R.2.2 := by
  replace h : ((m_98 (Int32.toInt64 x1) 0 7 I J).bind (fun r1 => if r1 = 0 then (b_134_25 x1 x2 I J) else ((m_98 (Int32.toInt64 x2) 0 5 I J).bind (fun r4 => if ¬ r4 = 0 then (b_134_30 x1 x2 0 I J) else (b_134_25 x1 x2 I J))))) = some R := h
  refine Rn.pu (st' := [.ref 92]) dk_134_0 L_134 rfl ?_
  refine Rn.pu (st' := [.int x1, .ref 92]) dk_134_1 L_134 rfl ?_
  refine Rn.pu (st' := [.long (Int32.toInt64 x1), .ref 92]) dk_134_2 L_134 rfl ?_
  refine Rn.lc dk_134_3 clc_0 ?_
  refine Rn.ldl dk_134_4 kl_134_4 ?_
  obtain ⟨r1, e2, h⟩ := bindS h
  refine Rn.csI (As := [.long (Int32.toInt64 x1), .long 0, .long 7]) (rest := [.ref 92]) dk_134_7 ck_134_7.choose_spec rfl (x_98 (Nat.le_trans (Nat.le_of_ble_eq_true rfl) hD) e2) ?_
  by_cases c3 : r1 = 0
  · rw [if_pos c3] at h
    refine Rn.i1t (t := 25) dk_134_10 rfl (decide_eq_true c3) ?_
    exact Rn.wk [0, 1, 2] rfl (p_134_25 hD _ _ _ _ _ h)
  · rw [if_neg c3] at h
    refine Rn.i1f (t := 25) dk_134_10 rfl (decide_eq_false c3) ?_
    refine Rn.pu (st' := [.int x2, .ref 92]) dk_134_13 L_134 rfl ?_
    refine Rn.pu (st' := [.long (Int32.toInt64 x2), .ref 92]) dk_134_14 L_134 rfl ?_
    refine Rn.lc dk_134_15 clc_0 ?_
    refine Rn.ldl dk_134_16 kl_134_16 ?_
    obtain ⟨r4, e5, h⟩ := bindS h
    refine Rn.csI (As := [.long (Int32.toInt64 x2), .long 0, .long 5]) (rest := [.ref 92]) dk_134_19 ck_134_19.choose_spec rfl (x_98 (Nat.le_trans (Nat.le_of_ble_eq_true rfl) hD) e5) ?_
    by_cases c6 : ¬ r4 = 0
    · rw [if_pos c6] at h
      refine Rn.i1t (t := 29) dk_134_22 rfl (decide_eq_true c6) ?_
      refine Rn.ic dk_134_29 cic_0 ?_
      exact Rn.wk [0, 1, 2] rfl (p_134_30 hD _ _ _ _ _ _ h)
    · rw [if_neg c6] at h
      refine Rn.i1f (t := 29) dk_134_22 rfl (decide_eq_false c6) ?_
      exact Rn.wk [0, 1, 2] rfl (p_134_25 hD _ _ _ _ _ h)
def m_134 (x1 : Int32) (x2 : Int32) (I : dI) (J : dJ) : Option (Int64 × dI × dJ) := b_134_0 x1 x2 I J
theorem x_134 {Q : Nat → Option Nat} {D : Nat} (hD : 3 ≤ D) {x1 : Int32} {x2 : Int32} {I : dI} {J : dJ} {R : (Int64 × dI × dJ)} (h : m_134 x1 x2 I J = some R) : Ex Q D 134 I J [.ref 92, .int x1, .int x2] (some (.long R.1)) R.2.1 R.2.2 := by
  obtain ⟨D, rfl⟩ : ∃ D', D = D' + 1 := ⟨D - 1, by omega⟩
  exact Ex.of (by decide) (by rw [L_134]; exact Nat.le_of_ble_eq_true rfl) (show xm_sub [(0, .ref 92), (1, .int x1), (2, .int x2)] [(0, .ref 92), (1, .int x1), (2, .int x2)] from xm_sub_of [0, 1, 2] [0, 1, 2] rfl rfl (by decide)) (p_134_0 (Nat.le_of_succ_le_succ hD) _ _ _ _ _ h)
-- ConditionDeskModel.count(I)J
theorem L_135 : tb_mL 135 = 4 := by decide +kernel
theorem R_135 : tb_mr 135 = some .long := by decide +kernel
theorem dk_135_0 : decode (tb_mb 135) 0 = .ok (.aload_n 0, 1) := by decide +kernel
theorem dk_135_1 : decode (tb_mb 135) 1 = .ok (.iconst (0), 1) := by decide +kernel
theorem dk_135_2 : decode (tb_mb 135) 2 = .ok (.putfield 91, 3) := by decide +kernel
theorem f_135_2 : ∃ b, tb_fr (tb_oc 135) 91 = some (9, 0, b) ∧ xm_fin tb_cl (tb_ini 135) b 9 0 = true := ⟨_, rfl, rfl⟩
theorem dk_135_5 : decode (tb_mb 135) 5 = .ok (.iconst (0), 1) := by decide +kernel
theorem dk_135_6 : decode (tb_mb 135) 6 = .ok (.istore_n 2, 1) := by decide +kernel
theorem dk_135_7 : decode (tb_mb 135) 7 = .ok (.iconst (0), 1) := by decide +kernel
theorem dk_135_8 : decode (tb_mb 135) 8 = .ok (.istore_n 3, 1) := by decide +kernel
theorem dk_135_9 : decode (tb_mb 135) 9 = .ok (.iload_n 3, 1) := by decide +kernel
theorem dk_135_10 : decode (tb_mb 135) 10 = .ok (.bipush (8), 2) := by decide +kernel
theorem dk_135_12 : decode (tb_mb 135) 12 = .ok (.if_icmp .ge (26), 3) := by decide +kernel
theorem dk_135_38 : decode (tb_mb 135) 38 = .ok (.iload_n 1, 1) := by decide +kernel
theorem dk_135_39 : decode (tb_mb 135) 39 = .ok (.ifCond .ne (11), 3) := by decide +kernel
theorem dk_135_50 : decode (tb_mb 135) 50 = .ok (.iload_n 1, 1) := by decide +kernel
theorem dk_135_51 : decode (tb_mb 135) 51 = .ok (.iconst (1), 1) := by decide +kernel
theorem dk_135_52 : decode (tb_mb 135) 52 = .ok (.if_icmp .ne (8), 3) := by decide +kernel
theorem dk_135_60 : decode (tb_mb 135) 60 = .ok (.iload_n 1, 1) := by decide +kernel
theorem dk_135_61 : decode (tb_mb 135) 61 = .ok (.iconst (2), 1) := by decide +kernel
theorem dk_135_62 : decode (tb_mb 135) 62 = .ok (.if_icmp .ne (10), 3) := by decide +kernel
theorem dk_135_72 : decode (tb_mb 135) 72 = .ok (.ldc2_w 243, 3) := by decide +kernel
theorem kl_135_72 : tb_kl (tb_oc 135) 243 = some (-1) := by decide +kernel
theorem dk_135_75 : decode (tb_mb 135) 75 = .ok (.lreturn, 1) := by decide +kernel
theorem dk_135_65 : decode (tb_mb 135) 65 = .ok (.aload_n 0, 1) := by decide +kernel
theorem dk_135_66 : decode (tb_mb 135) 66 = .ok (.getfield 264, 3) := by decide +kernel
theorem f_135_66 : ∃ b, tb_fr (tb_oc 135) 264 = some (9, 20, b) := ⟨_, rfl⟩
theorem dk_135_69 : decode (tb_mb 135) 69 = .ok (.goto (6), 3) := by decide +kernel
theorem dk_135_55 : decode (tb_mb 135) 55 = .ok (.iload_n 2, 1) := by decide +kernel
theorem dk_135_56 : decode (tb_mb 135) 56 = .ok (.i2l, 1) := by decide +kernel
theorem dk_135_57 : decode (tb_mb 135) 57 = .ok (.goto (18), 3) := by decide +kernel
theorem dk_135_42 : decode (tb_mb 135) 42 = .ok (.aload_n 0, 1) := by decide +kernel
theorem dk_135_43 : decode (tb_mb 135) 43 = .ok (.getfield 95, 3) := by decide +kernel
theorem f_135_43 : ∃ b, tb_fr (tb_oc 135) 95 = some (9, 1, b) := ⟨_, rfl⟩
theorem dk_135_46 : decode (tb_mb 135) 46 = .ok (.i2l, 1) := by decide +kernel
theorem dk_135_47 : decode (tb_mb 135) 47 = .ok (.goto (28), 3) := by decide +kernel
theorem dk_135_15 : decode (tb_mb 135) 15 = .ok (.aload_n 0, 1) := by decide +kernel
theorem dk_135_16 : decode (tb_mb 135) 16 = .ok (.getfield 20, 3) := by decide +kernel
theorem f_135_16 : ∃ b, tb_fr (tb_oc 135) 20 = some (9, 6, b) := ⟨_, rfl⟩
theorem dk_135_19 : decode (tb_mb 135) 19 = .ok (.iload_n 3, 1) := by decide +kernel
theorem dk_135_20 : decode (tb_mb 135) 20 = .ok (.baload, 1) := by decide +kernel
theorem dk_135_21 : decode (tb_mb 135) 21 = .ok (.ifCond .eq (9), 3) := by decide +kernel
theorem dk_135_30 : decode (tb_mb 135) 30 = .ok (.iload_n 2, 1) := by decide +kernel
theorem dk_135_31 : decode (tb_mb 135) 31 = .ok (.istore_n 2, 1) := by decide +kernel
theorem dk_135_32 : decode (tb_mb 135) 32 = .ok (.iinc 3 (1), 3) := by decide +kernel
theorem dk_135_35 : decode (tb_mb 135) 35 = .ok (.goto (-26), 3) := by decide +kernel
theorem dk_135_24 : decode (tb_mb 135) 24 = .ok (.iload_n 2, 1) := by decide +kernel
theorem dk_135_25 : decode (tb_mb 135) 25 = .ok (.iconst (1), 1) := by decide +kernel
theorem dk_135_26 : decode (tb_mb 135) 26 = .ok (.iadd, 1) := by decide +kernel
theorem dk_135_27 : decode (tb_mb 135) 27 = .ok (.goto (4), 3) := by decide +kernel
def b_135_31 (h9 : Int32 → Int32 → Int32 → dI → dJ → Option (Int64 × dI × dJ)) (x1 : Int32) (x3 : Int32) (s0 : Int32) (I : dI) (J : dJ) : Option (Int64 × dI × dJ) := h9 x1 s0 (x3 + 1) I J
theorem p_135_31 {Q : Nat → Option Nat} {D : Nat} (hD : 1 ≤ D) {h9 : Int32 → Int32 → Int32 → dI → dJ → Option (Int64 × dI × dJ)} (H9 : ∀ (x1 : Int32) (x2 : Int32) (x3 : Int32) (I : dI) (J : dJ) (R : (Int64 × dI × dJ)), h9 x1 x2 x3 I J = some R → Rn Q D 135 9 [(0, .ref 92), (1, .int x1), (2, .int x2), (3, .int x3)] [] I J (some (.long R.1)) R.2.1 R.2.2) (x1 : Int32) (x3 : Int32) (s0 : Int32) (I : dI) (J : dJ) (R : (Int64 × dI × dJ)) (h : b_135_31 h9 x1 x3 s0 I J = some R) : Rn Q D 135 31 [(0, .ref 92), (1, .int x1), (3, .int x3)] [.int s0] I J (some (.long R.1)) R.2.1 R.2.2 := by
  replace h : (h9 x1 s0 (x3 + 1) I J) = some R := h
  refine Rn.pu (ls' := [(2, .int s0), (0, .ref 92), (1, .int x1), (3, .int x3)]) (st' := []) dk_135_31 L_135 rfl ?_
  refine Rn.inc (ls' := [(3, .int (x3 + 1)), (2, .int s0), (0, .ref 92), (1, .int x1)]) dk_135_32 L_135 (by decide) cic_1 rfl rfl ?_
  refine Rn.gt (t := 9) dk_135_35 rfl ?_
  exact Rn.wk [2, 3, 1, 0] rfl (H9 _ _ _ _ _ _ h)
def b_135_9 : Nat → Int32 → Int32 → Int32 → dI → dJ → Option (Int64 × dI × dJ)
  | 0, _, _, _, _, _ => none
  | n + 1, x1, x2, x3, I, J => if 8 ≤ x3 then (if ¬ x1 = 0 then (if ¬ x1 = 1 then (if ¬ x1 = 2 then (some ((-1), I, J)) else (some ((J 92 20), I, J))) else (some ((Int32.toInt64 x2), I, J))) else (some ((Int32.toInt64 (I 92 1)), I, J))) else (if ¬ (x3 < 0 ∨ 8 ≤ Int32.toNatClampNeg x3) then (if (I 96 (Int32.toNatClampNeg x3)) = 0 then (b_135_31 (b_135_9 n) x1 x3 x2 I J) else (b_135_31 (b_135_9 n) x1 x3 (x2 + 1) I J)) else none)
theorem p_135_9 {Q : Nat → Option Nat} {D : Nat} (hD : 1 ≤ D) : ∀ (n : Nat) (x1 : Int32) (x2 : Int32) (x3 : Int32) (I : dI) (J : dJ) (R : (Int64 × dI × dJ)), b_135_9 n x1 x2 x3 I J = some R → Rn Q D 135 9 [(0, .ref 92), (1, .int x1), (2, .int x2), (3, .int x3)] [] I J (some (.long R.1)) R.2.1 R.2.2 := by
  intro n
  induction n with
  | zero => intro x1 x2 x3 I J R h; exact absurd h (by simp [b_135_9])
  | succ n ih =>
    intro x1 x2 x3 I J R h
    replace h : (if 8 ≤ x3 then (if ¬ x1 = 0 then (if ¬ x1 = 1 then (if ¬ x1 = 2 then (some ((-1), I, J)) else (some ((J 92 20), I, J))) else (some ((Int32.toInt64 x2), I, J))) else (some ((Int32.toInt64 (I 92 1)), I, J))) else (if ¬ (x3 < 0 ∨ 8 ≤ Int32.toNatClampNeg x3) then (if (I 96 (Int32.toNatClampNeg x3)) = 0 then (b_135_31 (b_135_9 n) x1 x3 x2 I J) else (b_135_31 (b_135_9 n) x1 x3 (x2 + 1) I J)) else none)) = some R := h
    refine Rn.pu (st' := [.int x3]) dk_135_9 L_135 rfl ?_
    refine Rn.bp dk_135_10 cbp_8 ?_
    by_cases c2 : 8 ≤ x3
    · rw [if_pos c2] at h
      refine Rn.i2t (t := 38) dk_135_12 rfl (decide_eq_true c2) ?_
      refine Rn.pu (st' := [.int x1]) dk_135_38 L_135 rfl ?_
      by_cases c3 : ¬ x1 = 0
      · rw [if_pos c3] at h
        refine Rn.i1t (t := 50) dk_135_39 rfl (decide_eq_true c3) ?_
        refine Rn.pu (st' := [.int x1]) dk_135_50 L_135 rfl ?_
        refine Rn.ic dk_135_51 cic_1 ?_
        by_cases c4 : ¬ x1 = 1
        · rw [if_pos c4] at h
          refine Rn.i2t (t := 60) dk_135_52 rfl (decide_eq_true c4) ?_
          refine Rn.pu (st' := [.int x1]) dk_135_60 L_135 rfl ?_
          refine Rn.ic dk_135_61 cic_2 ?_
          by_cases c5 : ¬ x1 = 2
          · rw [if_pos c5] at h
            refine Rn.i2t (t := 72) dk_135_62 rfl (decide_eq_true c5) ?_
            refine Rn.ldl dk_135_72 kl_135_72 ?_
            cases h
            exact Rn.rl dk_135_75 R_135
          · rw [if_neg c5] at h
            refine Rn.i2f (t := 72) dk_135_62 rfl (decide_eq_false c5) ?_
            refine Rn.pu (st' := [.ref 92]) dk_135_65 L_135 rfl ?_
            refine Rn.gJ dk_135_66 f_135_66.choose_spec sk_92 rfl ?_
            refine Rn.gt (t := 75) dk_135_69 rfl ?_
            cases h
            exact Rn.rl dk_135_75 R_135
        · rw [if_neg c4] at h
          refine Rn.i2f (t := 60) dk_135_52 rfl (decide_eq_false c4) ?_
          refine Rn.pu (st' := [.int x2]) dk_135_55 L_135 rfl ?_
          refine Rn.pu (st' := [.long (Int32.toInt64 x2)]) dk_135_56 L_135 rfl ?_
          refine Rn.gt (t := 75) dk_135_57 rfl ?_
          cases h
          exact Rn.rl dk_135_75 R_135
      · rw [if_neg c3] at h
        refine Rn.i1f (t := 50) dk_135_39 rfl (decide_eq_false c3) ?_
        refine Rn.pu (st' := [.ref 92]) dk_135_42 L_135 rfl ?_
        refine Rn.gI dk_135_43 f_135_43.choose_spec sk_92 rfl ?_
        refine Rn.pu (st' := [.long (Int32.toInt64 (I 92 1))]) dk_135_46 L_135 rfl ?_
        refine Rn.gt (t := 75) dk_135_47 rfl ?_
        cases h
        exact Rn.rl dk_135_75 R_135
    · rw [if_neg c2] at h
      refine Rn.i2f (t := 38) dk_135_12 rfl (decide_eq_false c2) ?_
      refine Rn.pu (st' := [.ref 92]) dk_135_15 L_135 rfl ?_
      refine Rn.gR (r := 96) dk_135_16 f_135_16.choose_spec sk_92 rfl ?_
      refine Rn.pu (st' := [.int x3, .ref 96]) dk_135_19 L_135 rfl ?_
      obtain ⟨c6, h⟩ := xm_if h
      refine Rn.bald dk_135_20 sk_96 c6 ?_
      by_cases c7 : (I 96 (Int32.toNatClampNeg x3)) = 0
      · rw [if_pos c7] at h
        refine Rn.i1t (t := 30) dk_135_21 rfl (decide_eq_true c7) ?_
        refine Rn.pu (st' := [.int x2]) dk_135_30 L_135 rfl ?_
        exact Rn.wk [0, 1, 3] rfl (p_135_31 hD ih _ _ _ _ _ _ h)
      · rw [if_neg c7] at h
        refine Rn.i1f (t := 30) dk_135_21 rfl (decide_eq_false c7) ?_
        refine Rn.pu (st' := [.int x2]) dk_135_24 L_135 rfl ?_
        refine Rn.ic dk_135_25 cic_1 ?_
        refine Rn.pu (st' := [.int (x2 + 1)]) dk_135_26 L_135 rfl ?_
        refine Rn.gt (t := 31) dk_135_27 rfl ?_
        exact Rn.wk [0, 1, 3] rfl (p_135_31 hD ih _ _ _ _ _ _ h)
def b_135_0 (x1 : Int32) (I : dI) (J : dJ) : Option (Int64 × dI × dJ) := lt_ (sI I 92 0 0) (fun I1 => b_135_9 FU x1 0 0 I1 J)
theorem p_135_0 {Q : Nat → Option Nat} {D : Nat} (hD : 1 ≤ D) (x1 : Int32) (I : dI) (J : dJ) (R : (Int64 × dI × dJ)) (h : b_135_0 x1 I J = some R) : Rn Q D 135 0 [(0, .ref 92), (1, .int x1)] [] I J (some (.long R.1)) R.2.1 R.2.2 := by
  replace h : (lt_ (sI I 92 0 0) (fun I1 => b_135_9 FU x1 0 0 I1 J)) = some R := h
  refine Rn.pu (st' := [.ref 92]) dk_135_0 L_135 rfl ?_
  refine Rn.ic dk_135_1 cic_0 ?_
  obtain ⟨I1, eI1, h⟩ := letS h
  refine Rn.pI dk_135_2 f_135_2.choose_spec.1 sk_92 rfl f_135_2.choose_spec.2 rfl rfl ?_
  rw [← eI1]
  refine Rn.ic dk_135_5 cic_0 ?_
  refine Rn.pu (ls' := [(2, .int 0), (0, .ref 92), (1, .int x1)]) (st' := []) dk_135_6 L_135 rfl ?_
  refine Rn.ic dk_135_7 cic_0 ?_
  refine Rn.pu (ls' := [(3, .int 0), (2, .int 0), (0, .ref 92), (1, .int x1)]) (st' := []) dk_135_8 L_135 rfl ?_
  exact Rn.wk [2, 3, 1, 0] rfl (p_135_9 hD FU _ _ _ _ _ _ h)
def m_135 (x1 : Int32) (I : dI) (J : dJ) : Option (Int64 × dI × dJ) := b_135_0 x1 I J
theorem x_135 {Q : Nat → Option Nat} {D : Nat} (hD : 2 ≤ D) {x1 : Int32} {I : dI} {J : dJ} {R : (Int64 × dI × dJ)} (h : m_135 x1 I J = some R) : Ex Q D 135 I J [.ref 92, .int x1] (some (.long R.1)) R.2.1 R.2.2 := by
  obtain ⟨D, rfl⟩ : ∃ D', D = D' + 1 := ⟨D - 1, by omega⟩
  exact Ex.of (by decide) (by rw [L_135]; exact Nat.le_of_ble_eq_true rfl) (show xm_sub [(0, .ref 92), (1, .int x1)] [(0, .ref 92), (1, .int x1)] from xm_sub_of [0, 1] [0, 1] rfl rfl (by decide)) (p_135_0 (Nat.le_of_succ_le_succ hD) _ _ _ _ h)
