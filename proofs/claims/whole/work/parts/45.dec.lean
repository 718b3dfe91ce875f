/-! Printed by wip/whole/gen_dec.py: methods read back. -/
-- ConditionDesk$Tokens.isWord(Ljava/lang/String;)Z
theorem L_56 : tb_mL 56 = 3 := by decide +kernel
theorem R_56 : tb_mr 56 = some .boolean := by decide +kernel
theorem dk_56_0 : decode (tb_mb 56) 0 = .ok (.aload_n 1, 1) := by decide +kernel
theorem dk_56_1 : decode (tb_mb 56) 1 = .ok (.invokevirtual 97, 3) := by decide +kernel
theorem dk_56_4 : decode (tb_mb 56) 4 = .ok (.aload_n 0, 1) := by decide +kernel
theorem dk_56_5 : decode (tb_mb 56) 5 = .ok (.getfield 15, 3) := by decide +kernel
theorem f_56_5 : ∃ b, tb_fr (tb_oc 56) 15 = some (6, 2, b) := ⟨_, rfl⟩
theorem dk_56_8 : decode (tb_mb 56) 8 = .ok (.aload_n 0, 1) := by decide +kernel
theorem dk_56_9 : decode (tb_mb 56) 9 = .ok (.getfield 9, 3) := by decide +kernel
theorem f_56_9 : ∃ b, tb_fr (tb_oc 56) 9 = some (6, 1, b) := ⟨_, rfl⟩
theorem dk_56_12 : decode (tb_mb 56) 12 = .ok (.isub, 1) := by decide +kernel
theorem dk_56_13 : decode (tb_mb 56) 13 = .ok (.if_icmp .eq (5), 3) := by decide +kernel
theorem dk_56_18 : decode (tb_mb 56) 18 = .ok (.iconst (0), 1) := by decide +kernel
theorem dk_56_19 : decode (tb_mb 56) 19 = .ok (.istore_n 2, 1) := by decide +kernel
theorem dk_56_20 : decode (tb_mb 56) 20 = .ok (.iload_n 2, 1) := by decide +kernel
theorem dk_56_21 : decode (tb_mb 56) 21 = .ok (.aload_n 1, 1) := by decide +kernel
theorem dk_56_22 : decode (tb_mb 56) 22 = .ok (.invokevirtual 97, 3) := by decide +kernel
theorem dk_56_25 : decode (tb_mb 56) 25 = .ok (.if_icmp .ge (32), 3) := by decide +kernel
theorem dk_56_57 : decode (tb_mb 56) 57 = .ok (.iconst (1), 1) := by decide +kernel
theorem dk_56_58 : decode (tb_mb 56) 58 = .ok (.ireturn, 1) := by decide +kernel
theorem dk_56_28 : decode (tb_mb 56) 28 = .ok (.aload_n 1, 1) := by decide +kernel
theorem dk_56_29 : decode (tb_mb 56) 29 = .ok (.iload_n 2, 1) := by decide +kernel
theorem dk_56_30 : decode (tb_mb 56) 30 = .ok (.invokevirtual 101, 3) := by decide +kernel
theorem dk_56_33 : decode (tb_mb 56) 33 = .ok (.aload_n 0, 1) := by decide +kernel
theorem dk_56_34 : decode (tb_mb 56) 34 = .ok (.getfield 25, 3) := by decide +kernel
theorem f_56_34 : ∃ b, tb_fr (tb_oc 56) 25 = some (6, 0, b) := ⟨_, rfl⟩
theorem dk_56_37 : decode (tb_mb 56) 37 = .ok (.aload_n 0, 1) := by decide +kernel
theorem dk_56_38 : decode (tb_mb 56) 38 = .ok (.getfield 9, 3) := by decide +kernel
theorem f_56_38 : ∃ b, tb_fr (tb_oc 56) 9 = some (6, 1, b) := ⟨_, rfl⟩
theorem dk_56_41 : decode (tb_mb 56) 41 = .ok (.iload_n 2, 1) := by decide +kernel
theorem dk_56_42 : decode (tb_mb 56) 42 = .ok (.iadd, 1) := by decide +kernel
theorem dk_56_43 : decode (tb_mb 56) 43 = .ok (.invokevirtual 32, 3) := by decide +kernel
theorem ck_56_43 : ∃ b, tb_cr (tb_oc 56) 32 = some (0, 48, b, 1) := ⟨_, rfl⟩
theorem dk_56_46 : decode (tb_mb 56) 46 = .ok (.if_icmp .eq (5), 3) := by decide +kernel
theorem dk_56_51 : decode (tb_mb 56) 51 = .ok (.iinc 2 (1), 3) := by decide +kernel
theorem dk_56_54 : decode (tb_mb 56) 54 = .ok (.goto (-34), 3) := by decide +kernel
theorem dk_56_49 : decode (tb_mb 56) 49 = .ok (.iconst (0), 1) := by decide +kernel
theorem dk_56_50 : decode (tb_mb 56) 50 = .ok (.ireturn, 1) := by decide +kernel
theorem dk_56_16 : decode (tb_mb 56) 16 = .ok (.iconst (0), 1) := by decide +kernel
theorem dk_56_17 : decode (tb_mb 56) 17 = .ok (.ireturn, 1) := by decide +kernel
def b_56_20 (w : Nat) : Nat → Int32 → dI → dJ → Option Int32
  | 0, _, _, _ => none
  | n + 1, x2, I, J => if (nI (st_len.getD w 0)) ≤ x2 then (some 1) else (if ¬ (x2 < 0 ∨ st_len.getD w 0 ≤ Int32.toNatClampNeg x2) then ((m_48 ((I 18 1) + x2) I J).bind (fun r4 => if ((((st_byt.getD w []).getD (Int32.toNatClampNeg x2) 0 &&& 255).toUInt32 % 65536).toInt32) = r4 then ((b_56_20 w n) (x2 + 1) I J) else (some 0))) else none)
theorem p_56_20 {Q : Nat → Option Nat} {D : Nat} {w : Nat} (hD : 2 ≤ D) (okw : w < 13) : ∀ (n : Nat) (x2 : Int32) (I : dI) (J : dJ) (R : Int32), b_56_20 w n x2 I J = some R → Rn Q D 56 20 [(0, .ref 18), (1, .ref (xm_K0 + w)), (2, .int x2)] [] I J (some (.int R)) I J := by
  intro n
  induction n with
  | zero => intro x2 I J R h; exact absurd h (by simp [b_56_20])
  | succ n ih =>
    intro x2 I J R h
    replace h : (if (nI (st_len.getD w 0)) ≤ x2 then (some 1) else (if ¬ (x2 < 0 ∨ st_len.getD w 0 ≤ Int32.toNatClampNeg x2) then ((m_48 ((I 18 1) + x2) I J).bind (fun r4 => if ((((st_byt.getD w []).getD (Int32.toNatClampNeg x2) 0 &&& 255).toUInt32 % 65536).toInt32) = r4 then ((b_56_20 w n) (x2 + 1) I J) else (some 0))) else none)) = some R := h
    refine Rn.pu (st' := [.int x2]) dk_56_20 L_56 rfl ?_
    refine Rn.pu (st' := [.ref (xm_K0 + w), .int x2]) dk_56_21 L_56 rfl ?_
    refine Rn.slen dk_56_22 rfl (by decide +kernel) (Nat.le_of_ble_eq_true rfl) okw ?_
    by_cases c2 : (nI (st_len.getD w 0)) ≤ x2
    · rw [if_pos c2] at h
      refine Rn.i2t (t := 57) dk_56_25 rfl (decide_eq_true c2) ?_
      refine Rn.ic dk_56_57 cic_1 ?_
      cases h
      exact Rn.ri dk_56_58 R_56 rfl
    · rw [if_neg c2] at h
      refine Rn.i2f (t := 57) dk_56_25 rfl (decide_eq_false c2) ?_
      refine Rn.pu (st' := [.ref (xm_K0 + w)]) dk_56_28 L_56 rfl ?_
      refine Rn.pu (st' := [.int x2, .ref (xm_K0 + w)]) dk_56_29 L_56 rfl ?_
      obtain ⟨c3, h⟩ := xm_if h
      refine Rn.schar dk_56_30 rfl (by decide +kernel) (Nat.le_of_ble_eq_true rfl) okw c3 ?_
      refine Rn.pu (st' := [.ref 18, .int ((((st_byt.getD w []).getD (Int32.toNatClampNeg x2) 0 &&& 255).toUInt32 % 65536).toInt32)]) dk_56_33 L_56 rfl ?_
      refine Rn.gR (r := 1) dk_56_34 f_56_34.choose_spec sk_18 rfl ?_
      refine Rn.pu (st' := [.ref 18, .ref 1, .int ((((st_byt.getD w []).getD (Int32.toNatClampNeg x2) 0 &&& 255).toUInt32 % 65536).toInt32)]) dk_56_37 L_56 rfl ?_
      refine Rn.gI dk_56_38 f_56_38.choose_spec sk_18 rfl ?_
      refine Rn.pu (st' := [.int x2, .int (I 18 1), .ref 1, .int ((((st_byt.getD w []).getD (Int32.toNatClampNeg x2) 0 &&& 255).toUInt32 % 65536).toInt32)]) dk_56_41 L_56 rfl ?_
      refine Rn.pu (st' := [.int ((I 18 1) + x2), .ref 1, .int ((((st_byt.getD w []).getD (Int32.toNatClampNeg x2) 0 &&& 255).toUInt32 % 65536).toInt32)]) dk_56_42 L_56 rfl ?_
      obtain ⟨r4, e5, h⟩ := bindS h
      refine Rn.cvI (p := 1) (As := [.int ((I 18 1) + x2)]) (rest := [.int ((((st_byt.getD w []).getD (Int32.toNatClampNeg x2) 0 &&& 255).toUInt32 % 65536).toInt32)]) dk_56_43 ck_56_43.choose_spec rfl sk_1 rfl (x_48 (Nat.le_trans (Nat.le_of_ble_eq_true rfl) hD) e5) ?_
      by_cases c6 : ((((st_byt.getD w []).getD (Int32.toNatClampNeg x2) 0 &&& 255).toUInt32 % 65536).toInt32) = r4
      · rw [if_pos c6] at h
        refine Rn.i2t (t := 51) dk_56_46 rfl (decide_eq_true c6) ?_
        refine Rn.inc (ls' := [(2, .int (x2 + 1)), (0, .ref 18), (1, .ref (xm_K0 + w))]) dk_56_51 L_56 (by decide) cic_1 rfl rfl ?_
        refine Rn.gt (t := 20) dk_56_54 rfl ?_
        exact Rn.wk [1, 2, 0] rfl (ih _ _ _ _ h)
      · rw [if_neg c6] at h
        refine Rn.i2f (t := 51) dk_56_46 rfl (decide_eq_false c6) ?_
        refine Rn.ic dk_56_49 cic_0 ?_
        cases h
        exact Rn.ri dk_56_50 R_56 rfl
def b_56_0 (w : Nat) (I : dI) (J : dJ) : Option Int32 := if (nI (st_len.getD w 0)) = ((I 18 2) - (I 18 1)) then (b_56_20 w FU 0 I J) else (some 0)
theorem p_56_0 {Q : Nat → Option Nat} {D : Nat} {w : Nat} (hD : 2 ≤ D) (okw : w < 13) (I : dI) (J : dJ) (R : Int32) (h : b_56_0 w I J = some R) : Rn Q D 56 0 [(0, .ref 18), (1, .ref (xm_K0 + w))] [] I J (some (.int R)) I J := by
  replace h : (if (nI (st_len.getD w 0)) = ((I 18 2) - (I 18 1)) then (b_56_20 w FU 0 I J) else (some 0)) = some R := h
  refine Rn.pu (st' := [.ref (xm_K0 + w)]) dk_56_0 L_56 rfl ?_
  refine Rn.slen dk_56_1 rfl (by decide +kernel) (Nat.le_of_ble_eq_true rfl) okw ?_
  refine Rn.pu (st' := [.ref 18, .int (nI (st_len.getD w 0))]) dk_56_4 L_56 rfl ?_
  refine Rn.gI dk_56_5 f_56_5.choose_spec sk_18 rfl ?_
  refine Rn.pu (st' := [.ref 18, .int (I 18 2), .int (nI (st_len.getD w 0))]) dk_56_8 L_56 rfl ?_
  refine Rn.gI dk_56_9 f_56_9.choose_spec sk_18 rfl ?_
  refine Rn.pu (st' := [.int ((I 18 2) - (I 18 1)), .int (nI (st_len.getD w 0))]) dk_56_12 L_56 rfl ?_
  by_cases c1 : (nI (st_len.getD w 0)) = ((I 18 2) - (I 18 1))
  · rw [if_pos c1] at h
    refine Rn.i2t (t := 18) dk_56_13 rfl (decide_eq_true c1) ?_
    refine Rn.ic dk_56_18 cic_0 ?_
    refine Rn.pu (ls' := [(2, .int 0), (0, .ref 18), (1, .ref (xm_K0 + w))]) (st' := []) dk_56_19 L_56 rfl ?_
    exact Rn.wk [1, 2, 0] rfl (p_56_20 hD okw FU _ _ _ _ h)
  · rw [if_neg c1] at h
    refine Rn.i2f (t := 18) dk_56_13 rfl (decide_eq_false c1) ?_
    refine Rn.ic dk_56_16 cic_0 ?_
    cases h
    exact Rn.ri dk_56_17 R_56 rfl
def m_56 (w : Nat) (I : dI) (J : dJ) : Option Int32 := b_56_0 w I J
theorem x_56 {Q : Nat → Option Nat} {D : Nat} {w : Nat} (hD : 3 ≤ D) (okw : w < 13) {I : dI} {J : dJ} {R : Int32} (h : m_56 w I J = some R) : Ex Q D 56 I J [.ref 18, .ref (xm_K0 + w)] (some (.int R)) I J := by
  obtain ⟨D, rfl⟩ : ∃ D', D = D' + 1 := ⟨D - 1, by omega⟩
  exact Ex.of (by decide) (by rw [L_56]; exact Nat.le_of_ble_eq_true rfl) (show xm_sub [(0, .ref 18), (1, .ref (xm_K0 + w))] [(0, .ref 18), (1, .ref (xm_K0 + w))] from xm_sub_of [0, 1] [0, 1] rfl rfl (by decide)) (p_56_0 (Nat.le_of_succ_le_succ hD) okw _ _ _ h)
-- ConditionDesk$Tokens.registerOfWord()I
theorem L_55 : tb_mL 55 = 5 := by decide +kernel
theorem R_55 : tb_mr 55 = some .int := by decide +kernel
theorem dk_55_0 : decode (tb_mb 55) 0 = .ok (.aload_n 0, 1) := by decide +kernel
theorem dk_55_1 : decode (tb_mb 55) 1 = .ok (.ldc 79, 2) := by decide +kernel
theorem sl_55_1 : tb_sl (tb_oc 55) 79 = some 6 := by decide +kernel
theorem dk_55_3 : decode (tb_mb 55) 3 = .ok (.invokevirtual 81, 3) := by decide +kernel
theorem ck_55_3 : ∃ b, tb_cr (tb_oc 55) 81 = some (0, 56, b, 1) := ⟨_, rfl⟩
theorem dk_55_6 : decode (tb_mb 55) 6 = .ok (.ifCond .eq (6), 3) := by decide +kernel
theorem dk_55_12 : decode (tb_mb 55) 12 = .ok (.aload_n 0, 1) := by decide +kernel
theorem dk_55_13 : decode (tb_mb 55) 13 = .ok (.ldc 85, 2) := by decide +kernel
theorem sl_55_13 : tb_sl (tb_oc 55) 85 = some 7 := by decide +kernel
theorem dk_55_15 : decode (tb_mb 55) 15 = .ok (.invokevirtual 81, 3) := by decide +kernel
theorem ck_55_15 : ∃ b, tb_cr (tb_oc 55) 81 = some (0, 56, b, 1) := ⟨_, rfl⟩
theorem dk_55_18 : decode (tb_mb 55) 18 = .ok (.ifCond .eq (6), 3) := by decide +kernel
theorem dk_55_24 : decode (tb_mb 55) 24 = .ok (.aload_n 0, 1) := by decide +kernel
theorem dk_55_25 : decode (tb_mb 55) 25 = .ok (.getfield 15, 3) := by decide +kernel
theorem f_55_25 : ∃ b, tb_fr (tb_oc 55) 15 = some (6, 2, b) := ⟨_, rfl⟩
theorem dk_55_28 : decode (tb_mb 55) 28 = .ok (.aload_n 0, 1) := by decide +kernel
theorem dk_55_29 : decode (tb_mb 55) 29 = .ok (.getfield 9, 3) := by decide +kernel
theorem f_55_29 : ∃ b, tb_fr (tb_oc 55) 9 = some (6, 1, b) := ⟨_, rfl⟩
theorem dk_55_32 : decode (tb_mb 55) 32 = .ok (.isub, 1) := by decide +kernel
theorem dk_55_33 : decode (tb_mb 55) 33 = .ok (.iconst (1), 1) := by decide +kernel
theorem dk_55_34 : decode (tb_mb 55) 34 = .ok (.isub, 1) := by decide +kernel
theorem dk_55_35 : decode (tb_mb 55) 35 = .ok (.istore_n 1, 1) := by decide +kernel
theorem dk_55_36 : decode (tb_mb 55) 36 = .ok (.aload_n 0, 1) := by decide +kernel
theorem dk_55_37 : decode (tb_mb 55) 37 = .ok (.getfield 25, 3) := by decide +kernel
theorem f_55_37 : ∃ b, tb_fr (tb_oc 55) 25 = some (6, 0, b) := ⟨_, rfl⟩
theorem dk_55_40 : decode (tb_mb 55) 40 = .ok (.aload_n 0, 1) := by decide +kernel
theorem dk_55_41 : decode (tb_mb 55) 41 = .ok (.getfield 9, 3) := by decide +kernel
theorem f_55_41 : ∃ b, tb_fr (tb_oc 55) 9 = some (6, 1, b) := ⟨_, rfl⟩
theorem dk_55_44 : decode (tb_mb 55) 44 = .ok (.invokevirtual 32, 3) := by decide +kernel
theorem ck_55_44 : ∃ b, tb_cr (tb_oc 55) 32 = some (0, 48, b, 1) := ⟨_, rfl⟩
theorem dk_55_47 : decode (tb_mb 55) 47 = .ok (.bipush (120), 2) := by decide +kernel
theorem dk_55_49 : decode (tb_mb 55) 49 = .ok (.if_icmp .ne (13), 3) := by decide +kernel
theorem dk_55_62 : decode (tb_mb 55) 62 = .ok (.iconst (-1), 1) := by decide +kernel
theorem dk_55_63 : decode (tb_mb 55) 63 = .ok (.ireturn, 1) := by decide +kernel
theorem dk_55_52 : decode (tb_mb 55) 52 = .ok (.iload_n 1, 1) := by decide +kernel
theorem dk_55_53 : decode (tb_mb 55) 53 = .ok (.iconst (1), 1) := by decide +kernel
theorem dk_55_54 : decode (tb_mb 55) 54 = .ok (.if_icmp .lt (8), 3) := by decide +kernel
theorem dk_55_57 : decode (tb_mb 55) 57 = .ok (.iload_n 1, 1) := by decide +kernel
theorem dk_55_58 : decode (tb_mb 55) 58 = .ok (.iconst (2), 1) := by decide +kernel
theorem dk_55_59 : decode (tb_mb 55) 59 = .ok (.if_icmp .le (5), 3) := by decide +kernel
theorem dk_55_64 : decode (tb_mb 55) 64 = .ok (.aload_n 0, 1) := by decide +kernel
theorem dk_55_65 : decode (tb_mb 55) 65 = .ok (.getfield 25, 3) := by decide +kernel
theorem f_55_65 : ∃ b, tb_fr (tb_oc 55) 25 = some (6, 0, b) := ⟨_, rfl⟩
theorem dk_55_68 : decode (tb_mb 55) 68 = .ok (.aload_n 0, 1) := by decide +kernel
theorem dk_55_69 : decode (tb_mb 55) 69 = .ok (.getfield 9, 3) := by decide +kernel
theorem f_55_69 : ∃ b, tb_fr (tb_oc 55) 9 = some (6, 1, b) := ⟨_, rfl⟩
theorem dk_55_72 : decode (tb_mb 55) 72 = .ok (.iconst (1), 1) := by decide +kernel
theorem dk_55_73 : decode (tb_mb 55) 73 = .ok (.iadd, 1) := by decide +kernel
theorem dk_55_74 : decode (tb_mb 55) 74 = .ok (.invokevirtual 32, 3) := by decide +kernel
theorem ck_55_74 : ∃ b, tb_cr (tb_oc 55) 32 = some (0, 48, b, 1) := ⟨_, rfl⟩
theorem dk_55_77 : decode (tb_mb 55) 77 = .ok (.istore_n 2, 1) := by decide +kernel
theorem dk_55_78 : decode (tb_mb 55) 78 = .ok (.iload_n 2, 1) := by decide +kernel
theorem dk_55_79 : decode (tb_mb 55) 79 = .ok (.invokestatic 41, 3) := by decide +kernel
theorem ck_55_79 : ∃ b, tb_cr (tb_oc 55) 41 = some (1, 49, b, 1) := ⟨_, rfl⟩
theorem dk_55_82 : decode (tb_mb 55) 82 = .ok (.ifCond .eq (8), 3) := by decide +kernel
theorem dk_55_90 : decode (tb_mb 55) 90 = .ok (.iload_n 2, 1) := by decide +kernel
theorem dk_55_91 : decode (tb_mb 55) 91 = .ok (.invokestatic 41, 3) := by decide +kernel
theorem ck_55_91 : ∃ b, tb_cr (tb_oc 55) 41 = some (1, 49, b, 1) := ⟨_, rfl⟩
theorem dk_55_94 : decode (tb_mb 55) 94 = .ok (.ifCond .eq (10), 3) := by decide +kernel
theorem dk_55_104 : decode (tb_mb 55) 104 = .ok (.iconst (-1), 1) := by decide +kernel
theorem dk_55_105 : decode (tb_mb 55) 105 = .ok (.ireturn, 1) := by decide +kernel
theorem dk_55_97 : decode (tb_mb 55) 97 = .ok (.iload_n 2, 1) := by decide +kernel
theorem dk_55_98 : decode (tb_mb 55) 98 = .ok (.bipush (48), 2) := by decide +kernel
theorem dk_55_100 : decode (tb_mb 55) 100 = .ok (.isub, 1) := by decide +kernel
theorem dk_55_101 : decode (tb_mb 55) 101 = .ok (.goto (4), 3) := by decide +kernel
theorem dk_55_85 : decode (tb_mb 55) 85 = .ok (.iload_n 1, 1) := by decide +kernel
theorem dk_55_86 : decode (tb_mb 55) 86 = .ok (.iconst (1), 1) := by decide +kernel
theorem dk_55_87 : decode (tb_mb 55) 87 = .ok (.if_icmp .ne (19), 3) := by decide +kernel
theorem dk_55_106 : decode (tb_mb 55) 106 = .ok (.aload_n 0, 1) := by decide +kernel
theorem dk_55_107 : decode (tb_mb 55) 107 = .ok (.getfield 25, 3) := by decide +kernel
theorem f_55_107 : ∃ b, tb_fr (tb_oc 55) 25 = some (6, 0, b) := ⟨_, rfl⟩
theorem dk_55_110 : decode (tb_mb 55) 110 = .ok (.aload_n 0, 1) := by decide +kernel
theorem dk_55_111 : decode (tb_mb 55) 111 = .ok (.getfield 9, 3) := by decide +kernel
theorem f_55_111 : ∃ b, tb_fr (tb_oc 55) 9 = some (6, 1, b) := ⟨_, rfl⟩
theorem dk_55_114 : decode (tb_mb 55) 114 = .ok (.iconst (2), 1) := by decide +kernel
theorem dk_55_115 : decode (tb_mb 55) 115 = .ok (.iadd, 1) := by decide +kernel
theorem dk_55_116 : decode (tb_mb 55) 116 = .ok (.invokevirtual 32, 3) := by decide +kernel
theorem ck_55_116 : ∃ b, tb_cr (tb_oc 55) 32 = some (0, 48, b, 1) := ⟨_, rfl⟩
theorem dk_55_119 : decode (tb_mb 55) 119 = .ok (.istore_n 3, 1) := by decide +kernel
theorem dk_55_120 : decode (tb_mb 55) 120 = .ok (.iload_n 2, 1) := by decide +kernel
theorem dk_55_121 : decode (tb_mb 55) 121 = .ok (.bipush (48), 2) := by decide +kernel
theorem dk_55_123 : decode (tb_mb 55) 123 = .ok (.isub, 1) := by decide +kernel
theorem dk_55_124 : decode (tb_mb 55) 124 = .ok (.bipush (10), 2) := by decide +kernel
theorem dk_55_126 : decode (tb_mb 55) 126 = .ok (.imul, 1) := by decide +kernel
theorem dk_55_127 : decode (tb_mb 55) 127 = .ok (.iload_n 3, 1) := by decide +kernel
theorem dk_55_128 : decode (tb_mb 55) 128 = .ok (.iadd, 1) := by decide +kernel
theorem dk_55_129 : decode (tb_mb 55) 129 = .ok (.bipush (48), 2) := by decide +kernel
theorem dk_55_131 : decode (tb_mb 55) 131 = .ok (.isub, 1) := by decide +kernel
theorem dk_55_132 : decode (tb_mb 55) 132 = .ok (.istore 4, 2) := by decide +kernel
theorem dk_55_134 : decode (tb_mb 55) 134 = .ok (.iload_n 2, 1) := by decide +kernel
theorem dk_55_135 : decode (tb_mb 55) 135 = .ok (.bipush (48), 2) := by decide +kernel
theorem dk_55_137 : decode (tb_mb 55) 137 = .ok (.if_icmp .eq (22), 3) := by decide +kernel
theorem dk_55_159 : decode (tb_mb 55) 159 = .ok (.iconst (-1), 1) := by decide +kernel
theorem dk_55_160 : decode (tb_mb 55) 160 = .ok (.ireturn, 1) := by decide +kernel
theorem dk_55_140 : decode (tb_mb 55) 140 = .ok (.iload_n 3, 1) := by decide +kernel
theorem dk_55_141 : decode (tb_mb 55) 141 = .ok (.invokestatic 41, 3) := by decide +kernel
theorem ck_55_141 : ∃ b, tb_cr (tb_oc 55) 41 = some (1, 49, b, 1) := ⟨_, rfl⟩
theorem dk_55_144 : decode (tb_mb 55) 144 = .ok (.ifCond .eq (15), 3) := by decide +kernel
theorem dk_55_147 : decode (tb_mb 55) 147 = .ok (.iload 4, 2) := by decide +kernel
theorem dk_55_149 : decode (tb_mb 55) 149 = .ok (.bipush (32), 2) := by decide +kernel
theorem dk_55_151 : decode (tb_mb 55) 151 = .ok (.if_icmp .ge (8), 3) := by decide +kernel
theorem dk_55_154 : decode (tb_mb 55) 154 = .ok (.iload 4, 2) := by decide +kernel
theorem dk_55_156 : decode (tb_mb 55) 156 = .ok (.goto (4), 3) := by decide +kernel
theorem dk_55_21 : decode (tb_mb 55) 21 = .ok (.bipush (33), 2) := by decide +kernel
theorem dk_55_23 : decode (tb_mb 55) 23 = .ok (.ireturn, 1) := by decide +kernel
theorem dk_55_9 : decode (tb_mb 55) 9 = .ok (.bipush (32), 2) := by decide +kernel
theorem dk_55_11 : decode (tb_mb 55) 11 = .ok (.ireturn, 1) := by decide +kernel
def b_55_90 (x2 : Int32) (I : dI) (J : dJ) : Option Int32 := (m_49 x2 I J).bind (fun r17 => if r17 = 0 then (some (-1)) else (some (x2 - 48)))
theorem p_55_90 {Q : Nat → Option Nat} {D : Nat} (hD : 3 ≤ D) (x2 : Int32) (I : dI) (J : dJ) (R : Int32) (h : b_55_90 x2 I J = some R) : Rn Q D 55 90 [(2, .int x2)] [] I J (some (.int R)) I J := by
  replace h : ((m_49 x2 I J).bind (fun r17 => if r17 = 0 then (some (-1)) else (some (x2 - 48)))) = some R := h
  refine Rn.pu (st' := [.int x2]) dk_55_90 L_55 rfl ?_
  obtain ⟨r17, e18, h⟩ := bindS h
  refine Rn.csI (As := [.int x2]) (rest := []) dk_55_91 ck_55_91.choose_spec rfl (x_49 (Nat.le_trans (Nat.le_of_ble_eq_true rfl) hD) e18) ?_
  by_cases c19 : r17 = 0
  · rw [if_pos c19] at h
    refine Rn.i1t (t := 104) dk_55_94 rfl (decide_eq_true c19) ?_
    refine Rn.ic dk_55_104 cic_m1 ?_
    cases h
    exact Rn.ri dk_55_105 R_55 rfl
  · rw [if_neg c19] at h
    refine Rn.i1f (t := 104) dk_55_94 rfl (decide_eq_false c19) ?_
    refine Rn.pu (st' := [.int x2]) dk_55_97 L_55 rfl ?_
    refine Rn.bp dk_55_98 cbp_48 ?_
    refine Rn.pu (st' := [.int (x2 - 48)]) dk_55_100 L_55 rfl ?_
    refine Rn.gt (t := 105) dk_55_101 rfl ?_
    cases h
    exact Rn.ri dk_55_105 R_55 rfl
def b_55_0 (I : dI) (J : dJ) : Option Int32 := (m_56 6 I J).bind (fun r1 => if r1 = 0 then ((m_56 7 I J).bind (fun r4 => if r4 = 0 then ((m_48 (I 18 1) I J).bind (fun r7 => if ¬ r7 = 120 then (some (-1)) else (if (((I 18 2) - (I 18 1)) - 1) < 1 then (some (-1)) else (if (((I 18 2) - (I 18 1)) - 1) ≤ 2 then ((m_48 ((I 18 1) + 1) I J).bind (fun r12 => (m_49 r12 I J).bind (fun r14 => if r14 = 0 then (b_55_90 r12 I J) else (if ¬ (((I 18 2) - (I 18 1)) - 1) = 1 then ((m_48 ((I 18 1) + 2) I J).bind (fun r18 => if r12 = 48 then (some (-1)) else ((m_49 r18 I J).bind (fun r21 => if r21 = 0 then (some (-1)) else (if 32 ≤ ((((r12 - 48) * 10) + r18) - 48) then (some (-1)) else (some ((((r12 - 48) * 10) + r18) - 48))))))) else (b_55_90 r12 I J))))) else (some (-1)))))) else (some 33))) else (some 32))
theorem p_55_0 {Q : Nat → Option Nat} {D : Nat} (hD : 3 ≤ D) (I : dI) (J : dJ) (R : Int32) (h : b_55_0 I J = some R) : Rn Q D 55 0 [(0, .ref 18)] [] I J (some (.int R)) I J := by
  replace h : ((m_56 6 I J).bind (fun r1 => if r1 = 0 then ((m_56 7 I J).bind (fun r4 => if r4 = 0 then ((m_48 (I 18 1) I J).bind (fun r7 => if ¬ r7 = 120 then (some (-1)) else (if (((I 18 2) - (I 18 1)) - 1) < 1 then (some (-1)) else (if (((I 18 2) - (I 18 1)) - 1) ≤ 2 then ((m_48 ((I 18 1) + 1) I J).bind (fun r12 => (m_49 r12 I J).bind (fun r14 => if r14 = 0 then (b_55_90 r12 I J) else (if ¬ (((I 18 2) - (I 18 1)) - 1) = 1 then ((m_48 ((I 18 1) + 2) I J).bind (fun r18 => if r12 = 48 then (some (-1)) else ((m_49 r18 I J).bind (fun r21 => if r21 = 0 then (some (-1)) else (if 32 ≤ ((((r12 - 48) * 10) + r18) - 48) then (some (-1)) else (some ((((r12 - 48) * 10) + r18) - 48))))))) else (b_55_90 r12 I J))))) else (some (-1)))))) else (some 33))) else (some 32))) = some R := h
  refine Rn.pu (st' := [.ref 18]) dk_55_0 L_55 rfl ?_
  refine Rn.lds dk_55_1 sl_55_1 ?_
  obtain ⟨r1, e2, h⟩ := bindS h
  refine Rn.cvI (p := 18) (As := [.ref (xm_K0 + 6)]) (rest := []) dk_55_3 ck_55_3.choose_spec rfl sk_18 rfl (x_56 (Nat.le_trans (Nat.le_of_ble_eq_true rfl) hD) (by decide) e2) ?_
  by_cases c3 : r1 = 0
  · rw [if_pos c3] at h
    refine Rn.i1t (t := 12) dk_55_6 rfl (decide_eq_true c3) ?_
    refine Rn.pu (st' := [.ref 18]) dk_55_12 L_55 rfl ?_
    refine Rn.lds dk_55_13 sl_55_13 ?_
    obtain ⟨r4, e5, h⟩ := bindS h
    refine Rn.cvI (p := 18) (As := [.ref (xm_K0 + 7)]) (rest := []) dk_55_15 ck_55_15.choose_spec rfl sk_18 rfl (x_56 (Nat.le_trans (Nat.le_of_ble_eq_true rfl) hD) (by decide) e5) ?_
    by_cases c6 : r4 = 0
    · rw [if_pos c6] at h
      refine Rn.i1t (t := 24) dk_55_18 rfl (decide_eq_true c6) ?_
      refine Rn.pu (st' := [.ref 18]) dk_55_24 L_55 rfl ?_
      refine Rn.gI dk_55_25 f_55_25.choose_spec sk_18 rfl ?_
      refine Rn.pu (st' := [.ref 18, .int (I 18 2)]) dk_55_28 L_55 rfl ?_
      refine Rn.gI dk_55_29 f_55_29.choose_spec sk_18 rfl ?_
      refine Rn.pu (st' := [.int ((I 18 2) - (I 18 1))]) dk_55_32 L_55 rfl ?_
      refine Rn.ic dk_55_33 cic_1 ?_
      refine Rn.pu (st' := [.int (((I 18 2) - (I 18 1)) - 1)]) dk_55_34 L_55 rfl ?_
      refine Rn.pu (ls' := [(1, .int (((I 18 2) - (I 18 1)) - 1)), (0, .ref 18)]) (st' := []) dk_55_35 L_55 rfl ?_
      refine Rn.pu (st' := [.ref 18]) dk_55_36 L_55 rfl ?_
      refine Rn.gR (r := 1) dk_55_37 f_55_37.choose_spec sk_18 rfl ?_
      refine Rn.pu (st' := [.ref 18, .ref 1]) dk_55_40 L_55 rfl ?_
      refine Rn.gI dk_55_41 f_55_41.choose_spec sk_18 rfl ?_
      obtain ⟨r7, e8, h⟩ := bindS h
      refine Rn.cvI (p := 1) (As := [.int (I 18 1)]) (rest := []) dk_55_44 ck_55_44.choose_spec rfl sk_1 rfl (x_48 (Nat.le_trans (Nat.le_of_ble_eq_true rfl) hD) e8) ?_
      refine Rn.bp dk_55_47 cbp_120 ?_
      by_cases c9 : ¬ r7 = 120
      · rw [if_pos c9] at h
        refine Rn.i2t (t := 62) dk_55_49 rfl (decide_eq_true c9) ?_
        refine Rn.ic dk_55_62 cic_m1 ?_
        cases h
        exact Rn.ri dk_55_63 R_55 rfl
      · rw [if_neg c9] at h
        refine Rn.i2f (t := 62) dk_55_49 rfl (decide_eq_false c9) ?_
        refine Rn.pu (st' := [.int (((I 18 2) - (I 18 1)) - 1)]) dk_55_52 L_55 rfl ?_
        refine Rn.ic dk_55_53 cic_1 ?_
        by_cases c10 : (((I 18 2) - (I 18 1)) - 1) < 1
        · rw [if_pos c10] at h
          refine Rn.i2t (t := 62) dk_55_54 rfl (decide_eq_true c10) ?_
          refine Rn.ic dk_55_62 cic_m1 ?_
          cases h
          exact Rn.ri dk_55_63 R_55 rfl
        · rw [if_neg c10] at h
          refine Rn.i2f (t := 62) dk_55_54 rfl (decide_eq_false c10) ?_
          refine Rn.pu (st' := [.int (((I 18 2) - (I 18 1)) - 1)]) dk_55_57 L_55 rfl ?_
          refine Rn.ic dk_55_58 cic_2 ?_
          by_cases c11 : (((I 18 2) - (I 18 1)) - 1) ≤ 2
          · rw [if_pos c11] at h
            refine Rn.i2t (t := 64) dk_55_59 rfl (decide_eq_true c11) ?_
            refine Rn.pu (st' := [.ref 18]) dk_55_64 L_55 rfl ?_
            refine Rn.gR (r := 1) dk_55_65 f_55_65.choose_spec sk_18 rfl ?_
            refine Rn.pu (st' := [.ref 18, .ref 1]) dk_55_68 L_55 rfl ?_
            refine Rn.gI dk_55_69 f_55_69.choose_spec sk_18 rfl ?_
            refine Rn.ic dk_55_72 cic_1 ?_
            refine Rn.pu (st' := [.int ((I 18 1) + 1), .ref 1]) dk_55_73 L_55 rfl ?_
            obtain ⟨r12, e13, h⟩ := bindS h
            refine Rn.cvI (p := 1) (As := [.int ((I 18 1) + 1)]) (rest := []) dk_55_74 ck_55_74.choose_spec rfl sk_1 rfl (x_48 (Nat.le_trans (Nat.le_of_ble_eq_true rfl) hD) e13) ?_
            refine Rn.pu (ls' := [(2, .int r12), (1, .int (((I 18 2) - (I 18 1)) - 1)), (0, .ref 18)]) (st' := []) dk_55_77 L_55 rfl ?_
            refine Rn.pu (st' := [.int r12]) dk_55_78 L_55 rfl ?_
            obtain ⟨r14, e15, h⟩ := bindS h
            refine Rn.csI (As := [.int r12]) (rest := []) dk_55_79 ck_55_79.choose_spec rfl (x_49 (Nat.le_trans (Nat.le_of_ble_eq_true rfl) hD) e15) ?_
            by_cases c16 : r14 = 0
            · rw [if_pos c16] at h
              refine Rn.i1t (t := 90) dk_55_82 rfl (decide_eq_true c16) ?_
              exact Rn.wk [0] rfl (p_55_90 hD _ _ _ _ h)
            · rw [if_neg c16] at h
              refine Rn.i1f (t := 90) dk_55_82 rfl (decide_eq_false c16) ?_
              refine Rn.pu (st' := [.int (((I 18 2) - (I 18 1)) - 1)]) dk_55_85 L_55 rfl ?_
              refine Rn.ic dk_55_86 cic_1 ?_
              by_cases c17 : ¬ (((I 18 2) - (I 18 1)) - 1) = 1
              · rw [if_pos c17] at h
                refine Rn.i2t (t := 106) dk_55_87 rfl (decide_eq_true c17) ?_
                refine Rn.pu (st' := [.ref 18]) dk_55_106 L_55 rfl ?_
                refine Rn.gR (r := 1) dk_55_107 f_55_107.choose_spec sk_18 rfl ?_
                refine Rn.pu (st' := [.ref 18, .ref 1]) dk_55_110 L_55 rfl ?_
                refine Rn.gI dk_55_111 f_55_111.choose_spec sk_18 rfl ?_
                refine Rn.ic dk_55_114 cic_2 ?_
                refine Rn.pu (st' := [.int ((I 18 1) + 2), .ref 1]) dk_55_115 L_55 rfl ?_
                obtain ⟨r18, e19, h⟩ := bindS h
                refine Rn.cvI (p := 1) (As := [.int ((I 18 1) + 2)]) (rest := []) dk_55_116 ck_55_116.choose_spec rfl sk_1 rfl (x_48 (Nat.le_trans (Nat.le_of_ble_eq_true rfl) hD) e19) ?_
                refine Rn.pu (ls' := [(3, .int r18), (2, .int r12), (1, .int (((I 18 2) - (I 18 1)) - 1)), (0, .ref 18)]) (st' := []) dk_55_119 L_55 rfl ?_
                refine Rn.pu (st' := [.int r12]) dk_55_120 L_55 rfl ?_
                refine Rn.bp dk_55_121 cbp_48 ?_
                refine Rn.pu (st' := [.int (r12 - 48)]) dk_55_123 L_55 rfl ?_
                refine Rn.bp dk_55_124 cbp_10 ?_
                refine Rn.pu (st' := [.int ((r12 - 48) * 10)]) dk_55_126 L_55 rfl ?_
                refine Rn.pu (st' := [.int r18, .int ((r12 - 48) * 10)]) dk_55_127 L_55 rfl ?_
                refine Rn.pu (st' := [.int (((r12 - 48) * 10) + r18)]) dk_55_128 L_55 rfl ?_
                refine Rn.bp dk_55_129 cbp_48 ?_
                refine Rn.pu (st' := [.int ((((r12 - 48) * 10) + r18) - 48)]) dk_55_131 L_55 rfl ?_
                refine Rn.pu (ls' := [(4, .int ((((r12 - 48) * 10) + r18) - 48)), (3, .int r18), (2, .int r12), (1, .int (((I 18 2) - (I 18 1)) - 1)), (0, .ref 18)]) (st' := []) dk_55_132 L_55 rfl ?_
                refine Rn.pu (st' := [.int r12]) dk_55_134 L_55 rfl ?_
                refine Rn.bp dk_55_135 cbp_48 ?_
                by_cases c20 : r12 = 48
                · rw [if_pos c20] at h
                  refine Rn.i2t (t := 159) dk_55_137 rfl (decide_eq_true c20) ?_
                  refine Rn.ic dk_55_159 cic_m1 ?_
                  cases h
                  exact Rn.ri dk_55_160 R_55 rfl
                · rw [if_neg c20] at h
                  refine Rn.i2f (t := 159) dk_55_137 rfl (decide_eq_false c20) ?_
                  refine Rn.pu (st' := [.int r18]) dk_55_140 L_55 rfl ?_
                  obtain ⟨r21, e22, h⟩ := bindS h
                  refine Rn.csI (As := [.int r18]) (rest := []) dk_55_141 ck_55_141.choose_spec rfl (x_49 (Nat.le_trans (Nat.le_of_ble_eq_true rfl) hD) e22) ?_
                  by_cases c23 : r21 = 0
                  · rw [if_pos c23] at h
                    refine Rn.i1t (t := 159) dk_55_144 rfl (decide_eq_true c23) ?_
                    refine Rn.ic dk_55_159 cic_m1 ?_
                    cases h
                    exact Rn.ri dk_55_160 R_55 rfl
                  · rw [if_neg c23] at h
                    refine Rn.i1f (t := 159) dk_55_144 rfl (decide_eq_false c23) ?_
                    refine Rn.pu (st' := [.int ((((r12 - 48) * 10) + r18) - 48)]) dk_55_147 L_55 rfl ?_
                    refine Rn.bp dk_55_149 cbp_32 ?_
                    by_cases c24 : 32 ≤ ((((r12 - 48) * 10) + r18) - 48)
                    · rw [if_pos c24] at h
                      refine Rn.i2t (t := 159) dk_55_151 rfl (decide_eq_true c24) ?_
                      refine Rn.ic dk_55_159 cic_m1 ?_
                      cases h
                      exact Rn.ri dk_55_160 R_55 rfl
                    · rw [if_neg c24] at h
                      refine Rn.i2f (t := 159) dk_55_151 rfl (decide_eq_false c24) ?_
                      refine Rn.pu (st' := [.int ((((r12 - 48) * 10) + r18) - 48)]) dk_55_154 L_55 rfl ?_
                      refine Rn.gt (t := 160) dk_55_156 rfl ?_
                      cases h
                      exact Rn.ri dk_55_160 R_55 rfl
              · rw [if_neg c17] at h
                refine Rn.i2f (t := 106) dk_55_87 rfl (decide_eq_false c17) ?_
                exact Rn.wk [0] rfl (p_55_90 hD _ _ _ _ h)
          · rw [if_neg c11] at h
            refine Rn.i2f (t := 64) dk_55_59 rfl (decide_eq_false c11) ?_
            refine Rn.ic dk_55_62 cic_m1 ?_
            cases h
            exact Rn.ri dk_55_63 R_55 rfl
    · rw [if_neg c6] at h
      refine Rn.i1f (t := 24) dk_55_18 rfl (decide_eq_false c6) ?_
      refine Rn.bp dk_55_21 cbp_33 ?_
      cases h
      exact Rn.ri dk_55_23 R_55 rfl
  · rw [if_neg c3] at h
    refine Rn.i1f (t := 12) dk_55_6 rfl (decide_eq_false c3) ?_
    refine Rn.bp dk_55_9 cbp_32 ?_
    cases h
    exact Rn.ri dk_55_11 R_55 rfl
def m_55 (I : dI) (J : dJ) : Option Int32 := b_55_0 I J
theorem x_55 {Q : Nat → Option Nat} {D : Nat} (hD : 4 ≤ D) {I : dI} {J : dJ} {R : Int32} (h : m_55 I J = some R) : Ex Q D 55 I J [.ref 18] (some (.int R)) I J := by
  obtain ⟨D, rfl⟩ : ∃ D', D = D' + 1 := ⟨D - 1, by omega⟩
  exact Ex.of (by decide) (by rw [L_55]; exact Nat.le_of_ble_eq_true rfl) (show xm_sub [(0, .ref 18)] [(0, .ref 18)] from xm_sub_of [0] [0] rfl rfl (by decide)) (p_55_0 (Nat.le_of_succ_le_succ hD) _ _ _ h)
-- ConditionDesk$Tokens.kindOfWord()I
theorem L_57 : tb_mL 57 = 1 := by decide +kernel
theorem R_57 : tb_mr 57 = some .int := by decide +kernel
theorem dk_57_0 : decode (tb_mb 57) 0 = .ok (.aload_n 0, 1) := by decide +kernel
theorem dk_57_1 : decode (tb_mb 57) 1 = .ok (.ldc 87, 2) := by decide +kernel
theorem sl_57_1 : tb_sl (tb_oc 57) 87 = some 8 := by decide +kernel
theorem dk_57_3 : decode (tb_mb 57) 3 = .ok (.invokevirtual 81, 3) := by decide +kernel
theorem ck_57_3 : ∃ b, tb_cr (tb_oc 57) 81 = some (0, 56, b, 1) := ⟨_, rfl⟩
theorem dk_57_6 : decode (tb_mb 57) 6 = .ok (.ifCond .eq (5), 3) := by decide +kernel
theorem dk_57_11 : decode (tb_mb 57) 11 = .ok (.aload_n 0, 1) := by decide +kernel
theorem dk_57_12 : decode (tb_mb 57) 12 = .ok (.ldc 89, 2) := by decide +kernel
theorem sl_57_12 : tb_sl (tb_oc 57) 89 = some 9 := by decide +kernel
theorem dk_57_14 : decode (tb_mb 57) 14 = .ok (.invokevirtual 81, 3) := by decide +kernel
theorem ck_57_14 : ∃ b, tb_cr (tb_oc 57) 81 = some (0, 56, b, 1) := ⟨_, rfl⟩
theorem dk_57_17 : decode (tb_mb 57) 17 = .ok (.ifCond .eq (6), 3) := by decide +kernel
theorem dk_57_23 : decode (tb_mb 57) 23 = .ok (.aload_n 0, 1) := by decide +kernel
theorem dk_57_24 : decode (tb_mb 57) 24 = .ok (.ldc 91, 2) := by decide +kernel
theorem sl_57_24 : tb_sl (tb_oc 57) 91 = some 10 := by decide +kernel
theorem dk_57_26 : decode (tb_mb 57) 26 = .ok (.invokevirtual 81, 3) := by decide +kernel
theorem ck_57_26 : ∃ b, tb_cr (tb_oc 57) 81 = some (0, 56, b, 1) := ⟨_, rfl⟩
theorem dk_57_29 : decode (tb_mb 57) 29 = .ok (.ifCond .eq (6), 3) := by decide +kernel
theorem dk_57_35 : decode (tb_mb 57) 35 = .ok (.aload_n 0, 1) := by decide +kernel
theorem dk_57_36 : decode (tb_mb 57) 36 = .ok (.ldc 93, 2) := by decide +kernel
theorem sl_57_36 : tb_sl (tb_oc 57) 93 = some 11 := by decide +kernel
theorem dk_57_38 : decode (tb_mb 57) 38 = .ok (.invokevirtual 81, 3) := by decide +kernel
theorem ck_57_38 : ∃ b, tb_cr (tb_oc 57) 81 = some (0, 56, b, 1) := ⟨_, rfl⟩
theorem dk_57_41 : decode (tb_mb 57) 41 = .ok (.ifCond .eq (6), 3) := by decide +kernel
theorem dk_57_47 : decode (tb_mb 57) 47 = .ok (.aload_n 0, 1) := by decide +kernel
theorem dk_57_48 : decode (tb_mb 57) 48 = .ok (.ldc 95, 2) := by decide +kernel
theorem sl_57_48 : tb_sl (tb_oc 57) 95 = some 12 := by decide +kernel
theorem dk_57_50 : decode (tb_mb 57) 50 = .ok (.invokevirtual 81, 3) := by decide +kernel
theorem ck_57_50 : ∃ b, tb_cr (tb_oc 57) 81 = some (0, 56, b, 1) := ⟨_, rfl⟩
theorem dk_57_53 : decode (tb_mb 57) 53 = .ok (.ifCond .eq (8), 3) := by decide +kernel
theorem dk_57_61 : decode (tb_mb 57) 61 = .ok (.iconst (2), 1) := by decide +kernel
theorem dk_57_62 : decode (tb_mb 57) 62 = .ok (.ireturn, 1) := by decide +kernel
theorem dk_57_56 : decode (tb_mb 57) 56 = .ok (.bipush (9), 2) := by decide +kernel
theorem dk_57_58 : decode (tb_mb 57) 58 = .ok (.goto (4), 3) := by decide +kernel
theorem dk_57_44 : decode (tb_mb 57) 44 = .ok (.bipush (8), 2) := by decide +kernel
theorem dk_57_46 : decode (tb_mb 57) 46 = .ok (.ireturn, 1) := by decide +kernel
theorem dk_57_32 : decode (tb_mb 57) 32 = .ok (.bipush (7), 2) := by decide +kernel
theorem dk_57_34 : decode (tb_mb 57) 34 = .ok (.ireturn, 1) := by decide +kernel
theorem dk_57_20 : decode (tb_mb 57) 20 = .ok (.bipush (6), 2) := by decide +kernel
theorem dk_57_22 : decode (tb_mb 57) 22 = .ok (.ireturn, 1) := by decide +kernel
theorem dk_57_9 : decode (tb_mb 57) 9 = .ok (.iconst (5), 1) := by decide +kernel
theorem dk_57_10 : decode (tb_mb 57) 10 = .ok (.ireturn, 1) := by decide +kernel
def b_57_0 (I : dI) (J : dJ) : Option Int32 := (m_56 8 I J).bind (fun r1 => if r1 = 0 then ((m_56 9 I J).bind (fun r4 => if r4 = 0 then ((m_56 10 I J).bind (fun r7 => if r7 = 0 then ((m_56 11 I J).bind (fun r10 => if r10 = 0 then ((m_56 12 I J).bind (fun r13 => if r13 = 0 then (some 2) else (some 9))) else (some 8))) else (some 7))) else (some 6))) else (some 5))
theorem p_57_0 {Q : Nat → Option Nat} {D : Nat} (hD : 3 ≤ D) (I : dI) (J : dJ) (R : Int32) (h : b_57_0 I J = some R) : Rn Q D 57 0 [(0, .ref 18)] [] I J (some (.int R)) I J := by
  replace h : ((m_56 8 I J).bind (fun r1 => if r1 = 0 then ((m_56 9 I J).bind (fun r4 => if r4 = 0 then ((m_56 10 I J).bind (fun r7 => if r7 = 0 then ((m_56 11 I J).bind (fun r10 => if r10 = 0 then ((m_56 12 I J).bind (fun r13 => if r13 = 0 then (some 2) else (some 9))) else (some 8))) else (some 7))) else (some 6))) else (some 5))) = some R := h
  refine Rn.pu (st' := [.ref 18]) dk_57_0 L_57 rfl ?_
  refine Rn.lds dk_57_1 sl_57_1 ?_
  obtain ⟨r1, e2, h⟩ := bindS h
  refine Rn.cvI (p := 18) (As := [.ref (xm_K0 + 8)]) (rest := []) dk_57_3 ck_57_3.choose_spec rfl sk_18 rfl (x_56 (Nat.le_trans (Nat.le_of_ble_eq_true rfl) hD) (by decide) e2) ?_
  by_cases c3 : r1 = 0
  · rw [if_pos c3] at h
    refine Rn.i1t (t := 11) dk_57_6 rfl (decide_eq_true c3) ?_
    refine Rn.pu (st' := [.ref 18]) dk_57_11 L_57 rfl ?_
    refine Rn.lds dk_57_12 sl_57_12 ?_
    obtain ⟨r4, e5, h⟩ := bindS h
    refine Rn.cvI (p := 18) (As := [.ref (xm_K0 + 9)]) (rest := []) dk_57_14 ck_57_14.choose_spec rfl sk_18 rfl (x_56 (Nat.le_trans (Nat.le_of_ble_eq_true rfl) hD) (by decide) e5) ?_
    by_cases c6 : r4 = 0
    · rw [if_pos c6] at h
      refine Rn.i1t (t := 23) dk_57_17 rfl (decide_eq_true c6) ?_
      refine Rn.pu (st' := [.ref 18]) dk_57_23 L_57 rfl ?_
      refine Rn.lds dk_57_24 sl_57_24 ?_
      obtain ⟨r7, e8, h⟩ := bindS h
      refine Rn.cvI (p := 18) (As := [.ref (xm_K0 + 10)]) (rest := []) dk_57_26 ck_57_26.choose_spec rfl sk_18 rfl (x_56 (Nat.le_trans (Nat.le_of_ble_eq_true rfl) hD) (by decide) e8) ?_
      by_cases c9 : r7 = 0
      · rw [if_pos c9] at h
        refine Rn.i1t (t := 35) dk_57_29 rfl (decide_eq_true c9) ?_
        refine Rn.pu (st' := [.ref 18]) dk_57_35 L_57 rfl ?_
        refine Rn.lds dk_57_36 sl_57_36 ?_
        obtain ⟨r10, e11, h⟩ := bindS h
        refine Rn.cvI (p := 18) (As := [.ref (xm_K0 + 11)]) (rest := []) dk_57_38 ck_57_38.choose_spec rfl sk_18 rfl (x_56 (Nat.le_trans (Nat.le_of_ble_eq_true rfl) hD) (by decide) e11) ?_
        by_cases c12 : r10 = 0
        · rw [if_pos c12] at h
          refine Rn.i1t (t := 47) dk_57_41 rfl (decide_eq_true c12) ?_
          refine Rn.pu (st' := [.ref 18]) dk_57_47 L_57 rfl ?_
          refine Rn.lds dk_57_48 sl_57_48 ?_
          obtain ⟨r13, e14, h⟩ := bindS h
          refine Rn.cvI (p := 18) (As := [.ref (xm_K0 + 12)]) (rest := []) dk_57_50 ck_57_50.choose_spec rfl sk_18 rfl (x_56 (Nat.le_trans (Nat.le_of_ble_eq_true rfl) hD) (by decide) e14) ?_
          by_cases c15 : r13 = 0
          · rw [if_pos c15] at h
            refine Rn.i1t (t := 61) dk_57_53 rfl (decide_eq_true c15) ?_
            refine Rn.ic dk_57_61 cic_2 ?_
            cases h
            exact Rn.ri dk_57_62 R_57 rfl
          · rw [if_neg c15] at h
            refine Rn.i1f (t := 61) dk_57_53 rfl (decide_eq_false c15) ?_
            refine Rn.bp dk_57_56 cbp_9 ?_
            refine Rn.gt (t := 62) dk_57_58 rfl ?_
            cases h
            exact Rn.ri dk_57_62 R_57 rfl
        · rw [if_neg c12] at h
          refine Rn.i1f (t := 47) dk_57_41 rfl (decide_eq_false c12) ?_
          refine Rn.bp dk_57_44 cbp_8 ?_
          cases h
          exact Rn.ri dk_57_46 R_57 rfl
      · rw [if_neg c9] at h
        refine Rn.i1f (t := 35) dk_57_29 rfl (decide_eq_false c9) ?_
        refine Rn.bp dk_57_32 cbp_7 ?_
        cases h
        exact Rn.ri dk_57_34 R_57 rfl
    · rw [if_neg c6] at h
      refine Rn.i1f (t := 23) dk_57_17 rfl (decide_eq_false c6) ?_
      refine Rn.bp dk_57_20 cbp_6 ?_
      cases h
      exact Rn.ri dk_57_22 R_57 rfl
  · rw [if_neg c3] at h
    refine Rn.i1f (t := 11) dk_57_6 rfl (decide_eq_false c3) ?_
    refine Rn.ic dk_57_9 cic_5 ?_
    cases h
    exact Rn.ri dk_57_10 R_57 rfl
def m_57 (I : dI) (J : dJ) : Option Int32 := b_57_0 I J
theorem x_57 {Q : Nat → Option Nat} {D : Nat} (hD : 4 ≤ D) {I : dI} {J : dJ} {R : Int32} (h : m_57 I J = some R) : Ex Q D 57 I J [.ref 18] (some (.int R)) I J := by
  obtain ⟨D, rfl⟩ : ∃ D', D = D' + 1 := ⟨D - 1, by omega⟩
  exact Ex.of (by decide) (by rw [L_57]; exact Nat.le_of_ble_eq_true rfl) (show xm_sub [(0, .ref 18)] [(0, .ref 18)] from xm_sub_of [0] [0] rfl rfl (by decide)) (p_57_0 (Nat.le_of_succ_le_succ hD) _ _ _ h)
-- ConditionDesk$Tokens.readWord()V
theorem L_54 : tb_mL 54 = 2 := by decide +kernel
theorem R_54 : tb_mr 54 = none := by decide +kernel
theorem dk_54_0 : decode (tb_mb 54) 0 = .ok (.aload_n 0, 1) := by decide +kernel
theorem dk_54_1 : decode (tb_mb 54) 1 = .ok (.getfield 15, 3) := by decide +kernel
theorem f_54_1 : ∃ b, tb_fr (tb_oc 54) 15 = some (6, 2, b) := ⟨_, rfl⟩
theorem dk_54_4 : decode (tb_mb 54) 4 = .ok (.aload_n 0, 1) := by decide +kernel
theorem dk_54_5 : decode (tb_mb 54) 5 = .ok (.getfield 25, 3) := by decide +kernel
theorem f_54_5 : ∃ b, tb_fr (tb_oc 54) 25 = some (6, 0, b) := ⟨_, rfl⟩
theorem dk_54_8 : decode (tb_mb 54) 8 = .ok (.getfield 38, 3) := by decide +kernel
theorem f_54_8 : ∃ b, tb_fr (tb_oc 54) 38 = some (5, 1, b) := ⟨_, rfl⟩
theorem dk_54_11 : decode (tb_mb 54) 11 = .ok (.if_icmp .ge (33), 3) := by decide +kernel
theorem dk_54_44 : decode (tb_mb 54) 44 = .ok (.aload_n 0, 1) := by decide +kernel
theorem dk_54_45 : decode (tb_mb 54) 45 = .ok (.invokevirtual 72, 3) := by decide +kernel
theorem ck_54_45 : ∃ b, tb_cr (tb_oc 54) 72 = some (0, 55, b, 0) := ⟨_, rfl⟩
theorem dk_54_48 : decode (tb_mb 54) 48 = .ok (.istore_n 1, 1) := by decide +kernel
theorem dk_54_49 : decode (tb_mb 54) 49 = .ok (.iload_n 1, 1) := by decide +kernel
theorem dk_54_50 : decode (tb_mb 54) 50 = .ok (.ifCond .lt (17), 3) := by decide +kernel
theorem dk_54_67 : decode (tb_mb 54) 67 = .ok (.aload_n 0, 1) := by decide +kernel
theorem dk_54_68 : decode (tb_mb 54) 68 = .ok (.aload_n 0, 1) := by decide +kernel
theorem dk_54_69 : decode (tb_mb 54) 69 = .ok (.invokevirtual 76, 3) := by decide +kernel
theorem ck_54_69 : ∃ b, tb_cr (tb_oc 54) 76 = some (0, 57, b, 0) := ⟨_, rfl⟩
theorem dk_54_72 : decode (tb_mb 54) 72 = .ok (.putfield 18, 3) := by decide +kernel
theorem f_54_72 : ∃ b, tb_fr (tb_oc 54) 18 = some (6, 3, b) ∧ xm_fin tb_cl (tb_ini 54) b 6 3 = true := ⟨_, rfl, rfl⟩
theorem dk_54_75 : decode (tb_mb 54) 75 = .ok (.return_, 1) := by decide +kernel
theorem dk_54_53 : decode (tb_mb 54) 53 = .ok (.aload_n 0, 1) := by decide +kernel
theorem dk_54_54 : decode (tb_mb 54) 54 = .ok (.iconst (4), 1) := by decide +kernel
theorem dk_54_55 : decode (tb_mb 54) 55 = .ok (.putfield 18, 3) := by decide +kernel
theorem f_54_55 : ∃ b, tb_fr (tb_oc 54) 18 = some (6, 3, b) ∧ xm_fin tb_cl (tb_ini 54) b 6 3 = true := ⟨_, rfl, rfl⟩
theorem dk_54_58 : decode (tb_mb 54) 58 = .ok (.aload_n 0, 1) := by decide +kernel
theorem dk_54_59 : decode (tb_mb 54) 59 = .ok (.iload_n 1, 1) := by decide +kernel
theorem dk_54_60 : decode (tb_mb 54) 60 = .ok (.i2l, 1) := by decide +kernel
theorem dk_54_61 : decode (tb_mb 54) 61 = .ok (.putfield 21, 3) := by decide +kernel
theorem f_54_61 : ∃ b, tb_fr (tb_oc 54) 21 = some (6, 4, b) ∧ xm_fin tb_cl (tb_ini 54) b 6 4 = true := ⟨_, rfl, rfl⟩
theorem dk_54_64 : decode (tb_mb 54) 64 = .ok (.goto (11), 3) := by decide +kernel
theorem dk_54_14 : decode (tb_mb 54) 14 = .ok (.aload_n 0, 1) := by decide +kernel
theorem dk_54_15 : decode (tb_mb 54) 15 = .ok (.getfield 25, 3) := by decide +kernel
theorem f_54_15 : ∃ b, tb_fr (tb_oc 54) 25 = some (6, 0, b) := ⟨_, rfl⟩
theorem dk_54_18 : decode (tb_mb 54) 18 = .ok (.aload_n 0, 1) := by decide +kernel
theorem dk_54_19 : decode (tb_mb 54) 19 = .ok (.getfield 15, 3) := by decide +kernel
theorem f_54_19 : ∃ b, tb_fr (tb_oc 54) 15 = some (6, 2, b) := ⟨_, rfl⟩
theorem dk_54_22 : decode (tb_mb 54) 22 = .ok (.invokevirtual 32, 3) := by decide +kernel
theorem ck_54_22 : ∃ b, tb_cr (tb_oc 54) 32 = some (0, 48, b, 1) := ⟨_, rfl⟩
theorem dk_54_25 : decode (tb_mb 54) 25 = .ok (.invokestatic 69, 3) := by decide +kernel
theorem ck_54_25 : ∃ b, tb_cr (tb_oc 54) 69 = some (1, 52, b, 1) := ⟨_, rfl⟩
theorem dk_54_28 : decode (tb_mb 54) 28 = .ok (.ifCond .eq (16), 3) := by decide +kernel
theorem dk_54_31 : decode (tb_mb 54) 31 = .ok (.aload_n 0, 1) := by decide +kernel
theorem dk_54_32 : decode (tb_mb 54) 32 = .ok (.dup, 1) := by decide +kernel
theorem dk_54_33 : decode (tb_mb 54) 33 = .ok (.getfield 15, 3) := by decide +kernel
theorem f_54_33 : ∃ b, tb_fr (tb_oc 54) 15 = some (6, 2, b) := ⟨_, rfl⟩
theorem dk_54_36 : decode (tb_mb 54) 36 = .ok (.iconst (1), 1) := by decide +kernel
theorem dk_54_37 : decode (tb_mb 54) 37 = .ok (.iadd, 1) := by decide +kernel
theorem dk_54_38 : decode (tb_mb 54) 38 = .ok (.putfield 15, 3) := by decide +kernel
theorem f_54_38 : ∃ b, tb_fr (tb_oc 54) 15 = some (6, 2, b) ∧ xm_fin tb_cl (tb_ini 54) b 6 2 = true := ⟨_, rfl, rfl⟩
theorem dk_54_41 : decode (tb_mb 54) 41 = .ok (.goto (-41), 3) := by decide +kernel
def b_54_44 (I : dI) (J : dJ) : Option (dI × dJ) := (m_55 I J).bind (fun r2 => if r2 < 0 then ((m_57 I J).bind (fun r5 => lt_ (sI I 18 3 r5) (fun I7 => some (I7, J)))) else (lt_ (sI I 18 3 4) (fun I8 => lt_ (sJ J 18 4 (Int32.toInt64 r2)) (fun J9 => some (I8, J9)))))
theorem p_54_44 {Q : Nat → Option Nat} {D : Nat} (hD : 4 ≤ D) (I : dI) (J : dJ) (R : (dI × dJ)) (h : b_54_44 I J = some R) : Rn Q D 54 44 [(0, .ref 18)] [] I J (none) R.1 R.2 := by
  replace h : ((m_55 I J).bind (fun r2 => if r2 < 0 then ((m_57 I J).bind (fun r5 => lt_ (sI I 18 3 r5) (fun I7 => some (I7, J)))) else (lt_ (sI I 18 3 4) (fun I8 => lt_ (sJ J 18 4 (Int32.toInt64 r2)) (fun J9 => some (I8, J9)))))) = some R := h
  refine Rn.pu (st' := [.ref 18]) dk_54_44 L_54 rfl ?_
  obtain ⟨r2, e3, h⟩ := bindS h
  refine Rn.cvI (p := 18) (As := []) (rest := []) dk_54_45 ck_54_45.choose_spec rfl sk_18 rfl (x_55 (Nat.le_trans (Nat.le_of_ble_eq_true rfl) hD) e3) ?_
  refine Rn.pu (ls' := [(1, .int r2), (0, .ref 18)]) (st' := []) dk_54_48 L_54 rfl ?_
  refine Rn.pu (st' := [.int r2]) dk_54_49 L_54 rfl ?_
  by_cases c4 : r2 < 0
  · rw [if_pos c4] at h
    refine Rn.i1t (t := 67) dk_54_50 rfl (decide_eq_true c4) ?_
    refine Rn.pu (st' := [.ref 18]) dk_54_67 L_54 rfl ?_
    refine Rn.pu (st' := [.ref 18, .ref 18]) dk_54_68 L_54 rfl ?_
    obtain ⟨r5, e6, h⟩ := bindS h
    refine Rn.cvI (p := 18) (As := []) (rest := [.ref 18]) dk_54_69 ck_54_69.choose_spec rfl sk_18 rfl (x_57 (Nat.le_trans (Nat.le_of_ble_eq_true rfl) hD) e6) ?_
    obtain ⟨I7, eI7, h⟩ := letS h
    refine Rn.pI dk_54_72 f_54_72.choose_spec.1 sk_18 rfl f_54_72.choose_spec.2 rfl rfl ?_
    rw [← eI7]
    cases h
    exact Rn.rv dk_54_75 R_54
  · rw [if_neg c4] at h
    refine Rn.i1f (t := 67) dk_54_50 rfl (decide_eq_false c4) ?_
    refine Rn.pu (st' := [.ref 18]) dk_54_53 L_54 rfl ?_
    refine Rn.ic dk_54_54 cic_4 ?_
    obtain ⟨I8, eI8, h⟩ := letS h
    refine Rn.pI dk_54_55 f_54_55.choose_spec.1 sk_18 rfl f_54_55.choose_spec.2 rfl rfl ?_
    rw [← eI8]
    refine Rn.pu (st' := [.ref 18]) dk_54_58 L_54 rfl ?_
    refine Rn.pu (st' := [.int r2, .ref 18]) dk_54_59 L_54 rfl ?_
    refine Rn.pu (st' := [.long (Int32.toInt64 r2), .ref 18]) dk_54_60 L_54 rfl ?_
    obtain ⟨J9, eJ9, h⟩ := letS h
    refine Rn.pJ dk_54_61 f_54_61.choose_spec.1 sk_18 rfl f_54_61.choose_spec.2 rfl rfl ?_
    rw [← eJ9]
    refine Rn.gt (t := 75) dk_54_64 rfl ?_
    cases h
    exact Rn.rv dk_54_75 R_54
def b_54_0 : Nat → dI → dJ → Option (dI × dJ)
  | 0, _, _ => none
  | n + 1, I, J => if (I 1 1) ≤ (I 18 2) then (b_54_44 I J) else ((m_48 (I 18 2) I J).bind (fun r2 => (m_52 r2 I J).bind (fun r4 => if r4 = 0 then (b_54_44 I J) else (lt_ (sI I 18 2 ((I 18 2) + 1)) (fun I7 => (b_54_0 n) I7 J)))))
theorem p_54_0 {Q : Nat → Option Nat} {D : Nat} (hD : 4 ≤ D) : ∀ (n : Nat) (I : dI) (J : dJ) (R : (dI × dJ)), b_54_0 n I J = some R → Rn Q D 54 0 [(0, .ref 18)] [] I J (none) R.1 R.2 := by
  intro n
  induction n with
  | zero => intro I J R h; exact absurd h (by simp [b_54_0])
  | succ n ih =>
    intro I J R h
    replace h : (if (I 1 1) ≤ (I 18 2) then (b_54_44 I J) else ((m_48 (I 18 2) I J).bind (fun r2 => (m_52 r2 I J).bind (fun r4 => if r4 = 0 then (b_54_44 I J) else (lt_ (sI I 18 2 ((I 18 2) + 1)) (fun I7 => (b_54_0 n) I7 J)))))) = some R := h
    refine Rn.pu (st' := [.ref 18]) dk_54_0 L_54 rfl ?_
    refine Rn.gI dk_54_1 f_54_1.choose_spec sk_18 rfl ?_
    refine Rn.pu (st' := [.ref 18, .int (I 18 2)]) dk_54_4 L_54 rfl ?_
    refine Rn.gR (r := 1) dk_54_5 f_54_5.choose_spec sk_18 rfl ?_
    refine Rn.gI dk_54_8 f_54_8.choose_spec sk_1 rfl ?_
    by_cases c1 : (I 1 1) ≤ (I 18 2)
    · rw [if_pos c1] at h
      refine Rn.i2t (t := 44) dk_54_11 rfl (decide_eq_true c1) ?_
      exact Rn.wk [0] rfl (p_54_44 hD _ _ _ h)
    · rw [if_neg c1] at h
      refine Rn.i2f (t := 44) dk_54_11 rfl (decide_eq_false c1) ?_
      refine Rn.pu (st' := [.ref 18]) dk_54_14 L_54 rfl ?_
      refine Rn.gR (r := 1) dk_54_15 f_54_15.choose_spec sk_18 rfl ?_
      refine Rn.pu (st' := [.ref 18, .ref 1]) dk_54_18 L_54 rfl ?_
      refine Rn.gI dk_54_19 f_54_19.choose_spec sk_18 rfl ?_
      obtain ⟨r2, e3, h⟩ := bindS h
      refine Rn.cvI (p := 1) (As := [.int (I 18 2)]) (rest := []) dk_54_22 ck_54_22.choose_spec rfl sk_1 rfl (x_48 (Nat.le_trans (Nat.le_of_ble_eq_true rfl) hD) e3) ?_
      obtain ⟨r4, e5, h⟩ := bindS h
      refine Rn.csI (As := [.int r2]) (rest := []) dk_54_25 ck_54_25.choose_spec rfl (x_52 (Nat.le_trans (Nat.le_of_ble_eq_true rfl) hD) e5) ?_
      by_cases c6 : r4 = 0
      · rw [if_pos c6] at h
        refine Rn.i1t (t := 44) dk_54_28 rfl (decide_eq_true c6) ?_
        exact Rn.wk [0] rfl (p_54_44 hD _ _ _ h)
      · rw [if_neg c6] at h
        refine Rn.i1f (t := 44) dk_54_28 rfl (decide_eq_false c6) ?_
        refine Rn.pu (st' := [.ref 18]) dk_54_31 L_54 rfl ?_
        refine Rn.pu (st' := [.ref 18, .ref 18]) dk_54_32 L_54 rfl ?_
        refine Rn.gI dk_54_33 f_54_33.choose_spec sk_18 rfl ?_
        refine Rn.ic dk_54_36 cic_1 ?_
        refine Rn.pu (st' := [.int ((I 18 2) + 1), .ref 18]) dk_54_37 L_54 rfl ?_
        obtain ⟨I7, eI7, h⟩ := letS h
        refine Rn.pI dk_54_38 f_54_38.choose_spec.1 sk_18 rfl f_54_38.choose_spec.2 rfl rfl ?_
        rw [← eI7]
        refine Rn.gt (t := 0) dk_54_41 rfl ?_
        exact Rn.wk [0] rfl (ih _ _ _ h)
def m_54 (I : dI) (J : dJ) : Option (dI × dJ) := b_54_0 FU I J
theorem x_54 {Q : Nat → Option Nat} {D : Nat} (hD : 5 ≤ D) {I : dI} {J : dJ} {R : (dI × dJ)} (h : m_54 I J = some R) : Ex Q D 54 I J [.ref 18] (none) R.1 R.2 := by
  obtain ⟨D, rfl⟩ : ∃ D', D = D' + 1 := ⟨D - 1, by omega⟩
  exact Ex.of (by decide) (by rw [L_54]; exact Nat.le_of_ble_eq_true rfl) (show xm_sub [(0, .ref 18)] [(0, .ref 18)] from xm_sub_of [0] [0] rfl rfl (by decide)) (p_54_0 (Nat.le_of_succ_le_succ hD) FU _ _ _ h)
-- ConditionDesk$Tokens.kindOfDouble(C)I
theorem L_59 : tb_mL 59 = 1 := by decide +kernel
theorem R_59 : tb_mr 59 = some .int := by decide +kernel
theorem dk_59_0 : decode (tb_mb 59) 0 = .ok (.iload_n 0, 1) := by decide +kernel
theorem dk_59_1 : decode (tb_mb 59) 1 = .ok (.lookupswitch (66) #[(38, 54), (60, 60), (61, 57), (62, 63), (124, 51)], 51) := by decide +kernel
theorem dk_59_55 : decode (tb_mb 59) 55 = .ok (.bipush (17), 2) := by decide +kernel
theorem dk_59_57 : decode (tb_mb 59) 57 = .ok (.ireturn, 1) := by decide +kernel
theorem dk_59_61 : decode (tb_mb 59) 61 = .ok (.bipush (27), 2) := by decide +kernel
theorem dk_59_63 : decode (tb_mb 59) 63 = .ok (.ireturn, 1) := by decide +kernel
theorem dk_59_58 : decode (tb_mb 59) 58 = .ok (.bipush (18), 2) := by decide +kernel
theorem dk_59_60 : decode (tb_mb 59) 60 = .ok (.ireturn, 1) := by decide +kernel
theorem dk_59_64 : decode (tb_mb 59) 64 = .ok (.bipush (28), 2) := by decide +kernel
theorem dk_59_66 : decode (tb_mb 59) 66 = .ok (.ireturn, 1) := by decide +kernel
theorem dk_59_52 : decode (tb_mb 59) 52 = .ok (.bipush (16), 2) := by decide +kernel
theorem dk_59_54 : decode (tb_mb 59) 54 = .ok (.ireturn, 1) := by decide +kernel
theorem dk_59_67 : decode (tb_mb 59) 67 = .ok (.iconst (1), 1) := by decide +kernel
theorem dk_59_68 : decode (tb_mb 59) 68 = .ok (.ireturn, 1) := by decide +kernel
def b_59_0 (x0 : Int32) (I : dI) (J : dJ) : Option Int32 := if x0 = 38 then (some 17) else if x0 = 60 then (some 27) else if x0 = 61 then (some 18) else if x0 = 62 then (some 28) else if x0 = 124 then (some 16) else (some 1)
theorem p_59_0 {Q : Nat → Option Nat} {D : Nat} (hD : 1 ≤ D) (x0 : Int32) (I : dI) (J : dJ) (R : Int32) (h : b_59_0 x0 I J = some R) : Rn Q D 59 0 [(0, .int x0)] [] I J (some (.int R)) I J := by
  replace h : (if x0 = 38 then (some 17) else if x0 = 60 then (some 27) else if x0 = 61 then (some 18) else if x0 = 62 then (some 28) else if x0 = 124 then (some 16) else (some 1)) = some R := h
  refine Rn.pu (st' := [.int x0]) dk_59_0 L_59 rfl ?_
  by_cases c1 : x0 = 38
  · rw [if_pos c1] at h
    refine Rn.sw (t := 55) (st' := []) dk_59_1 (fun _ _ => rfl) (by rw [c1]; rfl) ?_
    refine Rn.bp dk_59_55 cbp_17 ?_
    cases h
    exact Rn.ri dk_59_57 R_59 rfl
  · rw [if_neg c1] at h
    by_cases c2 : x0 = 60
    · rw [if_pos c2] at h
      refine Rn.sw (t := 61) (st' := []) dk_59_1 (fun _ _ => rfl) (by rw [c2]; rfl) ?_
      refine Rn.bp dk_59_61 cbp_27 ?_
      cases h
      exact Rn.ri dk_59_63 R_59 rfl
    · rw [if_neg c2] at h
      by_cases c3 : x0 = 61
      · rw [if_pos c3] at h
        refine Rn.sw (t := 58) (st' := []) dk_59_1 (fun _ _ => rfl) (by rw [c3]; rfl) ?_
        refine Rn.bp dk_59_58 cbp_18 ?_
        cases h
        exact Rn.ri dk_59_60 R_59 rfl
      · rw [if_neg c3] at h
        by_cases c4 : x0 = 62
        · rw [if_pos c4] at h
          refine Rn.sw (t := 64) (st' := []) dk_59_1 (fun _ _ => rfl) (by rw [c4]; rfl) ?_
          refine Rn.bp dk_59_64 cbp_28 ?_
          cases h
          exact Rn.ri dk_59_66 R_59 rfl
        · rw [if_neg c4] at h
          by_cases c5 : x0 = 124
          · rw [if_pos c5] at h
            refine Rn.sw (t := 52) (st' := []) dk_59_1 (fun _ _ => rfl) (by rw [c5]; rfl) ?_
            refine Rn.bp dk_59_52 cbp_16 ?_
            cases h
            exact Rn.ri dk_59_54 R_59 rfl
          · rw [if_neg c5] at h
            have q1 := (i_ne c1 (z := 38) rfl).symm
            have q2 := (i_ne c2 (z := 60) rfl).symm
            have q3 := (i_ne c3 (z := 61) rfl).symm
            have q4 := (i_ne c4 (z := 62) rfl).symm
            have q5 := (i_ne c5 (z := 124) rfl).symm
            have q0 : xm_br (.lookupswitch (66) #[(38, 54), (60, 60), (61, 57), (62, 63), (124, 51)]) 51 1 (.int x0 :: []) = some (true, 67, []) := lk_def (by decide) (by simp [Op.lookupswitch.offset, q1, q2, q3, q4, q5]) rfl
            refine Rn.sw dk_59_1 (fun _ _ => rfl) q0 ?_
            refine Rn.ic dk_59_67 cic_1 ?_
            cases h
            exact Rn.ri dk_59_68 R_59 rfl
def m_59 (x0 : Int32) (I : dI) (J : dJ) : Option Int32 := b_59_0 x0 I J
theorem x_59 {Q : Nat → Option Nat} {D : Nat} (hD : 2 ≤ D) {x0 : Int32} {I : dI} {J : dJ} {R : Int32} (h : m_59 x0 I J = some R) : Ex Q D 59 I J [.int x0] (some (.int R)) I J := by
  obtain ⟨D, rfl⟩ : ∃ D', D = D' + 1 := ⟨D - 1, by omega⟩
  exact Ex.of (by decide) (by rw [L_59]; exact Nat.le_of_ble_eq_true rfl) (show xm_sub [(0, .int x0)] [(0, .int x0)] from xm_sub_of [0] [0] rfl rfl (by decide)) (p_59_0 (Nat.le_of_succ_le_succ hD) _ _ _ _ h)
-- ConditionDesk$Tokens.kindWithEqual(C)I
theorem L_60 : tb_mL 60 = 1 := by decide +kernel
theorem R_60 : tb_mr 60 = some .int := by decide +kernel
theorem dk_60_0 : decode (tb_mb 60) 0 = .ok (.iload_n 0, 1) := by decide +kernel
theorem dk_60_1 : decode (tb_mb 60) 1 = .ok (.lookupswitch (44) #[(33, 35), (60, 38), (62, 41)], 35) := by decide +kernel
theorem dk_60_36 : decode (tb_mb 60) 36 = .ok (.bipush (19), 2) := by decide +kernel
theorem dk_60_38 : decode (tb_mb 60) 38 = .ok (.ireturn, 1) := by decide +kernel
theorem dk_60_39 : decode (tb_mb 60) 39 = .ok (.bipush (21), 2) := by decide +kernel
theorem dk_60_41 : decode (tb_mb 60) 41 = .ok (.ireturn, 1) := by decide +kernel
theorem dk_60_42 : decode (tb_mb 60) 42 = .ok (.bipush (23), 2) := by decide +kernel
theorem dk_60_44 : decode (tb_mb 60) 44 = .ok (.ireturn, 1) := by decide +kernel
theorem dk_60_45 : decode (tb_mb 60) 45 = .ok (.iconst (1), 1) := by decide +kernel
theorem dk_60_46 : decode (tb_mb 60) 46 = .ok (.ireturn, 1) := by decide +kernel
def b_60_0 (x0 : Int32) (I : dI) (J : dJ) : Option Int32 := if x0 = 33 then (some 19) else if x0 = 60 then (some 21) else if x0 = 62 then (some 23) else (some 1)
theorem p_60_0 {Q : Nat → Option Nat} {D : Nat} (hD : 1 ≤ D) (x0 : Int32) (I : dI) (J : dJ) (R : Int32) (h : b_60_0 x0 I J = some R) : Rn Q D 60 0 [(0, .int x0)] [] I J (some (.int R)) I J := by
  replace h : (if x0 = 33 then (some 19) else if x0 = 60 then (some 21) else if x0 = 62 then (some 23) else (some 1)) = some R := h
  refine Rn.pu (st' := [.int x0]) dk_60_0 L_60 rfl ?_
  by_cases c1 : x0 = 33
  · rw [if_pos c1] at h
    refine Rn.sw (t := 36) (st' := []) dk_60_1 (fun _ _ => rfl) (by rw [c1]; rfl) ?_
    refine Rn.bp dk_60_36 cbp_19 ?_
    cases h
    exact Rn.ri dk_60_38 R_60 rfl
  · rw [if_neg c1] at h
    by_cases c2 : x0 = 60
    · rw [if_pos c2] at h
      refine Rn.sw (t := 39) (st' := []) dk_60_1 (fun _ _ => rfl) (by rw [c2]; rfl) ?_
      refine Rn.bp dk_60_39 cbp_21 ?_
      cases h
      exact Rn.ri dk_60_41 R_60 rfl
    · rw [if_neg c2] at h
      by_cases c3 : x0 = 62
      · rw [if_pos c3] at h
        refine Rn.sw (t := 42) (st' := []) dk_60_1 (fun _ _ => rfl) (by rw [c3]; rfl) ?_
        refine Rn.bp dk_60_42 cbp_23 ?_
        cases h
        exact Rn.ri dk_60_44 R_60 rfl
      · rw [if_neg c3] at h
        have q1 := (i_ne c1 (z := 33) rfl).symm
        have q2 := (i_ne c2 (z := 60) rfl).symm
        have q3 := (i_ne c3 (z := 62) rfl).symm
        have q0 : xm_br (.lookupswitch (44) #[(33, 35), (60, 38), (62, 41)]) 35 1 (.int x0 :: []) = some (true, 45, []) := lk_def (by decide) (by simp [Op.lookupswitch.offset, q1, q2, q3]) rfl
        refine Rn.sw dk_60_1 (fun _ _ => rfl) q0 ?_
        refine Rn.ic dk_60_45 cic_1 ?_
        cases h
        exact Rn.ri dk_60_46 R_60 rfl
def m_60 (x0 : Int32) (I : dI) (J : dJ) : Option Int32 := b_60_0 x0 I J
theorem x_60 {Q : Nat → Option Nat} {D : Nat} (hD : 2 ≤ D) {x0 : Int32} {I : dI} {J : dJ} {R : Int32} (h : m_60 x0 I J = some R) : Ex Q D 60 I J [.int x0] (some (.int R)) I J := by
  obtain ⟨D, rfl⟩ : ∃ D', D = D' + 1 := ⟨D - 1, by omega⟩
  exact Ex.of (by decide) (by rw [L_60]; exact Nat.le_of_ble_eq_true rfl) (show xm_sub [(0, .int x0)] [(0, .int x0)] from xm_sub_of [0] [0] rfl rfl (by decide)) (p_60_0 (Nat.le_of_succ_le_succ hD) _ _ _ _ h)
