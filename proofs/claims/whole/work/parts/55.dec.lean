/-! Printed by wip/whole/gen_dec.py: methods read back. -/
-- ConditionDeskModel.compile(I)I
theorem L_97 : tb_mL 97 = 4 := by decide +kernel
theorem R_97 : tb_mr 97 = some .int := by decide +kernel
theorem dk_97_0 : decode (tb_mb 97) 0 = .ok (.aload_n 0, 1) := by decide +kernel
theorem dk_97_1 : decode (tb_mb 97) 1 = .ok (.iload_n 1, 1) := by decide +kernel
theorem dk_97_2 : decode (tb_mb 97) 2 = .ok (.i2l, 1) := by decide +kernel
theorem dk_97_3 : decode (tb_mb 97) 3 = .ok (.lconst 0, 1) := by decide +kernel
theorem dk_97_4 : decode (tb_mb 97) 4 = .ok (.ldc2_w 182, 3) := by decide +kernel
theorem kl_97_4 : tb_kl (tb_oc 97) 182 = some (7) := by decide +kernel
theorem dk_97_7 : decode (tb_mb 97) 7 = .ok (.invokestatic 184, 3) := by decide +kernel
theorem ck_97_7 : ∃ b, tb_cr (tb_oc 97) 184 = some (1, 98, b, 3) := ⟨_, rfl⟩
theorem dk_97_10 : decode (tb_mb 97) 10 = .ok (.ifCond .ne (7), 3) := by decide +kernel
theorem dk_97_17 : decode (tb_mb 97) 17 = .ok (.iconst (0), 1) := by decide +kernel
theorem dk_97_18 : decode (tb_mb 97) 18 = .ok (.iconst (0), 1) := by decide +kernel
theorem dk_97_19 : decode (tb_mb 97) 19 = .ok (.invokevirtual 188, 3) := by decide +kernel
theorem ck_97_19 : ∃ b, tb_cr (tb_oc 97) 188 = some (0, 99, b, 2) := ⟨_, rfl⟩
theorem dk_97_22 : decode (tb_mb 97) 22 = .ok (.ifCond .eq (5), 3) := by decide +kernel
theorem dk_97_27 : decode (tb_mb 97) 27 = .ok (.aload_n 0, 1) := by decide +kernel
theorem dk_97_28 : decode (tb_mb 97) 28 = .ok (.invokevirtual 192, 3) := by decide +kernel
theorem ck_97_28 : ∃ b, tb_cr (tb_oc 97) 192 = some (0, 100, b, 0) := ⟨_, rfl⟩
theorem dk_97_31 : decode (tb_mb 97) 31 = .ok (.istore_n 2, 1) := by decide +kernel
theorem dk_97_32 : decode (tb_mb 97) 32 = .ok (.aload_n 0, 1) := by decide +kernel
theorem dk_97_33 : decode (tb_mb 97) 33 = .ok (.iconst (0), 1) := by decide +kernel
theorem dk_97_34 : decode (tb_mb 97) 34 = .ok (.putfield 95, 3) := by decide +kernel
theorem f_97_34 : ∃ b, tb_fr (tb_oc 97) 95 = some (9, 1, b) ∧ xm_fin tb_cl (tb_ini 97) b 9 1 = true := ⟨_, rfl, rfl⟩
theorem dk_97_37 : decode (tb_mb 97) 37 = .ok (.aload_n 0, 1) := by decide +kernel
theorem dk_97_38 : decode (tb_mb 97) 38 = .ok (.getfield 154, 3) := by decide +kernel
theorem f_97_38 : ∃ b, tb_fr (tb_oc 97) 154 = some (9, 26, b) := ⟨_, rfl⟩
theorem dk_97_41 : decode (tb_mb 97) 41 = .ok (.ifCond .le (8), 3) := by decide +kernel
theorem dk_97_49 : decode (tb_mb 97) 49 = .ok (.aload_n 0, 1) := by decide +kernel
theorem dk_97_50 : decode (tb_mb 97) 50 = .ok (.getfield 20, 3) := by decide +kernel
theorem f_97_50 : ∃ b, tb_fr (tb_oc 97) 20 = some (9, 6, b) := ⟨_, rfl⟩
theorem dk_97_53 : decode (tb_mb 97) 53 = .ok (.iload_n 1, 1) := by decide +kernel
theorem dk_97_54 : decode (tb_mb 97) 54 = .ok (.iconst (1), 1) := by decide +kernel
theorem dk_97_55 : decode (tb_mb 97) 55 = .ok (.bastore, 1) := by decide +kernel
theorem dk_97_56 : decode (tb_mb 97) 56 = .ok (.aload_n 0, 1) := by decide +kernel
theorem dk_97_57 : decode (tb_mb 97) 57 = .ok (.getfield 24, 3) := by decide +kernel
theorem f_97_57 : ∃ b, tb_fr (tb_oc 97) 24 = some (9, 7, b) := ⟨_, rfl⟩
theorem dk_97_60 : decode (tb_mb 97) 60 = .ok (.iload_n 1, 1) := by decide +kernel
theorem dk_97_61 : decode (tb_mb 97) 61 = .ok (.iconst (0), 1) := by decide +kernel
theorem dk_97_62 : decode (tb_mb 97) 62 = .ok (.bastore, 1) := by decide +kernel
theorem dk_97_63 : decode (tb_mb 97) 63 = .ok (.aload_n 0, 1) := by decide +kernel
theorem dk_97_64 : decode (tb_mb 97) 64 = .ok (.getfield 27, 3) := by decide +kernel
theorem f_97_64 : ∃ b, tb_fr (tb_oc 97) 27 = some (9, 8, b) := ⟨_, rfl⟩
theorem dk_97_67 : decode (tb_mb 97) 67 = .ok (.iload_n 1, 1) := by decide +kernel
theorem dk_97_68 : decode (tb_mb 97) 68 = .ok (.aload_n 0, 1) := by decide +kernel
theorem dk_97_69 : decode (tb_mb 97) 69 = .ok (.getfield 157, 3) := by decide +kernel
theorem f_97_69 : ∃ b, tb_fr (tb_oc 97) 157 = some (9, 24, b) := ⟨_, rfl⟩
theorem dk_97_72 : decode (tb_mb 97) 72 = .ok (.iastore, 1) := by decide +kernel
theorem dk_97_73 : decode (tb_mb 97) 73 = .ok (.aload_n 0, 1) := by decide +kernel
theorem dk_97_74 : decode (tb_mb 97) 74 = .ok (.getfield 30, 3) := by decide +kernel
theorem f_97_74 : ∃ b, tb_fr (tb_oc 97) 30 = some (9, 9, b) := ⟨_, rfl⟩
theorem dk_97_77 : decode (tb_mb 97) 77 = .ok (.iload_n 1, 1) := by decide +kernel
theorem dk_97_78 : decode (tb_mb 97) 78 = .ok (.iload_n 2, 1) := by decide +kernel
theorem dk_97_79 : decode (tb_mb 97) 79 = .ok (.iastore, 1) := by decide +kernel
theorem dk_97_80 : decode (tb_mb 97) 80 = .ok (.aload_n 0, 1) := by decide +kernel
theorem dk_97_81 : decode (tb_mb 97) 81 = .ok (.getfield 33, 3) := by decide +kernel
theorem f_97_81 : ∃ b, tb_fr (tb_oc 97) 33 = some (9, 10, b) := ⟨_, rfl⟩
theorem dk_97_84 : decode (tb_mb 97) 84 = .ok (.iload_n 1, 1) := by decide +kernel
theorem dk_97_85 : decode (tb_mb 97) 85 = .ok (.aload_n 0, 1) := by decide +kernel
theorem dk_97_86 : decode (tb_mb 97) 86 = .ok (.getfield 36, 3) := by decide +kernel
theorem f_97_86 : ∃ b, tb_fr (tb_oc 97) 36 = some (9, 11, b) := ⟨_, rfl⟩
theorem dk_97_89 : decode (tb_mb 97) 89 = .ok (.iload_n 1, 1) := by decide +kernel
theorem dk_97_90 : decode (tb_mb 97) 90 = .ok (.aload_n 0, 1) := by decide +kernel
theorem dk_97_91 : decode (tb_mb 97) 91 = .ok (.getfield 39, 3) := by decide +kernel
theorem f_97_91 : ∃ b, tb_fr (tb_oc 97) 39 = some (9, 12, b) := ⟨_, rfl⟩
theorem dk_97_94 : decode (tb_mb 97) 94 = .ok (.iload_n 1, 1) := by decide +kernel
theorem dk_97_95 : decode (tb_mb 97) 95 = .ok (.iconst (0), 1) := by decide +kernel
theorem dk_97_96 : decode (tb_mb 97) 96 = .ok (.dup_x2, 1) := by decide +kernel
theorem dk_97_97 : decode (tb_mb 97) 97 = .ok (.iastore, 1) := by decide +kernel
theorem dk_97_98 : decode (tb_mb 97) 98 = .ok (.dup_x2, 1) := by decide +kernel
theorem dk_97_99 : decode (tb_mb 97) 99 = .ok (.iastore, 1) := by decide +kernel
theorem dk_97_100 : decode (tb_mb 97) 100 = .ok (.iastore, 1) := by decide +kernel
theorem dk_97_101 : decode (tb_mb 97) 101 = .ok (.aload_n 0, 1) := by decide +kernel
theorem dk_97_102 : decode (tb_mb 97) 102 = .ok (.getfield 42, 3) := by decide +kernel
theorem f_97_102 : ∃ b, tb_fr (tb_oc 97) 42 = some (9, 13, b) := ⟨_, rfl⟩
theorem dk_97_105 : decode (tb_mb 97) 105 = .ok (.iload_n 1, 1) := by decide +kernel
theorem dk_97_106 : decode (tb_mb 97) 106 = .ok (.aload_n 0, 1) := by decide +kernel
theorem dk_97_107 : decode (tb_mb 97) 107 = .ok (.getfield 46, 3) := by decide +kernel
theorem f_97_107 : ∃ b, tb_fr (tb_oc 97) 46 = some (9, 14, b) := ⟨_, rfl⟩
theorem dk_97_110 : decode (tb_mb 97) 110 = .ok (.iload_n 1, 1) := by decide +kernel
theorem dk_97_111 : decode (tb_mb 97) 111 = .ok (.lconst 0, 1) := by decide +kernel
theorem dk_97_112 : decode (tb_mb 97) 112 = .ok (.dup2_x2, 1) := by decide +kernel
theorem dk_97_113 : decode (tb_mb 97) 113 = .ok (.lastore, 1) := by decide +kernel
theorem dk_97_114 : decode (tb_mb 97) 114 = .ok (.lastore, 1) := by decide +kernel
theorem dk_97_115 : decode (tb_mb 97) 115 = .ok (.iconst (0), 1) := by decide +kernel
theorem dk_97_116 : decode (tb_mb 97) 116 = .ok (.istore_n 3, 1) := by decide +kernel
theorem dk_97_117 : decode (tb_mb 97) 117 = .ok (.iload_n 3, 1) := by decide +kernel
theorem dk_97_118 : decode (tb_mb 97) 118 = .ok (.aload_n 0, 1) := by decide +kernel
theorem dk_97_119 : decode (tb_mb 97) 119 = .ok (.getfield 157, 3) := by decide +kernel
theorem f_97_119 : ∃ b, tb_fr (tb_oc 97) 157 = some (9, 24, b) := ⟨_, rfl⟩
theorem dk_97_122 : decode (tb_mb 97) 122 = .ok (.if_icmp .ge (65), 3) := by decide +kernel
theorem dk_97_187 : decode (tb_mb 97) 187 = .ok (.iconst (0), 1) := by decide +kernel
theorem dk_97_188 : decode (tb_mb 97) 188 = .ok (.ireturn, 1) := by decide +kernel
theorem dk_97_125 : decode (tb_mb 97) 125 = .ok (.aload_n 0, 1) := by decide +kernel
theorem dk_97_126 : decode (tb_mb 97) 126 = .ok (.getfield 49, 3) := by decide +kernel
theorem f_97_126 : ∃ b, tb_fr (tb_oc 97) 49 = some (9, 15, b) := ⟨_, rfl⟩
theorem dk_97_129 : decode (tb_mb 97) 129 = .ok (.bipush (120), 2) := by decide +kernel
theorem dk_97_131 : decode (tb_mb 97) 131 = .ok (.iload_n 1, 1) := by decide +kernel
theorem dk_97_132 : decode (tb_mb 97) 132 = .ok (.imul, 1) := by decide +kernel
theorem dk_97_133 : decode (tb_mb 97) 133 = .ok (.iload_n 3, 1) := by decide +kernel
theorem dk_97_134 : decode (tb_mb 97) 134 = .ok (.iadd, 1) := by decide +kernel
theorem dk_97_135 : decode (tb_mb 97) 135 = .ok (.aload_n 0, 1) := by decide +kernel
theorem dk_97_136 : decode (tb_mb 97) 136 = .ok (.getfield 64, 3) := by decide +kernel
theorem f_97_136 : ∃ b, tb_fr (tb_oc 97) 64 = some (9, 28, b) := ⟨_, rfl⟩
theorem dk_97_139 : decode (tb_mb 97) 139 = .ok (.iload_n 3, 1) := by decide +kernel
theorem dk_97_140 : decode (tb_mb 97) 140 = .ok (.iaload, 1) := by decide +kernel
theorem dk_97_141 : decode (tb_mb 97) 141 = .ok (.iastore, 1) := by decide +kernel
theorem dk_97_142 : decode (tb_mb 97) 142 = .ok (.aload_n 0, 1) := by decide +kernel
theorem dk_97_143 : decode (tb_mb 97) 143 = .ok (.getfield 55, 3) := by decide +kernel
theorem f_97_143 : ∃ b, tb_fr (tb_oc 97) 55 = some (9, 17, b) := ⟨_, rfl⟩
theorem dk_97_146 : decode (tb_mb 97) 146 = .ok (.bipush (120), 2) := by decide +kernel
theorem dk_97_148 : decode (tb_mb 97) 148 = .ok (.iload_n 1, 1) := by decide +kernel
theorem dk_97_149 : decode (tb_mb 97) 149 = .ok (.imul, 1) := by decide +kernel
theorem dk_97_150 : decode (tb_mb 97) 150 = .ok (.iload_n 3, 1) := by decide +kernel
theorem dk_97_151 : decode (tb_mb 97) 151 = .ok (.iadd, 1) := by decide +kernel
theorem dk_97_152 : decode (tb_mb 97) 152 = .ok (.aload_n 0, 1) := by decide +kernel
theorem dk_97_153 : decode (tb_mb 97) 153 = .ok (.getfield 73, 3) := by decide +kernel
theorem f_97_153 : ∃ b, tb_fr (tb_oc 97) 73 = some (9, 31, b) := ⟨_, rfl⟩
theorem dk_97_156 : decode (tb_mb 97) 156 = .ok (.iload_n 3, 1) := by decide +kernel
theorem dk_97_157 : decode (tb_mb 97) 157 = .ok (.laload, 1) := by decide +kernel
theorem dk_97_158 : decode (tb_mb 97) 158 = .ok (.lastore, 1) := by decide +kernel
theorem dk_97_159 : decode (tb_mb 97) 159 = .ok (.aload_n 0, 1) := by decide +kernel
theorem dk_97_160 : decode (tb_mb 97) 160 = .ok (.getfield 52, 3) := by decide +kernel
theorem f_97_160 : ∃ b, tb_fr (tb_oc 97) 52 = some (9, 16, b) := ⟨_, rfl⟩
theorem dk_97_163 : decode (tb_mb 97) 163 = .ok (.bipush (120), 2) := by decide +kernel
theorem dk_97_165 : decode (tb_mb 97) 165 = .ok (.iload_n 1, 1) := by decide +kernel
theorem dk_97_166 : decode (tb_mb 97) 166 = .ok (.imul, 1) := by decide +kernel
theorem dk_97_167 : decode (tb_mb 97) 167 = .ok (.iload_n 3, 1) := by decide +kernel
theorem dk_97_168 : decode (tb_mb 97) 168 = .ok (.iadd, 1) := by decide +kernel
theorem dk_97_169 : decode (tb_mb 97) 169 = .ok (.bipush (120), 2) := by decide +kernel
theorem dk_97_171 : decode (tb_mb 97) 171 = .ok (.iload_n 1, 1) := by decide +kernel
theorem dk_97_172 : decode (tb_mb 97) 172 = .ok (.imul, 1) := by decide +kernel
theorem dk_97_173 : decode (tb_mb 97) 173 = .ok (.aload_n 0, 1) := by decide +kernel
theorem dk_97_174 : decode (tb_mb 97) 174 = .ok (.getfield 67, 3) := by decide +kernel
theorem f_97_174 : ∃ b, tb_fr (tb_oc 97) 67 = some (9, 29, b) := ⟨_, rfl⟩
theorem dk_97_177 : decode (tb_mb 97) 177 = .ok (.iload_n 3, 1) := by decide +kernel
theorem dk_97_178 : decode (tb_mb 97) 178 = .ok (.iaload, 1) := by decide +kernel
theorem dk_97_179 : decode (tb_mb 97) 179 = .ok (.iadd, 1) := by decide +kernel
theorem dk_97_180 : decode (tb_mb 97) 180 = .ok (.iastore, 1) := by decide +kernel
theorem dk_97_181 : decode (tb_mb 97) 181 = .ok (.iinc 3 (1), 3) := by decide +kernel
theorem dk_97_184 : decode (tb_mb 97) 184 = .ok (.goto (-67), 3) := by decide +kernel
theorem dk_97_44 : decode (tb_mb 97) 44 = .ok (.aload_n 0, 1) := by decide +kernel
theorem dk_97_45 : decode (tb_mb 97) 45 = .ok (.getfield 154, 3) := by decide +kernel
theorem f_97_45 : ∃ b, tb_fr (tb_oc 97) 154 = some (9, 26, b) := ⟨_, rfl⟩
theorem dk_97_48 : decode (tb_mb 97) 48 = .ok (.ireturn, 1) := by decide +kernel
theorem dk_97_25 : decode (tb_mb 97) 25 = .ok (.iconst (0), 1) := by decide +kernel
theorem dk_97_26 : decode (tb_mb 97) 26 = .ok (.ireturn, 1) := by decide +kernel
theorem dk_97_13 : decode (tb_mb 97) 13 = .ok (.iconst (1), 1) := by decide +kernel
theorem dk_97_14 : decode (tb_mb 97) 14 = .ok (.goto (4), 3) := by decide +kernel
def b_97_117 : Nat → Int32 → Int32 → dI → dJ → Option (Int32 × dI × dJ)
  | 0, _, _, _, _ => none
  | n + 1, x1, x3, I, J => if (I 92 24) ≤ x3 then (some (0, I, J)) else (if ¬ (x3 < 0 ∨ 120 ≤ Int32.toNatClampNeg x3) then (if ¬ (((120 * x1) + x3) < 0 ∨ 960 ≤ Int32.toNatClampNeg ((120 * x1) + x3)) then lt_ (sI I 105 (Int32.toNatClampNeg ((120 * x1) + x3)) (I 110 (Int32.toNatClampNeg x3))) (fun I32 => if ¬ (x3 < 0 ∨ 120 ≤ Int32.toNatClampNeg x3) then (if ¬ (((120 * x1) + x3) < 0 ∨ 960 ≤ Int32.toNatClampNeg ((120 * x1) + x3)) then lt_ (sJ J 107 (Int32.toNatClampNeg ((120 * x1) + x3)) (J 113 (Int32.toNatClampNeg x3))) (fun J35 => if ¬ (x3 < 0 ∨ 120 ≤ Int32.toNatClampNeg x3) then (if ¬ (((120 * x1) + x3) < 0 ∨ 960 ≤ Int32.toNatClampNeg ((120 * x1) + x3)) then lt_ (sI I32 106 (Int32.toNatClampNeg ((120 * x1) + x3)) ((120 * x1) + (I32 111 (Int32.toNatClampNeg x3)))) (fun I38 => (b_97_117 n) x1 (x3 + 1) I38 J35) else none) else none) else none) else none) else none) else none)
theorem p_97_117 {Q : Nat → Option Nat} {D : Nat} (hD : 5 ≤ D) : ∀ (n : Nat) (x1 : Int32) (x3 : Int32) (I : dI) (J : dJ) (R : (Int32 × dI × dJ)), b_97_117 n x1 x3 I J = some R → Rn Q D 97 117 [(0, .ref 92), (1, .int x1), (3, .int x3)] [] I J (some (.int R.1)) R.2.1 R.2.2 := by
  intro n
  induction n with
  | zero => intro x1 x3 I J R h; exact absurd h (by simp [b_97_117])
  | succ n ih =>
    intro x1 x3 I J R h
    replace h : (if (I 92 24) ≤ x3 then (some (0, I, J)) else (if ¬ (x3 < 0 ∨ 120 ≤ Int32.toNatClampNeg x3) then (if ¬ (((120 * x1) + x3) < 0 ∨ 960 ≤ Int32.toNatClampNeg ((120 * x1) + x3)) then lt_ (sI I 105 (Int32.toNatClampNeg ((120 * x1) + x3)) (I 110 (Int32.toNatClampNeg x3))) (fun I32 => if ¬ (x3 < 0 ∨ 120 ≤ Int32.toNatClampNeg x3) then (if ¬ (((120 * x1) + x3) < 0 ∨ 960 ≤ Int32.toNatClampNeg ((120 * x1) + x3)) then lt_ (sJ J 107 (Int32.toNatClampNeg ((120 * x1) + x3)) (J 113 (Int32.toNatClampNeg x3))) (fun J35 => if ¬ (x3 < 0 ∨ 120 ≤ Int32.toNatClampNeg x3) then (if ¬ (((120 * x1) + x3) < 0 ∨ 960 ≤ Int32.toNatClampNeg ((120 * x1) + x3)) then lt_ (sI I32 106 (Int32.toNatClampNeg ((120 * x1) + x3)) ((120 * x1) + (I32 111 (Int32.toNatClampNeg x3)))) (fun I38 => (b_97_117 n) x1 (x3 + 1) I38 J35) else none) else none) else none) else none) else none) else none)) = some R := h
    refine Rn.pu (st' := [.int x3]) dk_97_117 L_97 rfl ?_
    refine Rn.pu (st' := [.ref 92, .int x3]) dk_97_118 L_97 rfl ?_
    refine Rn.gI dk_97_119 f_97_119.choose_spec sk_92 rfl ?_
    by_cases c29 : (I 92 24) ≤ x3
    · rw [if_pos c29] at h
      refine Rn.i2t (t := 187) dk_97_122 rfl (decide_eq_true c29) ?_
      refine Rn.ic dk_97_187 cic_0 ?_
      cases h
      exact Rn.ri dk_97_188 R_97 rfl
    · rw [if_neg c29] at h
      refine Rn.i2f (t := 187) dk_97_122 rfl (decide_eq_false c29) ?_
      refine Rn.pu (st' := [.ref 92]) dk_97_125 L_97 rfl ?_
      refine Rn.gR (r := 105) dk_97_126 f_97_126.choose_spec sk_92 rfl ?_
      refine Rn.bp dk_97_129 cbp_120 ?_
      refine Rn.pu (st' := [.int x1, .int 120, .ref 105]) dk_97_131 L_97 rfl ?_
      refine Rn.pu (st' := [.int (120 * x1), .ref 105]) dk_97_132 L_97 rfl ?_
      refine Rn.pu (st' := [.int x3, .int (120 * x1), .ref 105]) dk_97_133 L_97 rfl ?_
      refine Rn.pu (st' := [.int ((120 * x1) + x3), .ref 105]) dk_97_134 L_97 rfl ?_
      refine Rn.pu (st' := [.ref 92, .int ((120 * x1) + x3), .ref 105]) dk_97_135 L_97 rfl ?_
      refine Rn.gR (r := 110) dk_97_136 f_97_136.choose_spec sk_92 rfl ?_
      refine Rn.pu (st' := [.int x3, .ref 110, .int ((120 * x1) + x3), .ref 105]) dk_97_139 L_97 rfl ?_
      obtain ⟨c30, h⟩ := xm_if h
      refine Rn.iald dk_97_140 sk_110 c30 ?_
      obtain ⟨c31, h⟩ := xm_if h
      obtain ⟨I32, eI32, h⟩ := letS h
      refine Rn.iast dk_97_141 sk_105 c31 ?_
      rw [← eI32]
      refine Rn.pu (st' := [.ref 92]) dk_97_142 L_97 rfl ?_
      refine Rn.gR (r := 107) dk_97_143 f_97_143.choose_spec sk_92 rfl ?_
      refine Rn.bp dk_97_146 cbp_120 ?_
      refine Rn.pu (st' := [.int x1, .int 120, .ref 107]) dk_97_148 L_97 rfl ?_
      refine Rn.pu (st' := [.int (120 * x1), .ref 107]) dk_97_149 L_97 rfl ?_
      refine Rn.pu (st' := [.int x3, .int (120 * x1), .ref 107]) dk_97_150 L_97 rfl ?_
      refine Rn.pu (st' := [.int ((120 * x1) + x3), .ref 107]) dk_97_151 L_97 rfl ?_
      refine Rn.pu (st' := [.ref 92, .int ((120 * x1) + x3), .ref 107]) dk_97_152 L_97 rfl ?_
      refine Rn.gR (r := 113) dk_97_153 f_97_153.choose_spec sk_92 rfl ?_
      refine Rn.pu (st' := [.int x3, .ref 113, .int ((120 * x1) + x3), .ref 107]) dk_97_156 L_97 rfl ?_
      obtain ⟨c33, h⟩ := xm_if h
      refine Rn.lald dk_97_157 sk_113 c33 ?_
      obtain ⟨c34, h⟩ := xm_if h
      obtain ⟨J35, eJ35, h⟩ := letS h
      refine Rn.last dk_97_158 sk_107 c34 ?_
      rw [← eJ35]
      refine Rn.pu (st' := [.ref 92]) dk_97_159 L_97 rfl ?_
      refine Rn.gR (r := 106) dk_97_160 f_97_160.choose_spec sk_92 rfl ?_
      refine Rn.bp dk_97_163 cbp_120 ?_
      refine Rn.pu (st' := [.int x1, .int 120, .ref 106]) dk_97_165 L_97 rfl ?_
      refine Rn.pu (st' := [.int (120 * x1), .ref 106]) dk_97_166 L_97 rfl ?_
      refine Rn.pu (st' := [.int x3, .int (120 * x1), .ref 106]) dk_97_167 L_97 rfl ?_
      refine Rn.pu (st' := [.int ((120 * x1) + x3), .ref 106]) dk_97_168 L_97 rfl ?_
      refine Rn.bp dk_97_169 cbp_120 ?_
      refine Rn.pu (st' := [.int x1, .int 120, .int ((120 * x1) + x3), .ref 106]) dk_97_171 L_97 rfl ?_
      refine Rn.pu (st' := [.int (120 * x1), .int ((120 * x1) + x3), .ref 106]) dk_97_172 L_97 rfl ?_
      refine Rn.pu (st' := [.ref 92, .int (120 * x1), .int ((120 * x1) + x3), .ref 106]) dk_97_173 L_97 rfl ?_
      refine Rn.gR (r := 111) dk_97_174 f_97_174.choose_spec sk_92 rfl ?_
      refine Rn.pu (st' := [.int x3, .ref 111, .int (120 * x1), .int ((120 * x1) + x3), .ref 106]) dk_97_177 L_97 rfl ?_
      obtain ⟨c36, h⟩ := xm_if h
      refine Rn.iald dk_97_178 sk_111 c36 ?_
      refine Rn.pu (st' := [.int ((120 * x1) + (I32 111 (Int32.toNatClampNeg x3))), .int ((120 * x1) + x3), .ref 106]) dk_97_179 L_97 rfl ?_
      obtain ⟨c37, h⟩ := xm_if h
      obtain ⟨I38, eI38, h⟩ := letS h
      refine Rn.iast dk_97_180 sk_106 c37 ?_
      rw [← eI38]
      refine Rn.inc (ls' := [(3, .int (x3 + 1)), (0, .ref 92), (1, .int x1)]) dk_97_181 L_97 (by decide) cic_1 rfl rfl ?_
      refine Rn.gt (t := 117) dk_97_184 rfl ?_
      exact Rn.wk [1, 2, 0] rfl (ih _ _ _ _ _ h)
def b_97_18 (x1 : Int32) (s0 : Int32) (I : dI) (J : dJ) : Option (Int32 × dI × dJ) := (m_99 s0 0 I J).bind (fun r4 => if r4.1 = 0 then ((m_100 r4.2.1 r4.2.2).bind (fun r7 => lt_ (sI r7.2.1 92 1 0) (fun I9 => if (I9 92 26) ≤ 0 then (if ¬ (x1 < 0 ∨ 8 ≤ Int32.toNatClampNeg x1) then lt_ (sI I9 96 (Int32.toNatClampNeg x1) (vp_nar .boolean 1)) (fun I12 => if ¬ (x1 < 0 ∨ 8 ≤ Int32.toNatClampNeg x1) then lt_ (sI I12 97 (Int32.toNatClampNeg x1) (vp_nar .boolean 0)) (fun I14 => if ¬ (x1 < 0 ∨ 8 ≤ Int32.toNatClampNeg x1) then lt_ (sI I14 98 (Int32.toNatClampNeg x1) (I14 92 24)) (fun I16 => if ¬ (x1 < 0 ∨ 8 ≤ Int32.toNatClampNeg x1) then lt_ (sI I16 99 (Int32.toNatClampNeg x1) r7.1) (fun I18 => if ¬ (x1 < 0 ∨ 8 ≤ Int32.toNatClampNeg x1) then lt_ (sI I18 102 (Int32.toNatClampNeg x1) 0) (fun I20 => if ¬ (x1 < 0 ∨ 8 ≤ Int32.toNatClampNeg x1) then lt_ (sI I20 101 (Int32.toNatClampNeg x1) 0) (fun I22 => if ¬ (x1 < 0 ∨ 8 ≤ Int32.toNatClampNeg x1) then lt_ (sI I22 100 (Int32.toNatClampNeg x1) 0) (fun I24 => if ¬ (x1 < 0 ∨ 8 ≤ Int32.toNatClampNeg x1) then lt_ (sJ r7.2.2 104 (Int32.toNatClampNeg x1) 0) (fun J26 => if ¬ (x1 < 0 ∨ 8 ≤ Int32.toNatClampNeg x1) then lt_ (sJ J26 103 (Int32.toNatClampNeg x1) 0) (fun J28 => b_97_117 FU x1 0 I24 J28) else none) else none) else none) else none) else none) else none) else none) else none) else none) else (some ((I9 92 26), I9, r7.2.2))))) else (some (0, r4.2.1, r4.2.2)))
theorem p_97_18 {Q : Nat → Option Nat} {D : Nat} (hD : 5 ≤ D) (x1 : Int32) (s0 : Int32) (I : dI) (J : dJ) (R : (Int32 × dI × dJ)) (h : b_97_18 x1 s0 I J = some R) : Rn Q D 97 18 [(0, .ref 92), (1, .int x1)] [.int s0, .ref 92] I J (some (.int R.1)) R.2.1 R.2.2 := by
  replace h : ((m_99 s0 0 I J).bind (fun r4 => if r4.1 = 0 then ((m_100 r4.2.1 r4.2.2).bind (fun r7 => lt_ (sI r7.2.1 92 1 0) (fun I9 => if (I9 92 26) ≤ 0 then (if ¬ (x1 < 0 ∨ 8 ≤ Int32.toNatClampNeg x1) then lt_ (sI I9 96 (Int32.toNatClampNeg x1) (vp_nar .boolean 1)) (fun I12 => if ¬ (x1 < 0 ∨ 8 ≤ Int32.toNatClampNeg x1) then lt_ (sI I12 97 (Int32.toNatClampNeg x1) (vp_nar .boolean 0)) (fun I14 => if ¬ (x1 < 0 ∨ 8 ≤ Int32.toNatClampNeg x1) then lt_ (sI I14 98 (Int32.toNatClampNeg x1) (I14 92 24)) (fun I16 => if ¬ (x1 < 0 ∨ 8 ≤ Int32.toNatClampNeg x1) then lt_ (sI I16 99 (Int32.toNatClampNeg x1) r7.1) (fun I18 => if ¬ (x1 < 0 ∨ 8 ≤ Int32.toNatClampNeg x1) then lt_ (sI I18 102 (Int32.toNatClampNeg x1) 0) (fun I20 => if ¬ (x1 < 0 ∨ 8 ≤ Int32.toNatClampNeg x1) then lt_ (sI I20 101 (Int32.toNatClampNeg x1) 0) (fun I22 => if ¬ (x1 < 0 ∨ 8 ≤ Int32.toNatClampNeg x1) then lt_ (sI I22 100 (Int32.toNatClampNeg x1) 0) (fun I24 => if ¬ (x1 < 0 ∨ 8 ≤ Int32.toNatClampNeg x1) then lt_ (sJ r7.2.2 104 (Int32.toNatClampNeg x1) 0) (fun J26 => if ¬ (x1 < 0 ∨ 8 ≤ Int32.toNatClampNeg x1) then lt_ (sJ J26 103 (Int32.toNatClampNeg x1) 0) (fun J28 => b_97_117 FU x1 0 I24 J28) else none) else none) else none) else none) else none) else none) else none) else none) else none) else (some ((I9 92 26), I9, r7.2.2))))) else (some (0, r4.2.1, r4.2.2)))) = some R := h
  refine Rn.ic dk_97_18 cic_0 ?_
  obtain ⟨r4, e5, h⟩ := bindS h
  refine Rn.cvI (p := 92) (As := [.int s0, .int 0]) (rest := []) dk_97_19 ck_97_19.choose_spec rfl sk_92 rfl (x_99 (Nat.le_trans (Nat.le_of_ble_eq_true rfl) hD) e5) ?_
  by_cases c6 : r4.1 = 0
  · rw [if_pos c6] at h
    refine Rn.i1t (t := 27) dk_97_22 rfl (decide_eq_true c6) ?_
    refine Rn.pu (st' := [.ref 92]) dk_97_27 L_97 rfl ?_
    obtain ⟨r7, e8, h⟩ := bindS h
    refine Rn.cvI (p := 92) (As := []) (rest := []) dk_97_28 ck_97_28.choose_spec rfl sk_92 rfl (x_100 (Nat.le_trans (Nat.le_of_ble_eq_true rfl) hD) e8) ?_
    refine Rn.pu (ls' := [(2, .int r7.1), (0, .ref 92), (1, .int x1)]) (st' := []) dk_97_31 L_97 rfl ?_
    refine Rn.pu (st' := [.ref 92]) dk_97_32 L_97 rfl ?_
    refine Rn.ic dk_97_33 cic_0 ?_
    obtain ⟨I9, eI9, h⟩ := letS h
    refine Rn.pI dk_97_34 f_97_34.choose_spec.1 sk_92 rfl f_97_34.choose_spec.2 rfl rfl ?_
    rw [← eI9]
    refine Rn.pu (st' := [.ref 92]) dk_97_37 L_97 rfl ?_
    refine Rn.gI dk_97_38 f_97_38.choose_spec sk_92 rfl ?_
    by_cases c10 : (I9 92 26) ≤ 0
    · rw [if_pos c10] at h
      refine Rn.i1t (t := 49) dk_97_41 rfl (decide_eq_true c10) ?_
      refine Rn.pu (st' := [.ref 92]) dk_97_49 L_97 rfl ?_
      refine Rn.gR (r := 96) dk_97_50 f_97_50.choose_spec sk_92 rfl ?_
      refine Rn.pu (st' := [.int x1, .ref 96]) dk_97_53 L_97 rfl ?_
      refine Rn.ic dk_97_54 cic_1 ?_
      obtain ⟨c11, h⟩ := xm_if h
      obtain ⟨I12, eI12, h⟩ := letS h
      refine Rn.bast dk_97_55 sk_96 c11 ?_
      rw [← eI12]
      refine Rn.pu (st' := [.ref 92]) dk_97_56 L_97 rfl ?_
      refine Rn.gR (r := 97) dk_97_57 f_97_57.choose_spec sk_92 rfl ?_
      refine Rn.pu (st' := [.int x1, .ref 97]) dk_97_60 L_97 rfl ?_
      refine Rn.ic dk_97_61 cic_0 ?_
      obtain ⟨c13, h⟩ := xm_if h
      obtain ⟨I14, eI14, h⟩ := letS h
      refine Rn.bast dk_97_62 sk_97 c13 ?_
      rw [← eI14]
      refine Rn.pu (st' := [.ref 92]) dk_97_63 L_97 rfl ?_
      refine Rn.gR (r := 98) dk_97_64 f_97_64.choose_spec sk_92 rfl ?_
      refine Rn.pu (st' := [.int x1, .ref 98]) dk_97_67 L_97 rfl ?_
      refine Rn.pu (st' := [.ref 92, .int x1, .ref 98]) dk_97_68 L_97 rfl ?_
      refine Rn.gI dk_97_69 f_97_69.choose_spec sk_92 rfl ?_
      obtain ⟨c15, h⟩ := xm_if h
      obtain ⟨I16, eI16, h⟩ := letS h
      refine Rn.iast dk_97_72 sk_98 c15 ?_
      rw [← eI16]
      refine Rn.pu (st' := [.ref 92]) dk_97_73 L_97 rfl ?_
      refine Rn.gR (r := 99) dk_97_74 f_97_74.choose_spec sk_92 rfl ?_
      refine Rn.pu (st' := [.int x1, .ref 99]) dk_97_77 L_97 rfl ?_
      refine Rn.pu (st' := [.int r7.1, .int x1, .ref 99]) dk_97_78 L_97 rfl ?_
      obtain ⟨c17, h⟩ := xm_if h
      obtain ⟨I18, eI18, h⟩ := letS h
      refine Rn.iast dk_97_79 sk_99 c17 ?_
      rw [← eI18]
      refine Rn.pu (st' := [.ref 92]) dk_97_80 L_97 rfl ?_
      refine Rn.gR (r := 100) dk_97_81 f_97_81.choose_spec sk_92 rfl ?_
      refine Rn.pu (st' := [.int x1, .ref 100]) dk_97_84 L_97 rfl ?_
      refine Rn.pu (st' := [.ref 92, .int x1, .ref 100]) dk_97_85 L_97 rfl ?_
      refine Rn.gR (r := 101) dk_97_86 f_97_86.choose_spec sk_92 rfl ?_
      refine Rn.pu (st' := [.int x1, .ref 101, .int x1, .ref 100]) dk_97_89 L_97 rfl ?_
      refine Rn.pu (st' := [.ref 92, .int x1, .ref 101, .int x1, .ref 100]) dk_97_90 L_97 rfl ?_
      refine Rn.gR (r := 102) dk_97_91 f_97_91.choose_spec sk_92 rfl ?_
      refine Rn.pu (st' := [.int x1, .ref 102, .int x1, .ref 101, .int x1, .ref 100]) dk_97_94 L_97 rfl ?_
      refine Rn.ic dk_97_95 cic_0 ?_
      refine Rn.pu (st' := [.int 0, .int x1, .ref 102, .int 0, .int x1, .ref 101, .int x1, .ref 100]) dk_97_96 L_97 rfl ?_
      obtain ⟨c19, h⟩ := xm_if h
      obtain ⟨I20, eI20, h⟩ := letS h
      refine Rn.iast dk_97_97 sk_102 c19 ?_
      rw [← eI20]
      refine Rn.pu (st' := [.int 0, .int x1, .ref 101, .int 0, .int x1, .ref 100]) dk_97_98 L_97 rfl ?_
      obtain ⟨c21, h⟩ := xm_if h
      obtain ⟨I22, eI22, h⟩ := letS h
      refine Rn.iast dk_97_99 sk_101 c21 ?_
      rw [← eI22]
      obtain ⟨c23, h⟩ := xm_if h
      obtain ⟨I24, eI24, h⟩ := letS h
      refine Rn.iast dk_97_100 sk_100 c23 ?_
      rw [← eI24]
      refine Rn.pu (st' := [.ref 92]) dk_97_101 L_97 rfl ?_
      refine Rn.gR (r := 103) dk_97_102 f_97_102.choose_spec sk_92 rfl ?_
      refine Rn.pu (st' := [.int x1, .ref 103]) dk_97_105 L_97 rfl ?_
      refine Rn.pu (st' := [.ref 92, .int x1, .ref 103]) dk_97_106 L_97 rfl ?_
      refine Rn.gR (r := 104) dk_97_107 f_97_107.choose_spec sk_92 rfl ?_
      refine Rn.pu (st' := [.int x1, .ref 104, .int x1, .ref 103]) dk_97_110 L_97 rfl ?_
      refine Rn.lc dk_97_111 clc_0 ?_
      refine Rn.pu (st' := [.long 0, .int x1, .ref 104, .long 0, .int x1, .ref 103]) dk_97_112 L_97 rfl ?_
      obtain ⟨c25, h⟩ := xm_if h
      obtain ⟨J26, eJ26, h⟩ := letS h
      refine Rn.last dk_97_113 sk_104 c25 ?_
      rw [← eJ26]
      obtain ⟨c27, h⟩ := xm_if h
      obtain ⟨J28, eJ28, h⟩ := letS h
      refine Rn.last dk_97_114 sk_103 c27 ?_
      rw [← eJ28]
      refine Rn.ic dk_97_115 cic_0 ?_
      refine Rn.pu (ls' := [(3, .int 0), (2, .int r7.1), (0, .ref 92), (1, .int x1)]) (st' := []) dk_97_116 L_97 rfl ?_
      exact Rn.wk [2, 3, 0] rfl (p_97_117 hD FU _ _ _ _ _ h)
    · rw [if_neg c10] at h
      refine Rn.i1f (t := 49) dk_97_41 rfl (decide_eq_false c10) ?_
      refine Rn.pu (st' := [.ref 92]) dk_97_44 L_97 rfl ?_
      refine Rn.gI dk_97_45 f_97_45.choose_spec sk_92 rfl ?_
      cases h
      exact Rn.ri dk_97_48 R_97 rfl
  · rw [if_neg c6] at h
    refine Rn.i1f (t := 27) dk_97_22 rfl (decide_eq_false c6) ?_
    refine Rn.ic dk_97_25 cic_0 ?_
    cases h
    exact Rn.ri dk_97_26 R_97 rfl
def b_97_0 (x1 : Int32) (I : dI) (J : dJ) : Option (Int32 × dI × dJ) := (m_98 (Int32.toInt64 x1) 0 7 I J).bind (fun r1 => if ¬ r1 = 0 then (b_97_18 x1 0 I J) else (b_97_18 x1 1 I J))
theorem p_97_0 {Q : Nat → Option Nat} {D : Nat} (hD : 5 ≤ D) (x1 : Int32) (I : dI) (J : dJ) (R : (Int32 × dI × dJ)) (h : b_97_0 x1 I J = some R) : Rn Q D 97 0 [(0, .ref 92), (1, .int x1)] [] I J (some (.int R.1)) R.2.1 R.2.2 := by
  replace h : ((m_98 (Int32.toInt64 x1) 0 7 I J).bind (fun r1 => if ¬ r1 = 0 then (b_97_18 x1 0 I J) else (b_97_18 x1 1 I J))) = some R := h
  refine Rn.pu (st' := [.ref 92]) dk_97_0 L_97 rfl ?_
  refine Rn.pu (st' := [.int x1, .ref 92]) dk_97_1 L_97 rfl ?_
  refine Rn.pu (st' := [.long (Int32.toInt64 x1), .ref 92]) dk_97_2 L_97 rfl ?_
  refine Rn.lc dk_97_3 clc_0 ?_
  refine Rn.ldl dk_97_4 kl_97_4 ?_
  obtain ⟨r1, e2, h⟩ := bindS h
  refine Rn.csI (As := [.long (Int32.toInt64 x1), .long 0, .long 7]) (rest := [.ref 92]) dk_97_7 ck_97_7.choose_spec rfl (x_98 (Nat.le_trans (Nat.le_of_ble_eq_true rfl) hD) e2) ?_
  by_cases c3 : ¬ r1 = 0
  · rw [if_pos c3] at h
    refine Rn.i1t (t := 17) dk_97_10 rfl (decide_eq_true c3) ?_
    refine Rn.ic dk_97_17 cic_0 ?_
    exact Rn.wk [0, 1] rfl (p_97_18 hD _ _ _ _ _ h)
  · rw [if_neg c3] at h
    refine Rn.i1f (t := 17) dk_97_10 rfl (decide_eq_false c3) ?_
    refine Rn.ic dk_97_13 cic_1 ?_
    refine Rn.gt (t := 18) dk_97_14 rfl ?_
    exact Rn.wk [0, 1] rfl (p_97_18 hD _ _ _ _ _ h)
def m_97 (x1 : Int32) (I : dI) (J : dJ) : Option (Int32 × dI × dJ) := b_97_0 x1 I J
theorem x_97 {Q : Nat → Option Nat} {D : Nat} (hD : 6 ≤ D) {x1 : Int32} {I : dI} {J : dJ} {R : (Int32 × dI × dJ)} (h : m_97 x1 I J = some R) : Ex Q D 97 I J [.ref 92, .int x1] (some (.int R.1)) R.2.1 R.2.2 := by
  obtain ⟨D, rfl⟩ : ∃ D', D = D' + 1 := ⟨D - 1, by omega⟩
  exact Ex.of (by decide) (by rw [L_97]; exact Nat.le_of_ble_eq_true rfl) (show xm_sub [(0, .ref 92), (1, .int x1)] [(0, .ref 92), (1, .int x1)] from xm_sub_of [0, 1] [0, 1] rfl rfl (by decide)) (p_97_0 (Nat.le_of_succ_le_succ hD) _ _ _ _ h)
-- ConditionDeskModel.drop(I)Z
theorem L_113 : tb_mL 113 = 3 := by decide +kernel
theorem R_113 : tb_mr 113 = some .boolean := by decide +kernel
theorem dk_113_0 : decode (tb_mb 113) 0 = .ok (.aload_n 0, 1) := by decide +kernel
theorem dk_113_1 : decode (tb_mb 113) 1 = .ok (.iload_n 1, 1) := by decide +kernel
theorem dk_113_2 : decode (tb_mb 113) 2 = .ok (.i2l, 1) := by decide +kernel
theorem dk_113_3 : decode (tb_mb 113) 3 = .ok (.lconst 0, 1) := by decide +kernel
theorem dk_113_4 : decode (tb_mb 113) 4 = .ok (.ldc2_w 182, 3) := by decide +kernel
theorem kl_113_4 : tb_kl (tb_oc 113) 182 = some (7) := by decide +kernel
theorem dk_113_7 : decode (tb_mb 113) 7 = .ok (.invokestatic 184, 3) := by decide +kernel
theorem ck_113_7 : ∃ b, tb_cr (tb_oc 113) 184 = some (1, 98, b, 3) := ⟨_, rfl⟩
theorem dk_113_10 : decode (tb_mb 113) 10 = .ok (.ifCond .ne (7), 3) := by decide +kernel
theorem dk_113_17 : decode (tb_mb 113) 17 = .ok (.iconst (0), 1) := by decide +kernel
theorem dk_113_18 : decode (tb_mb 113) 18 = .ok (.iconst (0), 1) := by decide +kernel
theorem dk_113_19 : decode (tb_mb 113) 19 = .ok (.invokevirtual 188, 3) := by decide +kernel
theorem ck_113_19 : ∃ b, tb_cr (tb_oc 113) 188 = some (0, 99, b, 2) := ⟨_, rfl⟩
theorem dk_113_22 : decode (tb_mb 113) 22 = .ok (.ifCond .eq (5), 3) := by decide +kernel
theorem dk_113_27 : decode (tb_mb 113) 27 = .ok (.aload_n 0, 1) := by decide +kernel
theorem dk_113_28 : decode (tb_mb 113) 28 = .ok (.getfield 20, 3) := by decide +kernel
theorem f_113_28 : ∃ b, tb_fr (tb_oc 113) 20 = some (9, 6, b) := ⟨_, rfl⟩
theorem dk_113_31 : decode (tb_mb 113) 31 = .ok (.iload_n 1, 1) := by decide +kernel
theorem dk_113_32 : decode (tb_mb 113) 32 = .ok (.baload, 1) := by decide +kernel
theorem dk_113_33 : decode (tb_mb 113) 33 = .ok (.istore_n 2, 1) := by decide +kernel
theorem dk_113_34 : decode (tb_mb 113) 34 = .ok (.aload_n 0, 1) := by decide +kernel
theorem dk_113_35 : decode (tb_mb 113) 35 = .ok (.getfield 20, 3) := by decide +kernel
theorem f_113_35 : ∃ b, tb_fr (tb_oc 113) 20 = some (9, 6, b) := ⟨_, rfl⟩
theorem dk_113_38 : decode (tb_mb 113) 38 = .ok (.iload_n 1, 1) := by decide +kernel
theorem dk_113_39 : decode (tb_mb 113) 39 = .ok (.iconst (0), 1) := by decide +kernel
theorem dk_113_40 : decode (tb_mb 113) 40 = .ok (.bastore, 1) := by decide +kernel
theorem dk_113_41 : decode (tb_mb 113) 41 = .ok (.iload_n 2, 1) := by decide +kernel
theorem dk_113_42 : decode (tb_mb 113) 42 = .ok (.ireturn, 1) := by decide +kernel
theorem dk_113_25 : decode (tb_mb 113) 25 = .ok (.iconst (0), 1) := by decide +kernel
theorem dk_113_26 : decode (tb_mb 113) 26 = .ok (.ireturn, 1) := by decide +kernel
theorem dk_113_13 : decode (tb_mb 113) 13 = .ok (.iconst (1), 1) := by decide +kernel
theorem dk_113_14 : decode (tb_mb 113) 14 = .ok (.goto (4), 3) := by decide +kernel
def b_113_18 (x1 : Int32) (s0 : Int32) (I : dI) (J : dJ) : Option (Int32 × dI × dJ) := (m_99 s0 0 I J).bind (fun r4 => if r4.1 = 0 then (if ¬ (x1 < 0 ∨ 8 ≤ Int32.toNatClampNeg x1) then (if ¬ (x1 < 0 ∨ 8 ≤ Int32.toNatClampNeg x1) then lt_ (sI r4.2.1 96 (Int32.toNatClampNeg x1) (vp_nar .boolean 0)) (fun I9 => if (r4.2.1 96 (Int32.toNatClampNeg x1)) = 0 ∨ (r4.2.1 96 (Int32.toNatClampNeg x1)) = 1 then (some ((r4.2.1 96 (Int32.toNatClampNeg x1)), I9, r4.2.2)) else none) else none) else none) else (some (0, r4.2.1, r4.2.2)))
theorem p_113_18 {Q : Nat → Option Nat} {D : Nat} (hD : 2 ≤ D) (x1 : Int32) (s0 : Int32) (I : dI) (J : dJ) (R : (Int32 × dI × dJ)) (h : b_113_18 x1 s0 I J = some R) : Rn Q D 113 18 [(0, .ref 92), (1, .int x1)] [.int s0, .ref 92] I J (some (.int R.1)) R.2.1 R.2.2 := by
  replace h : ((m_99 s0 0 I J).bind (fun r4 => if r4.1 = 0 then (if ¬ (x1 < 0 ∨ 8 ≤ Int32.toNatClampNeg x1) then (if ¬ (x1 < 0 ∨ 8 ≤ Int32.toNatClampNeg x1) then lt_ (sI r4.2.1 96 (Int32.toNatClampNeg x1) (vp_nar .boolean 0)) (fun I9 => if (r4.2.1 96 (Int32.toNatClampNeg x1)) = 0 ∨ (r4.2.1 96 (Int32.toNatClampNeg x1)) = 1 then (some ((r4.2.1 96 (Int32.toNatClampNeg x1)), I9, r4.2.2)) else none) else none) else none) else (some (0, r4.2.1, r4.2.2)))) = some R := h
  refine Rn.ic dk_113_18 cic_0 ?_
  obtain ⟨r4, e5, h⟩ := bindS h
  refine Rn.cvI (p := 92) (As := [.int s0, .int 0]) (rest := []) dk_113_19 ck_113_19.choose_spec rfl sk_92 rfl (x_99 (Nat.le_trans (Nat.le_of_ble_eq_true rfl) hD) e5) ?_
  by_cases c6 : r4.1 = 0
  · rw [if_pos c6] at h
    refine Rn.i1t (t := 27) dk_113_22 rfl (decide_eq_true c6) ?_
    refine Rn.pu (st' := [.ref 92]) dk_113_27 L_113 rfl ?_
    refine Rn.gR (r := 96) dk_113_28 f_113_28.choose_spec sk_92 rfl ?_
    refine Rn.pu (st' := [.int x1, .ref 96]) dk_113_31 L_113 rfl ?_
    obtain ⟨c7, h⟩ := xm_if h
    refine Rn.bald dk_113_32 sk_96 c7 ?_
    refine Rn.pu (ls' := [(2, .int (r4.2.1 96 (Int32.toNatClampNeg x1))), (0, .ref 92), (1, .int x1)]) (st' := []) dk_113_33 L_113 rfl ?_
    refine Rn.pu (st' := [.ref 92]) dk_113_34 L_113 rfl ?_
    refine Rn.gR (r := 96) dk_113_35 f_113_35.choose_spec sk_92 rfl ?_
    refine Rn.pu (st' := [.int x1, .ref 96]) dk_113_38 L_113 rfl ?_
    refine Rn.ic dk_113_39 cic_0 ?_
    obtain ⟨c8, h⟩ := xm_if h
    obtain ⟨I9, eI9, h⟩ := letS h
    refine Rn.bast dk_113_40 sk_96 c8 ?_
    rw [← eI9]
    refine Rn.pu (st' := [.int (r4.2.1 96 (Int32.toNatClampNeg x1))]) dk_113_41 L_113 rfl ?_
    obtain ⟨c10, h⟩ := xm_if h
    cases h
    exact Rn.ri dk_113_42 R_113 (nar_b c10)
  · rw [if_neg c6] at h
    refine Rn.i1f (t := 27) dk_113_22 rfl (decide_eq_false c6) ?_
    refine Rn.ic dk_113_25 cic_0 ?_
    cases h
    exact Rn.ri dk_113_26 R_113 rfl
def b_113_0 (x1 : Int32) (I : dI) (J : dJ) : Option (Int32 × dI × dJ) := (m_98 (Int32.toInt64 x1) 0 7 I J).bind (fun r1 => if ¬ r1 = 0 then (b_113_18 x1 0 I J) else (b_113_18 x1 1 I J))
theorem p_113_0 {Q : Nat → Option Nat} {D : Nat} (hD : 2 ≤ D) (x1 : Int32) (I : dI) (J : dJ) (R : (Int32 × dI × dJ)) (h : b_113_0 x1 I J = some R) : Rn Q D 113 0 [(0, .ref 92), (1, .int x1)] [] I J (some (.int R.1)) R.2.1 R.2.2 := by
  replace h : ((m_98 (Int32.toInt64 x1) 0 7 I J).bind (fun r1 => if ¬ r1 = 0 then (b_113_18 x1 0 I J) else (b_113_18 x1 1 I J))) = some R := h
  refine Rn.pu (st' := [.ref 92]) dk_113_0 L_113 rfl ?_
  refine Rn.pu (st' := [.int x1, .ref 92]) dk_113_1 L_113 rfl ?_
  refine Rn.pu (st' := [.long (Int32.toInt64 x1), .ref 92]) dk_113_2 L_113 rfl ?_
  refine Rn.lc dk_113_3 clc_0 ?_
  refine Rn.ldl dk_113_4 kl_113_4 ?_
  obtain ⟨r1, e2, h⟩ := bindS h
  refine Rn.csI (As := [.long (Int32.toInt64 x1), .long 0, .long 7]) (rest := [.ref 92]) dk_113_7 ck_113_7.choose_spec rfl (x_98 (Nat.le_trans (Nat.le_of_ble_eq_true rfl) hD) e2) ?_
  by_cases c3 : ¬ r1 = 0
  · rw [if_pos c3] at h
    refine Rn.i1t (t := 17) dk_113_10 rfl (decide_eq_true c3) ?_
    refine Rn.ic dk_113_17 cic_0 ?_
    exact Rn.wk [0, 1] rfl (p_113_18 hD _ _ _ _ _ h)
  · rw [if_neg c3] at h
    refine Rn.i1f (t := 17) dk_113_10 rfl (decide_eq_false c3) ?_
    refine Rn.ic dk_113_13 cic_1 ?_
    refine Rn.gt (t := 18) dk_113_14 rfl ?_
    exact Rn.wk [0, 1] rfl (p_113_18 hD _ _ _ _ _ h)
def m_113 (x1 : Int32) (I : dI) (J : dJ) : Option (Int32 × dI × dJ) := b_113_0 x1 I J
theorem x_113 {Q : Nat → Option Nat} {D : Nat} (hD : 3 ≤ D) {x1 : Int32} {I : dI} {J : dJ} {R : (Int32 × dI × dJ)} (h : m_113 x1 I J = some R) : Ex Q D 113 I J [.ref 92, .int x1] (some (.int R.1)) R.2.1 R.2.2 := by
  obtain ⟨D, rfl⟩ : ∃ D', D = D' + 1 := ⟨D - 1, by omega⟩
  exact Ex.of (by decide) (by rw [L_113]; exact Nat.le_of_ble_eq_true rfl) (show xm_sub [(0, .ref 92), (1, .int x1)] [(0, .ref 92), (1, .int x1)] from xm_sub_of [0, 1] [0, 1] rfl rfl (by decide)) (p_113_0 (Nat.le_of_succ_le_succ hD) _ _ _ _ h)
-- ConditionDeskModel.set(II)V
theorem L_114 : tb_mL 114 = 3 := by decide +kernel
theorem R_114 : tb_mr 114 = none := by decide +kernel
theorem dk_114_0 : decode (tb_mb 114) 0 = .ok (.aload_n 0, 1) := by decide +kernel
theorem dk_114_1 : decode (tb_mb 114) 1 = .ok (.iload_n 1, 1) := by decide +kernel
theorem dk_114_2 : decode (tb_mb 114) 2 = .ok (.i2l, 1) := by decide +kernel
theorem dk_114_3 : decode (tb_mb 114) 3 = .ok (.lconst 0, 1) := by decide +kernel
theorem dk_114_4 : decode (tb_mb 114) 4 = .ok (.ldc2_w 196, 3) := by decide +kernel
theorem kl_114_4 : tb_kl (tb_oc 114) 196 = some (33) := by decide +kernel
theorem dk_114_7 : decode (tb_mb 114) 7 = .ok (.invokestatic 184, 3) := by decide +kernel
theorem ck_114_7 : ∃ b, tb_cr (tb_oc 114) 184 = some (1, 98, b, 3) := ⟨_, rfl⟩
theorem dk_114_10 : decode (tb_mb 114) 10 = .ok (.ifCond .ne (7), 3) := by decide +kernel
theorem dk_114_17 : decode (tb_mb 114) 17 = .ok (.iconst (0), 1) := by decide +kernel
theorem dk_114_18 : decode (tb_mb 114) 18 = .ok (.iconst (0), 1) := by decide +kernel
theorem dk_114_19 : decode (tb_mb 114) 19 = .ok (.invokevirtual 188, 3) := by decide +kernel
theorem ck_114_19 : ∃ b, tb_cr (tb_oc 114) 188 = some (0, 99, b, 2) := ⟨_, rfl⟩
theorem dk_114_22 : decode (tb_mb 114) 22 = .ok (.ifCond .ne (7), 3) := by decide +kernel
theorem dk_114_29 : decode (tb_mb 114) 29 = .ok (.return_, 1) := by decide +kernel
theorem dk_114_25 : decode (tb_mb 114) 25 = .ok (.iload_n 1, 1) := by decide +kernel
theorem dk_114_26 : decode (tb_mb 114) 26 = .ok (.ifCond .ne (4), 3) := by decide +kernel
theorem dk_114_30 : decode (tb_mb 114) 30 = .ok (.aload_n 0, 1) := by decide +kernel
theorem dk_114_31 : decode (tb_mb 114) 31 = .ok (.getfield 13, 3) := by decide +kernel
theorem f_114_31 : ∃ b, tb_fr (tb_oc 114) 13 = some (9, 3, b) := ⟨_, rfl⟩
theorem dk_114_34 : decode (tb_mb 114) 34 = .ok (.iload_n 1, 1) := by decide +kernel
theorem dk_114_35 : decode (tb_mb 114) 35 = .ok (.iload_n 2, 1) := by decide +kernel
theorem dk_114_36 : decode (tb_mb 114) 36 = .ok (.iastore, 1) := by decide +kernel
theorem dk_114_37 : decode (tb_mb 114) 37 = .ok (.return_, 1) := by decide +kernel
theorem dk_114_13 : decode (tb_mb 114) 13 = .ok (.iconst (1), 1) := by decide +kernel
theorem dk_114_14 : decode (tb_mb 114) 14 = .ok (.goto (4), 3) := by decide +kernel
def b_114_18 (x1 : Int32) (x2 : Int32) (s0 : Int32) (I : dI) (J : dJ) : Option (dI × dJ) := (m_99 s0 0 I J).bind (fun r4 => if ¬ r4.1 = 0 then (some (r4.2.1, r4.2.2)) else (if ¬ x1 = 0 then (if ¬ (x1 < 0 ∨ 34 ≤ Int32.toNatClampNeg x1) then lt_ (sI r4.2.1 94 (Int32.toNatClampNeg x1) x2) (fun I9 => some (I9, r4.2.2)) else none) else (some (r4.2.1, r4.2.2))))
theorem p_114_18 {Q : Nat → Option Nat} {D : Nat} (hD : 2 ≤ D) (x1 : Int32) (x2 : Int32) (s0 : Int32) (I : dI) (J : dJ) (R : (dI × dJ)) (h : b_114_18 x1 x2 s0 I J = some R) : Rn Q D 114 18 [(0, .ref 92), (1, .int x1), (2, .int x2)] [.int s0, .ref 92] I J (none) R.1 R.2 := by
  replace h : ((m_99 s0 0 I J).bind (fun r4 => if ¬ r4.1 = 0 then (some (r4.2.1, r4.2.2)) else (if ¬ x1 = 0 then (if ¬ (x1 < 0 ∨ 34 ≤ Int32.toNatClampNeg x1) then lt_ (sI r4.2.1 94 (Int32.toNatClampNeg x1) x2) (fun I9 => some (I9, r4.2.2)) else none) else (some (r4.2.1, r4.2.2))))) = some R := h
  refine Rn.ic dk_114_18 cic_0 ?_
  obtain ⟨r4, e5, h⟩ := bindS h
  refine Rn.cvI (p := 92) (As := [.int s0, .int 0]) (rest := []) dk_114_19 ck_114_19.choose_spec rfl sk_92 rfl (x_99 (Nat.le_trans (Nat.le_of_ble_eq_true rfl) hD) e5) ?_
  by_cases c6 : ¬ r4.1 = 0
  · rw [if_pos c6] at h
    refine Rn.i1t (t := 29) dk_114_22 rfl (decide_eq_true c6) ?_
    cases h
    exact Rn.rv dk_114_29 R_114
  · rw [if_neg c6] at h
    refine Rn.i1f (t := 29) dk_114_22 rfl (decide_eq_false c6) ?_
    refine Rn.pu (st' := [.int x1]) dk_114_25 L_114 rfl ?_
    by_cases c7 : ¬ x1 = 0
    · rw [if_pos c7] at h
      refine Rn.i1t (t := 30) dk_114_26 rfl (decide_eq_true c7) ?_
      refine Rn.pu (st' := [.ref 92]) dk_114_30 L_114 rfl ?_
      refine Rn.gR (r := 94) dk_114_31 f_114_31.choose_spec sk_92 rfl ?_
      refine Rn.pu (st' := [.int x1, .ref 94]) dk_114_34 L_114 rfl ?_
      refine Rn.pu (st' := [.int x2, .int x1, .ref 94]) dk_114_35 L_114 rfl ?_
      obtain ⟨c8, h⟩ := xm_if h
      obtain ⟨I9, eI9, h⟩ := letS h
      refine Rn.iast dk_114_36 sk_94 c8 ?_
      rw [← eI9]
      cases h
      exact Rn.rv dk_114_37 R_114
    · rw [if_neg c7] at h
      refine Rn.i1f (t := 30) dk_114_26 rfl (decide_eq_false c7) ?_
      cases h
      exact Rn.rv dk_114_29 R_114
def b_114_0 (x1 : Int32) (x2 : Int32) (I : dI) (J : dJ) : Option (dI × dJ) := (m_98 (Int32.toInt64 x1) 0 33 I J).bind (fun r1 => if ¬ r1 = 0 then (b_114_18 x1 x2 0 I J) else (b_114_18 x1 x2 1 I J))
theorem p_114_0 {Q : Nat → Option Nat} {D : Nat} (hD : 2 ≤ D) (x1 : Int32) (x2 : Int32) (I : dI) (J : dJ) (R : (dI × dJ)) (h : b_114_0 x1 x2 I J = some R) : Rn Q D 114 0 [(0, .ref 92), (1, .int x1), (2, .int x2)] [] I J (none) R.1 R.2 := by
  replace h : ((m_98 (Int32.toInt64 x1) 0 33 I J).bind (fun r1 => if ¬ r1 = 0 then (b_114_18 x1 x2 0 I J) else (b_114_18 x1 x2 1 I J))) = some R := h
  refine Rn.pu (st' := [.ref 92]) dk_114_0 L_114 rfl ?_
  refine Rn.pu (st' := [.int x1, .ref 92]) dk_114_1 L_114 rfl ?_
  refine Rn.pu (st' := [.long (Int32.toInt64 x1), .ref 92]) dk_114_2 L_114 rfl ?_
  refine Rn.lc dk_114_3 clc_0 ?_
  refine Rn.ldl dk_114_4 kl_114_4 ?_
  obtain ⟨r1, e2, h⟩ := bindS h
  refine Rn.csI (As := [.long (Int32.toInt64 x1), .long 0, .long 33]) (rest := [.ref 92]) dk_114_7 ck_114_7.choose_spec rfl (x_98 (Nat.le_trans (Nat.le_of_ble_eq_true rfl) hD) e2) ?_
  by_cases c3 : ¬ r1 = 0
  · rw [if_pos c3] at h
    refine Rn.i1t (t := 17) dk_114_10 rfl (decide_eq_true c3) ?_
    refine Rn.ic dk_114_17 cic_0 ?_
    exact Rn.wk [0, 1, 2] rfl (p_114_18 hD _ _ _ _ _ _ h)
  · rw [if_neg c3] at h
    refine Rn.i1f (t := 17) dk_114_10 rfl (decide_eq_false c3) ?_
    refine Rn.ic dk_114_13 cic_1 ?_
    refine Rn.gt (t := 18) dk_114_14 rfl ?_
    exact Rn.wk [0, 1, 2] rfl (p_114_18 hD _ _ _ _ _ _ h)
def m_114 (x1 : Int32) (x2 : Int32) (I : dI) (J : dJ) : Option (dI × dJ) := b_114_0 x1 x2 I J
theorem x_114 {Q : Nat → Option Nat} {D : Nat} (hD : 3 ≤ D) {x1 : Int32} {x2 : Int32} {I : dI} {J : dJ} {R : (dI × dJ)} (h : m_114 x1 x2 I J = some R) : Ex Q D 114 I J [.ref 92, .int x1, .int x2] (none) R.1 R.2 := by
  obtain ⟨D, rfl⟩ : ∃ D', D = D' + 1 := ⟨D - 1, by omega⟩
  exact Ex.of (by decide) (by rw [L_114]; exact Nat.le_of_ble_eq_true rfl) (show xm_sub [(0, .ref 92), (1, .int x1), (2, .int x2)] [(0, .ref 92), (1, .int x1), (2, .int x2)] from xm_sub_of [0, 1, 2] [0, 1, 2] rfl rfl (by decide)) (p_114_0 (Nat.le_of_succ_le_succ hD) _ _ _ _ _ h)
-- ConditionDeskModel.go(J)V
theorem L_115 : tb_mL 115 = 3 := by decide +kernel
theorem R_115 : tb_mr 115 = none := by decide +kernel
theorem dk_115_0 : decode (tb_mb 115) 0 = .ok (.aload_n 0, 1) := by decide +kernel
theorem dk_115_1 : decode (tb_mb 115) 1 = .ok (.iconst (0), 1) := by decide +kernel
theorem dk_115_2 : decode (tb_mb 115) 2 = .ok (.putfield 91, 3) := by decide +kernel
theorem f_115_2 : ∃ b, tb_fr (tb_oc 115) 91 = some (9, 0, b) ∧ xm_fin tb_cl (tb_ini 115) b 9 0 = true := ⟨_, rfl, rfl⟩
theorem dk_115_5 : decode (tb_mb 115) 5 = .ok (.aload_n 0, 1) := by decide +kernel
theorem dk_115_6 : decode (tb_mb 115) 6 = .ok (.lload_n 1, 1) := by decide +kernel
theorem dk_115_7 : decode (tb_mb 115) 7 = .ok (.putfield 198, 3) := by decide +kernel
theorem f_115_7 : ∃ b, tb_fr (tb_oc 115) 198 = some (9, 5, b) ∧ xm_fin tb_cl (tb_ini 115) b 9 5 = true := ⟨_, rfl, rfl⟩
theorem dk_115_10 : decode (tb_mb 115) 10 = .ok (.return_, 1) := by decide +kernel
def b_115_0 (x1 : Int64) (I : dI) (J : dJ) : Option (dI × dJ) := lt_ (sI I 92 0 0) (fun I1 => lt_ (sJ J 92 5 x1) (fun J2 => some (I1, J2)))
theorem p_115_0 {Q : Nat → Option Nat} {D : Nat} (hD : 1 ≤ D) (x1 : Int64) (I : dI) (J : dJ) (R : (dI × dJ)) (h : b_115_0 x1 I J = some R) : Rn Q D 115 0 [(0, .ref 92), (1, .long x1)] [] I J (none) R.1 R.2 := by
  replace h : (lt_ (sI I 92 0 0) (fun I1 => lt_ (sJ J 92 5 x1) (fun J2 => some (I1, J2)))) = some R := h
  refine Rn.pu (st' := [.ref 92]) dk_115_0 L_115 rfl ?_
  refine Rn.ic dk_115_1 cic_0 ?_
  obtain ⟨I1, eI1, h⟩ := letS h
  refine Rn.pI dk_115_2 f_115_2.choose_spec.1 sk_92 rfl f_115_2.choose_spec.2 rfl rfl ?_
  rw [← eI1]
  refine Rn.pu (st' := [.ref 92]) dk_115_5 L_115 rfl ?_
  refine Rn.pu (st' := [.long x1, .ref 92]) dk_115_6 L_115 rfl ?_
  obtain ⟨J2, eJ2, h⟩ := letS h
  refine Rn.pJ dk_115_7 f_115_7.choose_spec.1 sk_92 rfl f_115_7.choose_spec.2 rfl rfl ?_
  rw [← eJ2]
  cases h
  exact Rn.rv dk_115_10 R_115
def m_115 (x1 : Int64) (I : dI) (J : dJ) : Option (dI × dJ) := b_115_0 x1 I J
theorem x_115 {Q : Nat → Option Nat} {D : Nat} (hD : 2 ≤ D) {x1 : Int64} {I : dI} {J : dJ} {R : (dI × dJ)} (h : m_115 x1 I J = some R) : Ex Q D 115 I J [.ref 92, .long x1] (none) R.1 R.2 := by
  obtain ⟨D, rfl⟩ : ∃ D', D = D' + 1 := ⟨D - 1, by omega⟩
  exact Ex.of (by decide) (by rw [L_115]; exact Nat.le_of_ble_eq_true rfl) (show xm_sub [(0, .ref 92), (1, .long x1)] [(0, .ref 92), (1, .long x1)] from xm_sub_of [0, 1] [0, 1] rfl rfl (by decide)) (p_115_0 (Nat.le_of_succ_le_succ hD) _ _ _ _ h)
-- ConditionDeskModel.poke(II)V
theorem L_116 : tb_mL 116 = 3 := by decide +kernel
theorem R_116 : tb_mr 116 = none := by decide +kernel
theorem dk_116_0 : decode (tb_mb 116) 0 = .ok (.aload_n 0, 1) := by decide +kernel
theorem dk_116_1 : decode (tb_mb 116) 1 = .ok (.iload_n 1, 1) := by decide +kernel
theorem dk_116_2 : decode (tb_mb 116) 2 = .ok (.i2l, 1) := by decide +kernel
theorem dk_116_3 : decode (tb_mb 116) 3 = .ok (.lconst 0, 1) := by decide +kernel
theorem dk_116_4 : decode (tb_mb 116) 4 = .ok (.ldc2_w 201, 3) := by decide +kernel
theorem kl_116_4 : tb_kl (tb_oc 116) 201 = some (255) := by decide +kernel
theorem dk_116_7 : decode (tb_mb 116) 7 = .ok (.invokestatic 184, 3) := by decide +kernel
theorem ck_116_7 : ∃ b, tb_cr (tb_oc 116) 184 = some (1, 98, b, 3) := ⟨_, rfl⟩
theorem dk_116_10 : decode (tb_mb 116) 10 = .ok (.ifCond .ne (7), 3) := by decide +kernel
theorem dk_116_17 : decode (tb_mb 116) 17 = .ok (.iconst (0), 1) := by decide +kernel
theorem dk_116_18 : decode (tb_mb 116) 18 = .ok (.iconst (0), 1) := by decide +kernel
theorem dk_116_19 : decode (tb_mb 116) 19 = .ok (.invokevirtual 188, 3) := by decide +kernel
theorem ck_116_19 : ∃ b, tb_cr (tb_oc 116) 188 = some (0, 99, b, 2) := ⟨_, rfl⟩
theorem dk_116_22 : decode (tb_mb 116) 22 = .ok (.ifCond .ne (14), 3) := by decide +kernel
theorem dk_116_36 : decode (tb_mb 116) 36 = .ok (.return_, 1) := by decide +kernel
theorem dk_116_25 : decode (tb_mb 116) 25 = .ok (.aload_n 0, 1) := by decide +kernel
theorem dk_116_26 : decode (tb_mb 116) 26 = .ok (.getfield 17, 3) := by decide +kernel
theorem f_116_26 : ∃ b, tb_fr (tb_oc 116) 17 = some (9, 4, b) := ⟨_, rfl⟩
theorem dk_116_29 : decode (tb_mb 116) 29 = .ok (.iload_n 1, 1) := by decide +kernel
theorem dk_116_30 : decode (tb_mb 116) 30 = .ok (.iload_n 2, 1) := by decide +kernel
theorem dk_116_31 : decode (tb_mb 116) 31 = .ok (.sipush (255), 3) := by decide +kernel
theorem dk_116_34 : decode (tb_mb 116) 34 = .ok (.iand, 1) := by decide +kernel
theorem dk_116_35 : decode (tb_mb 116) 35 = .ok (.iastore, 1) := by decide +kernel
theorem dk_116_13 : decode (tb_mb 116) 13 = .ok (.iconst (1), 1) := by decide +kernel
theorem dk_116_14 : decode (tb_mb 116) 14 = .ok (.goto (4), 3) := by decide +kernel
def b_116_18 (x1 : Int32) (x2 : Int32) (s0 : Int32) (I : dI) (J : dJ) : Option (dI × dJ) := (m_99 s0 0 I J).bind (fun r4 => if ¬ r4.1 = 0 then (some (r4.2.1, r4.2.2)) else (if ¬ (x1 < 0 ∨ 256 ≤ Int32.toNatClampNeg x1) then lt_ (sI r4.2.1 95 (Int32.toNatClampNeg x1) (x2 &&& 255)) (fun I8 => some (I8, r4.2.2)) else none))
theorem p_116_18 {Q : Nat → Option Nat} {D : Nat} (hD : 2 ≤ D) (x1 : Int32) (x2 : Int32) (s0 : Int32) (I : dI) (J : dJ) (R : (dI × dJ)) (h : b_116_18 x1 x2 s0 I J = some R) : Rn Q D 116 18 [(0, .ref 92), (1, .int x1), (2, .int x2)] [.int s0, .ref 92] I J (none) R.1 R.2 := by
  replace h : ((m_99 s0 0 I J).bind (fun r4 => if ¬ r4.1 = 0 then (some (r4.2.1, r4.2.2)) else (if ¬ (x1 < 0 ∨ 256 ≤ Int32.toNatClampNeg x1) then lt_ (sI r4.2.1 95 (Int32.toNatClampNeg x1) (x2 &&& 255)) (fun I8 => some (I8, r4.2.2)) else none))) = some R := h
  refine Rn.ic dk_116_18 cic_0 ?_
  obtain ⟨r4, e5, h⟩ := bindS h
  refine Rn.cvI (p := 92) (As := [.int s0, .int 0]) (rest := []) dk_116_19 ck_116_19.choose_spec rfl sk_92 rfl (x_99 (Nat.le_trans (Nat.le_of_ble_eq_true rfl) hD) e5) ?_
  by_cases c6 : ¬ r4.1 = 0
  · rw [if_pos c6] at h
    refine Rn.i1t (t := 36) dk_116_22 rfl (decide_eq_true c6) ?_
    cases h
    exact Rn.rv dk_116_36 R_116
  · rw [if_neg c6] at h
    refine Rn.i1f (t := 36) dk_116_22 rfl (decide_eq_false c6) ?_
    refine Rn.pu (st' := [.ref 92]) dk_116_25 L_116 rfl ?_
    refine Rn.gR (r := 95) dk_116_26 f_116_26.choose_spec sk_92 rfl ?_
    refine Rn.pu (st' := [.int x1, .ref 95]) dk_116_29 L_116 rfl ?_
    refine Rn.pu (st' := [.int x2, .int x1, .ref 95]) dk_116_30 L_116 rfl ?_
    refine Rn.sp dk_116_31 csp_255 ?_
    refine Rn.pu (st' := [.int (x2 &&& 255), .int x1, .ref 95]) dk_116_34 L_116 rfl ?_
    obtain ⟨c7, h⟩ := xm_if h
    obtain ⟨I8, eI8, h⟩ := letS h
    refine Rn.iast dk_116_35 sk_95 c7 ?_
    rw [← eI8]
    cases h
    exact Rn.rv dk_116_36 R_116
def b_116_0 (x1 : Int32) (x2 : Int32) (I : dI) (J : dJ) : Option (dI × dJ) := (m_98 (Int32.toInt64 x1) 0 255 I J).bind (fun r1 => if ¬ r1 = 0 then (b_116_18 x1 x2 0 I J) else (b_116_18 x1 x2 1 I J))
theorem p_116_0 {Q : Nat → Option Nat} {D : Nat} (hD : 2 ≤ D) (x1 : Int32) (x2 : Int32) (I : dI) (J : dJ) (R : (dI × dJ)) (h : b_116_0 x1 x2 I J = some R) : Rn Q D 116 0 [(0, .ref 92), (1, .int x1), (2, .int x2)] [] I J (none) R.1 R.2 := by
  replace h : ((m_98 (Int32.toInt64 x1) 0 255 I J).bind (fun r1 => if ¬ r1 = 0 then (b_116_18 x1 x2 0 I J) else (b_116_18 x1 x2 1 I J))) = some R := h
  refine Rn.pu (st' := [.ref 92]) dk_116_0 L_116 rfl ?_
  refine Rn.pu (st' := [.int x1, .ref 92]) dk_116_1 L_116 rfl ?_
  refine Rn.pu (st' := [.long (Int32.toInt64 x1), .ref 92]) dk_116_2 L_116 rfl ?_
  refine Rn.lc dk_116_3 clc_0 ?_
  refine Rn.ldl dk_116_4 kl_116_4 ?_
  obtain ⟨r1, e2, h⟩ := bindS h
  refine Rn.csI (As := [.long (Int32.toInt64 x1), .long 0, .long 255]) (rest := [.ref 92]) dk_116_7 ck_116_7.choose_spec rfl (x_98 (Nat.le_trans (Nat.le_of_ble_eq_true rfl) hD) e2) ?_
  by_cases c3 : ¬ r1 = 0
  · rw [if_pos c3] at h
    refine Rn.i1t (t := 17) dk_116_10 rfl (decide_eq_true c3) ?_
    refine Rn.ic dk_116_17 cic_0 ?_
    exact Rn.wk [0, 1, 2] rfl (p_116_18 hD _ _ _ _ _ _ h)
  · rw [if_neg c3] at h
    refine Rn.i1f (t := 17) dk_116_10 rfl (decide_eq_false c3) ?_
    refine Rn.ic dk_116_13 cic_1 ?_
    refine Rn.gt (t := 18) dk_116_14 rfl ?_
    exact Rn.wk [0, 1, 2] rfl (p_116_18 hD _ _ _ _ _ _ h)
def m_116 (x1 : Int32) (x2 : Int32) (I : dI) (J : dJ) : Option (dI × dJ) := b_116_0 x1 x2 I J
theorem x_116 {Q : Nat → Option Nat} {D : Nat} (hD : 3 ≤ D) {x1 : Int32} {x2 : Int32} {I : dI} {J : dJ} {R : (dI × dJ)} (h : m_116 x1 x2 I J = some R) : Ex Q D 116 I J [.ref 92, .int x1, .int x2] (none) R.1 R.2 := by
  obtain ⟨D, rfl⟩ : ∃ D', D = D' + 1 := ⟨D - 1, by omega⟩
  exact Ex.of (by decide) (by rw [L_116]; exact Nat.le_of_ble_eq_true rfl) (show xm_sub [(0, .ref 92), (1, .int x1), (2, .int x2)] [(0, .ref 92), (1, .int x1), (2, .int x2)] from xm_sub_of [0, 1, 2] [0, 1, 2] rfl rfl (by decide)) (p_116_0 (Nat.le_of_succ_le_succ hD) _ _ _ _ _ h)
-- ConditionDeskModel.ignore(II)I
theorem L_117 : tb_mL 117 = 4 := by decide +kernel
theorem R_117 : tb_mr 117 = some .int := by decide +kernel
theorem dk_117_0 : decode (tb_mb 117) 0 = .ok (.aload_n 0, 1) := by decide +kernel
theorem dk_117_1 : decode (tb_mb 117) 1 = .ok (.iload_n 1, 1) := by decide +kernel
theorem dk_117_2 : decode (tb_mb 117) 2 = .ok (.i2l, 1) := by decide +kernel
theorem dk_117_3 : decode (tb_mb 117) 3 = .ok (.lconst 0, 1) := by decide +kernel
theorem dk_117_4 : decode (tb_mb 117) 4 = .ok (.ldc2_w 182, 3) := by decide +kernel
theorem kl_117_4 : tb_kl (tb_oc 117) 182 = some (7) := by decide +kernel
theorem dk_117_7 : decode (tb_mb 117) 7 = .ok (.invokestatic 184, 3) := by decide +kernel
theorem ck_117_7 : ∃ b, tb_cr (tb_oc 117) 184 = some (1, 98, b, 3) := ⟨_, rfl⟩
theorem dk_117_10 : decode (tb_mb 117) 10 = .ok (.ifCond .eq (15), 3) := by decide +kernel
theorem dk_117_25 : decode (tb_mb 117) 25 = .ok (.iconst (1), 1) := by decide +kernel
theorem dk_117_26 : decode (tb_mb 117) 26 = .ok (.goto (4), 3) := by decide +kernel
theorem dk_117_30 : decode (tb_mb 117) 30 = .ok (.iload_n 1, 1) := by decide +kernel
theorem dk_117_31 : decode (tb_mb 117) 31 = .ok (.i2l, 1) := by decide +kernel
theorem dk_117_32 : decode (tb_mb 117) 32 = .ok (.lconst 0, 1) := by decide +kernel
theorem dk_117_33 : decode (tb_mb 117) 33 = .ok (.ldc2_w 182, 3) := by decide +kernel
theorem kl_117_33 : tb_kl (tb_oc 117) 182 = some (7) := by decide +kernel
theorem dk_117_36 : decode (tb_mb 117) 36 = .ok (.invokestatic 184, 3) := by decide +kernel
theorem ck_117_36 : ∃ b, tb_cr (tb_oc 117) 184 = some (1, 98, b, 3) := ⟨_, rfl⟩
theorem dk_117_39 : decode (tb_mb 117) 39 = .ok (.ifCond .eq (19), 3) := by decide +kernel
theorem dk_117_58 : decode (tb_mb 117) 58 = .ok (.iconst (0), 1) := by decide +kernel
theorem dk_117_59 : decode (tb_mb 117) 59 = .ok (.invokevirtual 188, 3) := by decide +kernel
theorem ck_117_59 : ∃ b, tb_cr (tb_oc 117) 188 = some (0, 99, b, 2) := ⟨_, rfl⟩
theorem dk_117_62 : decode (tb_mb 117) 62 = .ok (.ifCond .eq (5), 3) := by decide +kernel
theorem dk_117_67 : decode (tb_mb 117) 67 = .ok (.aload_n 0, 1) := by decide +kernel
theorem dk_117_68 : decode (tb_mb 117) 68 = .ok (.getfield 33, 3) := by decide +kernel
theorem f_117_68 : ∃ b, tb_fr (tb_oc 117) 33 = some (9, 10, b) := ⟨_, rfl⟩
theorem dk_117_71 : decode (tb_mb 117) 71 = .ok (.iload_n 1, 1) := by decide +kernel
theorem dk_117_72 : decode (tb_mb 117) 72 = .ok (.iaload, 1) := by decide +kernel
theorem dk_117_73 : decode (tb_mb 117) 73 = .ok (.istore_n 3, 1) := by decide +kernel
theorem dk_117_74 : decode (tb_mb 117) 74 = .ok (.aload_n 0, 1) := by decide +kernel
theorem dk_117_75 : decode (tb_mb 117) 75 = .ok (.getfield 33, 3) := by decide +kernel
theorem f_117_75 : ∃ b, tb_fr (tb_oc 117) 33 = some (9, 10, b) := ⟨_, rfl⟩
theorem dk_117_78 : decode (tb_mb 117) 78 = .ok (.iload_n 1, 1) := by decide +kernel
theorem dk_117_79 : decode (tb_mb 117) 79 = .ok (.iload_n 2, 1) := by decide +kernel
theorem dk_117_80 : decode (tb_mb 117) 80 = .ok (.iastore, 1) := by decide +kernel
theorem dk_117_81 : decode (tb_mb 117) 81 = .ok (.iload_n 3, 1) := by decide +kernel
theorem dk_117_82 : decode (tb_mb 117) 82 = .ok (.ireturn, 1) := by decide +kernel
theorem dk_117_65 : decode (tb_mb 117) 65 = .ok (.iconst (0), 1) := by decide +kernel
theorem dk_117_66 : decode (tb_mb 117) 66 = .ok (.ireturn, 1) := by decide +kernel
theorem dk_117_42 : decode (tb_mb 117) 42 = .ok (.aload_n 0, 1) := by decide +kernel
theorem dk_117_43 : decode (tb_mb 117) 43 = .ok (.getfield 20, 3) := by decide +kernel
theorem f_117_43 : ∃ b, tb_fr (tb_oc 117) 20 = some (9, 6, b) := ⟨_, rfl⟩
theorem dk_117_46 : decode (tb_mb 117) 46 = .ok (.iload_n 1, 1) := by decide +kernel
theorem dk_117_47 : decode (tb_mb 117) 47 = .ok (.bipush (7), 2) := by decide +kernel
theorem dk_117_49 : decode (tb_mb 117) 49 = .ok (.iand, 1) := by decide +kernel
theorem dk_117_50 : decode (tb_mb 117) 50 = .ok (.baload, 1) := by decide +kernel
theorem dk_117_51 : decode (tb_mb 117) 51 = .ok (.ifCond .ne (7), 3) := by decide +kernel
theorem dk_117_54 : decode (tb_mb 117) 54 = .ok (.iconst (1), 1) := by decide +kernel
theorem dk_117_55 : decode (tb_mb 117) 55 = .ok (.goto (4), 3) := by decide +kernel
theorem dk_117_13 : decode (tb_mb 117) 13 = .ok (.iload_n 2, 1) := by decide +kernel
theorem dk_117_14 : decode (tb_mb 117) 14 = .ok (.i2l, 1) := by decide +kernel
theorem dk_117_15 : decode (tb_mb 117) 15 = .ok (.lconst 0, 1) := by decide +kernel
theorem dk_117_16 : decode (tb_mb 117) 16 = .ok (.ldc2_w 262, 3) := by decide +kernel
theorem kl_117_16 : tb_kl (tb_oc 117) 262 = some (1000) := by decide +kernel
theorem dk_117_19 : decode (tb_mb 117) 19 = .ok (.invokestatic 184, 3) := by decide +kernel
theorem ck_117_19 : ∃ b, tb_cr (tb_oc 117) 184 = some (1, 98, b, 3) := ⟨_, rfl⟩
theorem dk_117_22 : decode (tb_mb 117) 22 = .ok (.ifCond .ne (7), 3) := by decide +kernel
theorem dk_117_29 : decode (tb_mb 117) 29 = .ok (.iconst (0), 1) := by decide +kernel
def b_117_59 (x1 : Int32) (x2 : Int32) (s0 : Int32) (s1 : Int32) (I : dI) (J : dJ) : Option (Int32 × dI × dJ) := (m_99 s1 s0 I J).bind (fun r7 => if r7.1 = 0 then (if ¬ (x1 < 0 ∨ 8 ≤ Int32.toNatClampNeg x1) then (if ¬ (x1 < 0 ∨ 8 ≤ Int32.toNatClampNeg x1) then lt_ (sI r7.2.1 100 (Int32.toNatClampNeg x1) x2) (fun I12 => some ((r7.2.1 100 (Int32.toNatClampNeg x1)), I12, r7.2.2)) else none) else none) else (some (0, r7.2.1, r7.2.2)))
theorem p_117_59 {Q : Nat → Option Nat} {D : Nat} (hD : 2 ≤ D) (x1 : Int32) (x2 : Int32) (s0 : Int32) (s1 : Int32) (I : dI) (J : dJ) (R : (Int32 × dI × dJ)) (h : b_117_59 x1 x2 s0 s1 I J = some R) : Rn Q D 117 59 [(0, .ref 92), (1, .int x1), (2, .int x2)] [.int s0, .int s1, .ref 92] I J (some (.int R.1)) R.2.1 R.2.2 := by
  replace h : ((m_99 s1 s0 I J).bind (fun r7 => if r7.1 = 0 then (if ¬ (x1 < 0 ∨ 8 ≤ Int32.toNatClampNeg x1) then (if ¬ (x1 < 0 ∨ 8 ≤ Int32.toNatClampNeg x1) then lt_ (sI r7.2.1 100 (Int32.toNatClampNeg x1) x2) (fun I12 => some ((r7.2.1 100 (Int32.toNatClampNeg x1)), I12, r7.2.2)) else none) else none) else (some (0, r7.2.1, r7.2.2)))) = some R := h
  obtain ⟨r7, e8, h⟩ := bindS h
  refine Rn.cvI (p := 92) (As := [.int s1, .int s0]) (rest := []) dk_117_59 ck_117_59.choose_spec rfl sk_92 rfl (x_99 (Nat.le_trans (Nat.le_of_ble_eq_true rfl) hD) e8) ?_
  by_cases c9 : r7.1 = 0
  · rw [if_pos c9] at h
    refine Rn.i1t (t := 67) dk_117_62 rfl (decide_eq_true c9) ?_
    refine Rn.pu (st' := [.ref 92]) dk_117_67 L_117 rfl ?_
    refine Rn.gR (r := 100) dk_117_68 f_117_68.choose_spec sk_92 rfl ?_
    refine Rn.pu (st' := [.int x1, .ref 100]) dk_117_71 L_117 rfl ?_
    obtain ⟨c10, h⟩ := xm_if h
    refine Rn.iald dk_117_72 sk_100 c10 ?_
    refine Rn.pu (ls' := [(3, .int (r7.2.1 100 (Int32.toNatClampNeg x1))), (0, .ref 92), (1, .int x1), (2, .int x2)]) (st' := []) dk_117_73 L_117 rfl ?_
    refine Rn.pu (st' := [.ref 92]) dk_117_74 L_117 rfl ?_
    refine Rn.gR (r := 100) dk_117_75 f_117_75.choose_spec sk_92 rfl ?_
    refine Rn.pu (st' := [.int x1, .ref 100]) dk_117_78 L_117 rfl ?_
    refine Rn.pu (st' := [.int x2, .int x1, .ref 100]) dk_117_79 L_117 rfl ?_
    obtain ⟨c11, h⟩ := xm_if h
    obtain ⟨I12, eI12, h⟩ := letS h
    refine Rn.iast dk_117_80 sk_100 c11 ?_
    rw [← eI12]
    refine Rn.pu (st' := [.int (r7.2.1 100 (Int32.toNatClampNeg x1))]) dk_117_81 L_117 rfl ?_
    cases h
    exact Rn.ri dk_117_82 R_117 rfl
  · rw [if_neg c9] at h
    refine Rn.i1f (t := 67) dk_117_62 rfl (decide_eq_false c9) ?_
    refine Rn.ic dk_117_65 cic_0 ?_
    cases h
    exact Rn.ri dk_117_66 R_117 rfl
def b_117_58 (x1 : Int32) (x2 : Int32) (s0 : Int32) (I : dI) (J : dJ) : Option (Int32 × dI × dJ) := b_117_59 x1 x2 0 s0 I J
theorem p_117_58 {Q : Nat → Option Nat} {D : Nat} (hD : 2 ≤ D) (x1 : Int32) (x2 : Int32) (s0 : Int32) (I : dI) (J : dJ) (R : (Int32 × dI × dJ)) (h : b_117_58 x1 x2 s0 I J = some R) : Rn Q D 117 58 [(0, .ref 92), (1, .int x1), (2, .int x2)] [.int s0, .ref 92] I J (some (.int R.1)) R.2.1 R.2.2 := by
  replace h : (b_117_59 x1 x2 0 s0 I J) = some R := h
  refine Rn.ic dk_117_58 cic_0 ?_
  exact Rn.wk [0, 1, 2] rfl (p_117_59 hD _ _ _ _ _ _ _ h)
def b_117_30 (x1 : Int32) (x2 : Int32) (s0 : Int32) (I : dI) (J : dJ) : Option (Int32 × dI × dJ) := (m_98 (Int32.toInt64 x1) 0 7 I J).bind (fun r4 => if r4 = 0 then (b_117_58 x1 x2 s0 I J) else (if ¬ ((x1 &&& 7) < 0 ∨ 8 ≤ Int32.toNatClampNeg (x1 &&& 7)) then (if ¬ (I 96 (Int32.toNatClampNeg (x1 &&& 7))) = 0 then (b_117_58 x1 x2 s0 I J) else (b_117_59 x1 x2 1 s0 I J)) else none))
theorem p_117_30 {Q : Nat → Option Nat} {D : Nat} (hD : 2 ≤ D) (x1 : Int32) (x2 : Int32) (s0 : Int32) (I : dI) (J : dJ) (R : (Int32 × dI × dJ)) (h : b_117_30 x1 x2 s0 I J = some R) : Rn Q D 117 30 [(0, .ref 92), (1, .int x1), (2, .int x2)] [.int s0, .ref 92] I J (some (.int R.1)) R.2.1 R.2.2 := by
  replace h : ((m_98 (Int32.toInt64 x1) 0 7 I J).bind (fun r4 => if r4 = 0 then (b_117_58 x1 x2 s0 I J) else (if ¬ ((x1 &&& 7) < 0 ∨ 8 ≤ Int32.toNatClampNeg (x1 &&& 7)) then (if ¬ (I 96 (Int32.toNatClampNeg (x1 &&& 7))) = 0 then (b_117_58 x1 x2 s0 I J) else (b_117_59 x1 x2 1 s0 I J)) else none))) = some R := h
  refine Rn.pu (st' := [.int x1, .int s0, .ref 92]) dk_117_30 L_117 rfl ?_
  refine Rn.pu (st' := [.long (Int32.toInt64 x1), .int s0, .ref 92]) dk_117_31 L_117 rfl ?_
  refine Rn.lc dk_117_32 clc_0 ?_
  refine Rn.ldl dk_117_33 kl_117_33 ?_
  obtain ⟨r4, e5, h⟩ := bindS h
  refine Rn.csI (As := [.long (Int32.toInt64 x1), .long 0, .long 7]) (rest := [.int s0, .ref 92]) dk_117_36 ck_117_36.choose_spec rfl (x_98 (Nat.le_trans (Nat.le_of_ble_eq_true rfl) hD) e5) ?_
  by_cases c6 : r4 = 0
  · rw [if_pos c6] at h
    refine Rn.i1t (t := 58) dk_117_39 rfl (decide_eq_true c6) ?_
    exact Rn.wk [0, 1, 2] rfl (p_117_58 hD _ _ _ _ _ _ h)
  · rw [if_neg c6] at h
    refine Rn.i1f (t := 58) dk_117_39 rfl (decide_eq_false c6) ?_
    refine Rn.pu (st' := [.ref 92, .int s0, .ref 92]) dk_117_42 L_117 rfl ?_
    refine Rn.gR (r := 96) dk_117_43 f_117_43.choose_spec sk_92 rfl ?_
    refine Rn.pu (st' := [.int x1, .ref 96, .int s0, .ref 92]) dk_117_46 L_117 rfl ?_
    refine Rn.bp dk_117_47 cbp_7 ?_
    refine Rn.pu (st' := [.int (x1 &&& 7), .ref 96, .int s0, .ref 92]) dk_117_49 L_117 rfl ?_
    obtain ⟨c7, h⟩ := xm_if h
    refine Rn.bald dk_117_50 sk_96 c7 ?_
    by_cases c8 : ¬ (I 96 (Int32.toNatClampNeg (x1 &&& 7))) = 0
    · rw [if_pos c8] at h
      refine Rn.i1t (t := 58) dk_117_51 rfl (decide_eq_true c8) ?_
      exact Rn.wk [0, 1, 2] rfl (p_117_58 hD _ _ _ _ _ _ h)
    · rw [if_neg c8] at h
      refine Rn.i1f (t := 58) dk_117_51 rfl (decide_eq_false c8) ?_
      refine Rn.ic dk_117_54 cic_1 ?_
      refine Rn.gt (t := 59) dk_117_55 rfl ?_
      exact Rn.wk [0, 1, 2] rfl (p_117_59 hD _ _ _ _ _ _ _ h)
def b_117_25 (x1 : Int32) (x2 : Int32) (I : dI) (J : dJ) : Option (Int32 × dI × dJ) := b_117_30 x1 x2 1 I J
theorem p_117_25 {Q : Nat → Option Nat} {D : Nat} (hD : 2 ≤ D) (x1 : Int32) (x2 : Int32) (I : dI) (J : dJ) (R : (Int32 × dI × dJ)) (h : b_117_25 x1 x2 I J = some R) : Rn Q D 117 25 [(0, .ref 92), (1, .int x1), (2, .int x2)] [.ref 92] I J (some (.int R.1)) R.2.1 R.2.2 := by
  replace h : (b_117_30 x1 x2 1 I J) = some R := h
  refine Rn.ic dk_117_25 cic_1 ?_
  refine Rn.gt (t := 30) dk_117_26 rfl ?_
  exact Rn.wk [0, 1, 2] rfl (p_117_30 hD _ _ _ _ _ _ h)
def b_117_0 (x1 : Int32) (x2 : Int32) (I : dI) (J : dJ) : Option (Int32 × dI × dJ) := (m_98 (Int32.toInt64 x1) 0 7 I J).bind (fun r1 => if r1 = 0 then (b_117_25 x1 x2 I J) else ((m_98 (Int32.toInt64 x2) 0 1000 I J).bind (fun r4 => if ¬ r4 = 0 then (b_117_30 x1 x2 0 I J) else (b_117_25 x1 x2 I J))))
theorem p_117_0 {Q : Nat → Option Nat} {D : Nat} (hD : 2 ≤ D) (x1 : Int32) (x2 : Int32) (I : dI) (J : dJ) (R : (Int32 × dI × dJ)) (h : b_117_0 x1 x2 I J = some R) : Rn Q D 117 0 [(0, .ref 92), (1, .int x1), (2, .int x2)] [] I J (some (.int R.1)) R.2.1 R.2.2 := by
  replace h : ((m_98 (Int32.toInt64 x1) 0 7 I J).bind (fun r1 => if r1 = 0 then (b_117_25 x1 x2 I J) else ((m_98 (Int32.toInt64 x2) 0 1000 I J).bind (fun r4 => if ¬ r4 = 0 then (b_117_30 x1 x2 0 I J) else (b_117_25 x1 x2 I J))))) = some R := h
  refine Rn.pu (st' := [.ref 92]) dk_117_0 L_117 rfl ?_
  refine Rn.pu (st' := [.int x1, .ref 92]) dk_117_1 L_117 rfl ?_
  refine Rn.pu (st' := [.long (Int32.toInt64 x1), .ref 92]) dk_117_2 L_117 rfl ?_
  refine Rn.lc dk_117_3 clc_0 ?_
  refine Rn.ldl dk_117_4 kl_117_4 ?_
  obtain ⟨r1, e2, h⟩ := bindS h
  refine Rn.csI (As := [.long (Int32.toInt64 x1), .long 0, .long 7]) (rest := [.ref 92]) dk_117_7 ck_117_7.choose_spec rfl (x_98 (Nat.le_trans (Nat.le_of_ble_eq_true rfl) hD) e2) ?_
  by_cases c3 : r1 = 0
  · rw [if_pos c3] at h
    refine Rn.i1t (t := 25) dk_117_10 rfl (decide_eq_true c3) ?_
    exact Rn.wk [0, 1, 2] rfl (p_117_25 hD _ _ _ _ _ h)
  · rw [if_neg c3] at h
    refine Rn.i1f (t := 25) dk_117_10 rfl (decide_eq_false c3) ?_
    refine Rn.pu (st' := [.int x2, .ref 92]) dk_117_13 L_117 rfl ?_
    refine Rn.pu (st' := [.long (Int32.toInt64 x2), .ref 92]) dk_117_14 L_117 rfl ?_
    refine Rn.lc dk_117_15 clc_0 ?_
    refine Rn.ldl dk_117_16 kl_117_16 ?_
    obtain ⟨r4, e5, h⟩ := bindS h
    refine Rn.csI (As := [.long (Int32.toInt64 x2), .long 0, .long 1000]) (rest := [.ref 92]) dk_117_19 ck_117_19.choose_spec rfl (x_98 (Nat.le_trans (Nat.le_of_ble_eq_true rfl) hD) e5) ?_
    by_cases c6 : ¬ r4 = 0
    · rw [if_pos c6] at h
      refine Rn.i1t (t := 29) dk_117_22 rfl (decide_eq_true c6) ?_
      refine Rn.ic dk_117_29 cic_0 ?_
      exact Rn.wk [0, 1, 2] rfl (p_117_30 hD _ _ _ _ _ _ h)
    · rw [if_neg c6] at h
      refine Rn.i1f (t := 29) dk_117_22 rfl (decide_eq_false c6) ?_
      exact Rn.wk [0, 1, 2] rfl (p_117_25 hD _ _ _ _ _ h)
def m_117 (x1 : Int32) (x2 : Int32) (I : dI) (J : dJ) : Option (Int32 × dI × dJ) := b_117_0 x1 x2 I J
theorem x_117 {Q : Nat → Option Nat} {D : Nat} (hD : 3 ≤ D) {x1 : Int32} {x2 : Int32} {I : dI} {J : dJ} {R : (Int32 × dI × dJ)} (h : m_117 x1 x2 I J = some R) : Ex Q D 117 I J [.ref 92, .int x1, .int x2] (some (.int R.1)) R.2.1 R.2.2 := by
  obtain ⟨D, rfl⟩ : ∃ D', D = D' + 1 := ⟨D - 1, by omega⟩
  exact Ex.of (by decide) (by rw [L_117]; exact Nat.le_of_ble_eq_true rfl) (show xm_sub [(0, .ref 92), (1, .int x1), (2, .int x2)] [(0, .ref 92), (1, .int x1), (2, .int x2)] from xm_sub_of [0, 1, 2] [0, 1, 2] rfl rfl (by decide)) (p_117_0 (Nat.le_of_succ_le_succ hD) _ _ _ _ _ h)
