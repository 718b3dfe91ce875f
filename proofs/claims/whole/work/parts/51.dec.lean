/-! Printed by wip/whole/gen_dec.py: methods read back. -/
-- ConditionDeskModel.is(IIJ)Z
theorem L_107 : tb_mL 107 = 8 := by decide +kernel
theorem R_107 : tb_mr 107 = some .boolean := by decide +kernel
theorem dk_107_0 : decode (tb_mb 107) 0 = .ok (.lconst 0, 1) := by decide +kernel
theorem dk_107_1 : decode (tb_mb 107) 1 = .ok (.lstore 5, 2) := by decide +kernel
theorem dk_107_3 : decode (tb_mb 107) 3 = .ok (.iload_n 2, 1) := by decide +kernel
theorem dk_107_4 : decode (tb_mb 107) 4 = .ok (.iconst (1), 1) := by decide +kernel
theorem dk_107_5 : decode (tb_mb 107) 5 = .ok (.isub, 1) := by decide +kernel
theorem dk_107_6 : decode (tb_mb 107) 6 = .ok (.istore 7, 2) := by decide +kernel
theorem dk_107_8 : decode (tb_mb 107) 8 = .ok (.iload 7, 2) := by decide +kernel
theorem dk_107_10 : decode (tb_mb 107) 10 = .ok (.iload_n 1, 1) := by decide +kernel
theorem dk_107_11 : decode (tb_mb 107) 11 = .ok (.if_icmp .lt (25), 3) := by decide +kernel
theorem dk_107_36 : decode (tb_mb 107) 36 = .ok (.iload_n 2, 1) := by decide +kernel
theorem dk_107_37 : decode (tb_mb 107) 37 = .ok (.iload_n 1, 1) := by decide +kernel
theorem dk_107_38 : decode (tb_mb 107) 38 = .ok (.isub, 1) := by decide +kernel
theorem dk_107_39 : decode (tb_mb 107) 39 = .ok (.bipush (8), 2) := by decide +kernel
theorem dk_107_41 : decode (tb_mb 107) 41 = .ok (.if_icmp .ge (14), 3) := by decide +kernel
theorem dk_107_55 : decode (tb_mb 107) 55 = .ok (.iconst (0), 1) := by decide +kernel
theorem dk_107_56 : decode (tb_mb 107) 56 = .ok (.ireturn, 1) := by decide +kernel
theorem dk_107_44 : decode (tb_mb 107) 44 = .ok (.lload 5, 2) := by decide +kernel
theorem dk_107_46 : decode (tb_mb 107) 46 = .ok (.lload_n 3, 1) := by decide +kernel
theorem dk_107_47 : decode (tb_mb 107) 47 = .ok (.lcmp, 1) := by decide +kernel
theorem dk_107_48 : decode (tb_mb 107) 48 = .ok (.ifCond .ne (7), 3) := by decide +kernel
theorem dk_107_51 : decode (tb_mb 107) 51 = .ok (.iconst (1), 1) := by decide +kernel
theorem dk_107_52 : decode (tb_mb 107) 52 = .ok (.goto (4), 3) := by decide +kernel
theorem dk_107_14 : decode (tb_mb 107) 14 = .ok (.lload 5, 2) := by decide +kernel
theorem dk_107_16 : decode (tb_mb 107) 16 = .ok (.bipush (8), 2) := by decide +kernel
theorem dk_107_18 : decode (tb_mb 107) 18 = .ok (.lshl, 1) := by decide +kernel
theorem dk_107_19 : decode (tb_mb 107) 19 = .ok (.aload_n 0, 1) := by decide +kernel
theorem dk_107_20 : decode (tb_mb 107) 20 = .ok (.getfield 7, 3) := by decide +kernel
theorem f_107_20 : ∃ b, tb_fr (tb_oc 107) 7 = some (9, 2, b) := ⟨_, rfl⟩
theorem dk_107_23 : decode (tb_mb 107) 23 = .ok (.iload 7, 2) := by decide +kernel
theorem dk_107_25 : decode (tb_mb 107) 25 = .ok (.caload, 1) := by decide +kernel
theorem dk_107_26 : decode (tb_mb 107) 26 = .ok (.i2l, 1) := by decide +kernel
theorem dk_107_27 : decode (tb_mb 107) 27 = .ok (.lor, 1) := by decide +kernel
theorem dk_107_28 : decode (tb_mb 107) 28 = .ok (.lstore 5, 2) := by decide +kernel
theorem dk_107_30 : decode (tb_mb 107) 30 = .ok (.iinc 7 (-1), 3) := by decide +kernel
theorem dk_107_33 : decode (tb_mb 107) 33 = .ok (.goto (-25), 3) := by decide +kernel
def b_107_8 : Nat → Int32 → Int32 → Int64 → Int64 → Int32 → dI → dJ → Option Int32
  | 0, _, _, _, _, _, _, _ => none
  | n + 1, x1, x2, x3, x5, x7, I, J => if x7 < x1 then (if 8 ≤ (x2 - x1) then (some 0) else (if ¬ (lg_cmp x5 x3) = 0 then (some 0) else (some 1))) else (if ¬ (x7 < 0 ∨ 120 ≤ Int32.toNatClampNeg x7) then ((b_107_8 n) x1 x2 x3 ((x5 <<< ((Int32.toInt64 8) &&& 63)) ||| (Int32.toInt64 (I 93 (Int32.toNatClampNeg x7)))) (x7 + (-1)) I J) else none)
theorem p_107_8 {Q : Nat → Option Nat} {D : Nat} (hD : 1 ≤ D) : ∀ (n : Nat) (x1 : Int32) (x2 : Int32) (x3 : Int64) (x5 : Int64) (x7 : Int32) (I : dI) (J : dJ) (R : Int32), b_107_8 n x1 x2 x3 x5 x7 I J = some R → Rn Q D 107 8 [(0, .ref 92), (1, .int x1), (2, .int x2), (3, .long x3), (5, .long x5), (7, .int x7)] [] I J (some (.int R)) I J := by
  intro n
  induction n with
  | zero => intro x1 x2 x3 x5 x7 I J R h; exact absurd h (by simp [b_107_8])
  | succ n ih =>
    intro x1 x2 x3 x5 x7 I J R h
    replace h : (if x7 < x1 then (if 8 ≤ (x2 - x1) then (some 0) else (if ¬ (lg_cmp x5 x3) = 0 then (some 0) else (some 1))) else (if ¬ (x7 < 0 ∨ 120 ≤ Int32.toNatClampNeg x7) then ((b_107_8 n) x1 x2 x3 ((x5 <<< ((Int32.toInt64 8) &&& 63)) ||| (Int32.toInt64 (I 93 (Int32.toNatClampNeg x7)))) (x7 + (-1)) I J) else none)) = some R := h
    refine Rn.pu (st' := [.int x7]) dk_107_8 L_107 rfl ?_
    refine Rn.pu (st' := [.int x1, .int x7]) dk_107_10 L_107 rfl ?_
    by_cases c1 : x7 < x1
    · rw [if_pos c1] at h
      refine Rn.i2t (t := 36) dk_107_11 rfl (decide_eq_true c1) ?_
      refine Rn.pu (st' := [.int x2]) dk_107_36 L_107 rfl ?_
      refine Rn.pu (st' := [.int x1, .int x2]) dk_107_37 L_107 rfl ?_
      refine Rn.pu (st' := [.int (x2 - x1)]) dk_107_38 L_107 rfl ?_
      refine Rn.bp dk_107_39 cbp_8 ?_
      by_cases c2 : 8 ≤ (x2 - x1)
      · rw [if_pos c2] at h
        refine Rn.i2t (t := 55) dk_107_41 rfl (decide_eq_true c2) ?_
        refine Rn.ic dk_107_55 cic_0 ?_
        cases h
        exact Rn.ri dk_107_56 R_107 rfl
      · rw [if_neg c2] at h
        refine Rn.i2f (t := 55) dk_107_41 rfl (decide_eq_false c2) ?_
        refine Rn.pu (st' := [.long x5]) dk_107_44 L_107 rfl ?_
        refine Rn.pu (st' := [.long x3, .long x5]) dk_107_46 L_107 rfl ?_
        refine Rn.pu (st' := [.int (lg_cmp x5 x3)]) dk_107_47 L_107 rfl ?_
        by_cases c3 : ¬ (lg_cmp x5 x3) = 0
        · rw [if_pos c3] at h
          refine Rn.i1t (t := 55) dk_107_48 rfl (decide_eq_true c3) ?_
          refine Rn.ic dk_107_55 cic_0 ?_
          cases h
          exact Rn.ri dk_107_56 R_107 rfl
        · rw [if_neg c3] at h
          refine Rn.i1f (t := 55) dk_107_48 rfl (decide_eq_false c3) ?_
          refine Rn.ic dk_107_51 cic_1 ?_
          refine Rn.gt (t := 56) dk_107_52 rfl ?_
          cases h
          exact Rn.ri dk_107_56 R_107 rfl
    · rw [if_neg c1] at h
      refine Rn.i2f (t := 36) dk_107_11 rfl (decide_eq_false c1) ?_
      refine Rn.pu (st' := [.long x5]) dk_107_14 L_107 rfl ?_
      refine Rn.bp dk_107_16 cbp_8 ?_
      refine Rn.pu (st' := [.long (x5 <<< ((Int32.toInt64 8) &&& 63))]) dk_107_18 L_107 rfl ?_
      refine Rn.pu (st' := [.ref 92, .long (x5 <<< ((Int32.toInt64 8) &&& 63))]) dk_107_19 L_107 rfl ?_
      refine Rn.gR (r := 93) dk_107_20 f_107_20.choose_spec sk_92 rfl ?_
      refine Rn.pu (st' := [.int x7, .ref 93, .long (x5 <<< ((Int32.toInt64 8) &&& 63))]) dk_107_23 L_107 rfl ?_
      obtain ⟨c4, h⟩ := xm_if h
      refine Rn.cald dk_107_25 sk_93 c4 ?_
      refine Rn.pu (st' := [.long (Int32.toInt64 (I 93 (Int32.toNatClampNeg x7))), .long (x5 <<< ((Int32.toInt64 8) &&& 63))]) dk_107_26 L_107 rfl ?_
      refine Rn.pu (st' := [.long ((x5 <<< ((Int32.toInt64 8) &&& 63)) ||| (Int32.toInt64 (I 93 (Int32.toNatClampNeg x7))))]) dk_107_27 L_107 rfl ?_
      refine Rn.pu (ls' := [(5, .long ((x5 <<< ((Int32.toInt64 8) &&& 63)) ||| (Int32.toInt64 (I 93 (Int32.toNatClampNeg x7))))), (0, .ref 92), (1, .int x1), (2, .int x2), (3, .long x3), (7, .int x7)]) (st' := []) dk_107_28 L_107 rfl ?_
      refine Rn.inc (ls' := [(7, .int (x7 + (-1))), (5, .long ((x5 <<< ((Int32.toInt64 8) &&& 63)) ||| (Int32.toInt64 (I 93 (Int32.toNatClampNeg x7))))), (0, .ref 92), (1, .int x1), (2, .int x2), (3, .long x3)]) dk_107_30 L_107 (by decide) cic_m1 rfl rfl ?_
      refine Rn.gt (t := 8) dk_107_33 rfl ?_
      exact Rn.wk [2, 3, 4, 5, 1, 0] rfl (ih _ _ _ _ _ _ _ _ h)
def b_107_0 (x1 : Int32) (x2 : Int32) (x3 : Int64) (I : dI) (J : dJ) : Option Int32 := b_107_8 FU x1 x2 x3 0 (x2 - 1) I J
theorem p_107_0 {Q : Nat → Option Nat} {D : Nat} (hD : 1 ≤ D) (x1 : Int32) (x2 : Int32) (x3 : Int64) (I : dI) (J : dJ) (R : Int32) (h : b_107_0 x1 x2 x3 I J = some R) : Rn Q D 107 0 [(0, .ref 92), (1, .int x1), (2, .int x2), (3, .long x3)] [] I J (some (.int R)) I J := by
  replace h : (b_107_8 FU x1 x2 x3 0 (x2 - 1) I J) = some R := h
  refine Rn.lc dk_107_0 clc_0 ?_
  refine Rn.pu (ls' := [(5, .long 0), (0, .ref 92), (1, .int x1), (2, .int x2), (3, .long x3)]) (st' := []) dk_107_1 L_107 rfl ?_
  refine Rn.pu (st' := [.int x2]) dk_107_3 L_107 rfl ?_
  refine Rn.ic dk_107_4 cic_1 ?_
  refine Rn.pu (st' := [.int (x2 - 1)]) dk_107_5 L_107 rfl ?_
  refine Rn.pu (ls' := [(7, .int (x2 - 1)), (5, .long 0), (0, .ref 92), (1, .int x1), (2, .int x2), (3, .long x3)]) (st' := []) dk_107_6 L_107 rfl ?_
  exact Rn.wk [2, 3, 4, 5, 1, 0] rfl (p_107_8 hD FU _ _ _ _ _ _ _ _ h)
def m_107 (x1 : Int32) (x2 : Int32) (x3 : Int64) (I : dI) (J : dJ) : Option Int32 := b_107_0 x1 x2 x3 I J
theorem x_107 {Q : Nat → Option Nat} {D : Nat} (hD : 2 ≤ D) {x1 : Int32} {x2 : Int32} {x3 : Int64} {I : dI} {J : dJ} {R : Int32} (h : m_107 x1 x2 x3 I J = some R) : Ex Q D 107 I J [.ref 92, .int x1, .int x2, .long x3] (some (.int R)) I J := by
  obtain ⟨D, rfl⟩ : ∃ D', D = D' + 1 := ⟨D - 1, by omega⟩
  exact Ex.of (by decide) (by rw [L_107]; exact Nat.le_of_ble_eq_true rfl) (show xm_sub [(0, .ref 92), (1, .int x1), (2, .int x2), (3, .long x3)] [(0, .ref 92), (1, .int x1), (2, .int x2), (3, .long x3)] from xm_sub_of [0, 1, 2, 3] [0, 1, 2, 3] rfl rfl (by decide)) (p_107_0 (Nat.le_of_succ_le_succ hD) _ _ _ _ _ _ h)
-- ConditionDeskModel.scanWord()V
theorem L_106 : tb_mL 106 = 3 := by decide +kernel
theorem R_106 : tb_mr 106 = none := by decide +kernel
theorem dk_106_0 : decode (tb_mb 106) 0 = .ok (.aload_n 0, 1) := by decide +kernel
theorem dk_106_1 : decode (tb_mb 106) 1 = .ok (.getfield 102, 3) := by decide +kernel
theorem f_106_1 : ∃ b, tb_fr (tb_oc 106) 102 = some (9, 21, b) := ⟨_, rfl⟩
theorem dk_106_4 : decode (tb_mb 106) 4 = .ok (.aload_n 0, 1) := by decide +kernel
theorem dk_106_5 : decode (tb_mb 106) 5 = .ok (.getfield 109, 3) := by decide +kernel
theorem f_106_5 : ∃ b, tb_fr (tb_oc 106) 109 = some (9, 23, b) := ⟨_, rfl⟩
theorem dk_106_8 : decode (tb_mb 106) 8 = .ok (.isub, 1) := by decide +kernel
theorem dk_106_9 : decode (tb_mb 106) 9 = .ok (.istore_n 1, 1) := by decide +kernel
theorem dk_106_10 : decode (tb_mb 106) 10 = .ok (.aload_n 0, 1) := by decide +kernel
theorem dk_106_11 : decode (tb_mb 106) 11 = .ok (.getfield 7, 3) := by decide +kernel
theorem f_106_11 : ∃ b, tb_fr (tb_oc 106) 7 = some (9, 2, b) := ⟨_, rfl⟩
theorem dk_106_14 : decode (tb_mb 106) 14 = .ok (.aload_n 0, 1) := by decide +kernel
theorem dk_106_15 : decode (tb_mb 106) 15 = .ok (.getfield 109, 3) := by decide +kernel
theorem f_106_15 : ∃ b, tb_fr (tb_oc 106) 109 = some (9, 23, b) := ⟨_, rfl⟩
theorem dk_106_18 : decode (tb_mb 106) 18 = .ok (.caload, 1) := by decide +kernel
theorem dk_106_19 : decode (tb_mb 106) 19 = .ok (.bipush (120), 2) := by decide +kernel
theorem dk_106_21 : decode (tb_mb 106) 21 = .ok (.if_icmp .ne (84), 3) := by decide +kernel
theorem dk_106_105 : decode (tb_mb 106) 105 = .ok (.iconst (0), 1) := by decide +kernel
theorem dk_106_106 : decode (tb_mb 106) 106 = .ok (.istore_n 2, 1) := by decide +kernel
theorem dk_106_107 : decode (tb_mb 106) 107 = .ok (.aload_n 0, 1) := by decide +kernel
theorem dk_106_108 : decode (tb_mb 106) 108 = .ok (.iload_n 2, 1) := by decide +kernel
theorem dk_106_109 : decode (tb_mb 106) 109 = .ok (.ifCond .eq (62), 3) := by decide +kernel
theorem dk_106_171 : decode (tb_mb 106) 171 = .ok (.lconst 0, 1) := by decide +kernel
theorem dk_106_172 : decode (tb_mb 106) 172 = .ok (.putfield 124, 3) := by decide +kernel
theorem f_106_172 : ∃ b, tb_fr (tb_oc 106) 124 = some (9, 27, b) ∧ xm_fin tb_cl (tb_ini 106) b 9 27 = true := ⟨_, rfl, rfl⟩
theorem dk_106_175 : decode (tb_mb 106) 175 = .ok (.aload_n 0, 1) := by decide +kernel
theorem dk_106_176 : decode (tb_mb 106) 176 = .ok (.iload_n 2, 1) := by decide +kernel
theorem dk_106_177 : decode (tb_mb 106) 177 = .ok (.ifCond .eq (18), 3) := by decide +kernel
theorem dk_106_195 : decode (tb_mb 106) 195 = .ok (.aload_n 0, 1) := by decide +kernel
theorem dk_106_196 : decode (tb_mb 106) 196 = .ok (.aload_n 0, 1) := by decide +kernel
theorem dk_106_197 : decode (tb_mb 106) 197 = .ok (.getfield 109, 3) := by decide +kernel
theorem f_106_197 : ∃ b, tb_fr (tb_oc 106) 109 = some (9, 23, b) := ⟨_, rfl⟩
theorem dk_106_200 : decode (tb_mb 106) 200 = .ok (.aload_n 0, 1) := by decide +kernel
theorem dk_106_201 : decode (tb_mb 106) 201 = .ok (.getfield 102, 3) := by decide +kernel
theorem f_106_201 : ∃ b, tb_fr (tb_oc 106) 102 = some (9, 21, b) := ⟨_, rfl⟩
theorem dk_106_204 : decode (tb_mb 106) 204 = .ok (.ldc2_w 136, 3) := by decide +kernel
theorem kl_106_204 : tb_kl (tb_oc 106) 136 = some (25456) := by decide +kernel
theorem dk_106_207 : decode (tb_mb 106) 207 = .ok (.invokevirtual 138, 3) := by decide +kernel
theorem ck_106_207 : ∃ b, tb_cr (tb_oc 106) 138 = some (0, 107, b, 3) := ⟨_, rfl⟩
theorem dk_106_210 : decode (tb_mb 106) 210 = .ok (.ifCond .eq (7), 3) := by decide +kernel
theorem dk_106_217 : decode (tb_mb 106) 217 = .ok (.aload_n 0, 1) := by decide +kernel
theorem dk_106_218 : decode (tb_mb 106) 218 = .ok (.aload_n 0, 1) := by decide +kernel
theorem dk_106_219 : decode (tb_mb 106) 219 = .ok (.getfield 109, 3) := by decide +kernel
theorem f_106_219 : ∃ b, tb_fr (tb_oc 106) 109 = some (9, 23, b) := ⟨_, rfl⟩
theorem dk_106_222 : decode (tb_mb 106) 222 = .ok (.aload_n 0, 1) := by decide +kernel
theorem dk_106_223 : decode (tb_mb 106) 223 = .ok (.getfield 102, 3) := by decide +kernel
theorem f_106_223 : ∃ b, tb_fr (tb_oc 106) 102 = some (9, 21, b) := ⟨_, rfl⟩
theorem dk_106_226 : decode (tb_mb 106) 226 = .ok (.ldc2_w 142, 3) := by decide +kernel
theorem kl_106_226 : tb_kl (tb_oc 106) 142 = some (6580592) := by decide +kernel
theorem dk_106_229 : decode (tb_mb 106) 229 = .ok (.invokevirtual 138, 3) := by decide +kernel
theorem ck_106_229 : ∃ b, tb_cr (tb_oc 106) 138 = some (0, 107, b, 3) := ⟨_, rfl⟩
theorem dk_106_232 : decode (tb_mb 106) 232 = .ok (.ifCond .eq (7), 3) := by decide +kernel
theorem dk_106_239 : decode (tb_mb 106) 239 = .ok (.aload_n 0, 1) := by decide +kernel
theorem dk_106_240 : decode (tb_mb 106) 240 = .ok (.aload_n 0, 1) := by decide +kernel
theorem dk_106_241 : decode (tb_mb 106) 241 = .ok (.getfield 109, 3) := by decide +kernel
theorem f_106_241 : ∃ b, tb_fr (tb_oc 106) 109 = some (9, 23, b) := ⟨_, rfl⟩
theorem dk_106_244 : decode (tb_mb 106) 244 = .ok (.aload_n 0, 1) := by decide +kernel
theorem dk_106_245 : decode (tb_mb 106) 245 = .ok (.getfield 102, 3) := by decide +kernel
theorem f_106_245 : ∃ b, tb_fr (tb_oc 106) 102 = some (9, 21, b) := ⟨_, rfl⟩
theorem dk_106_248 : decode (tb_mb 106) 248 = .ok (.ldc2_w 144, 3) := by decide +kernel
theorem kl_106_248 : tb_kl (tb_oc 106) 144 = some (500069396323) := by decide +kernel
theorem dk_106_251 : decode (tb_mb 106) 251 = .ok (.invokevirtual 138, 3) := by decide +kernel
theorem ck_106_251 : ∃ b, tb_cr (tb_oc 106) 138 = some (0, 107, b, 3) := ⟨_, rfl⟩
theorem dk_106_254 : decode (tb_mb 106) 254 = .ok (.ifCond .eq (7), 3) := by decide +kernel
theorem dk_106_261 : decode (tb_mb 106) 261 = .ok (.aload_n 0, 1) := by decide +kernel
theorem dk_106_262 : decode (tb_mb 106) 262 = .ok (.aload_n 0, 1) := by decide +kernel
theorem dk_106_263 : decode (tb_mb 106) 263 = .ok (.getfield 109, 3) := by decide +kernel
theorem f_106_263 : ∃ b, tb_fr (tb_oc 106) 109 = some (9, 23, b) := ⟨_, rfl⟩
theorem dk_106_266 : decode (tb_mb 106) 266 = .ok (.aload_n 0, 1) := by decide +kernel
theorem dk_106_267 : decode (tb_mb 106) 267 = .ok (.getfield 102, 3) := by decide +kernel
theorem f_106_267 : ∃ b, tb_fr (tb_oc 106) 102 = some (9, 21, b) := ⟨_, rfl⟩
theorem dk_106_270 : decode (tb_mb 106) 270 = .ok (.ldc2_w 146, 3) := by decide +kernel
theorem kl_106_270 : tb_kl (tb_oc 106) 146 = some (1702132066) := by decide +kernel
theorem dk_106_273 : decode (tb_mb 106) 273 = .ok (.invokevirtual 138, 3) := by decide +kernel
theorem ck_106_273 : ∃ b, tb_cr (tb_oc 106) 138 = some (0, 107, b, 3) := ⟨_, rfl⟩
theorem dk_106_276 : decode (tb_mb 106) 276 = .ok (.ifCond .eq (8), 3) := by decide +kernel
theorem dk_106_284 : decode (tb_mb 106) 284 = .ok (.aload_n 0, 1) := by decide +kernel
theorem dk_106_285 : decode (tb_mb 106) 285 = .ok (.aload_n 0, 1) := by decide +kernel
theorem dk_106_286 : decode (tb_mb 106) 286 = .ok (.getfield 109, 3) := by decide +kernel
theorem f_106_286 : ∃ b, tb_fr (tb_oc 106) 109 = some (9, 23, b) := ⟨_, rfl⟩
theorem dk_106_289 : decode (tb_mb 106) 289 = .ok (.aload_n 0, 1) := by decide +kernel
theorem dk_106_290 : decode (tb_mb 106) 290 = .ok (.getfield 102, 3) := by decide +kernel
theorem f_106_290 : ∃ b, tb_fr (tb_oc 106) 102 = some (9, 21, b) := ⟨_, rfl⟩
theorem dk_106_293 : decode (tb_mb 106) 293 = .ok (.ldc2_w 148, 3) := by decide +kernel
theorem kl_106_293 : tb_kl (tb_oc 106) 148 = some (1718378856) := by decide +kernel
theorem dk_106_296 : decode (tb_mb 106) 296 = .ok (.invokevirtual 138, 3) := by decide +kernel
theorem ck_106_296 : ∃ b, tb_cr (tb_oc 106) 138 = some (0, 107, b, 3) := ⟨_, rfl⟩
theorem dk_106_299 : decode (tb_mb 106) 299 = .ok (.ifCond .eq (8), 3) := by decide +kernel
theorem dk_106_307 : decode (tb_mb 106) 307 = .ok (.aload_n 0, 1) := by decide +kernel
theorem dk_106_308 : decode (tb_mb 106) 308 = .ok (.aload_n 0, 1) := by decide +kernel
theorem dk_106_309 : decode (tb_mb 106) 309 = .ok (.getfield 109, 3) := by decide +kernel
theorem f_106_309 : ∃ b, tb_fr (tb_oc 106) 109 = some (9, 23, b) := ⟨_, rfl⟩
theorem dk_106_312 : decode (tb_mb 106) 312 = .ok (.aload_n 0, 1) := by decide +kernel
theorem dk_106_313 : decode (tb_mb 106) 313 = .ok (.getfield 102, 3) := by decide +kernel
theorem f_106_313 : ∃ b, tb_fr (tb_oc 106) 102 = some (9, 21, b) := ⟨_, rfl⟩
theorem dk_106_316 : decode (tb_mb 106) 316 = .ok (.ldc2_w 150, 3) := by decide +kernel
theorem kl_106_316 : tb_kl (tb_oc 106) 150 = some (6581359) := by decide +kernel
theorem dk_106_319 : decode (tb_mb 106) 319 = .ok (.invokevirtual 138, 3) := by decide +kernel
theorem ck_106_319 : ∃ b, tb_cr (tb_oc 106) 138 = some (0, 107, b, 3) := ⟨_, rfl⟩
theorem dk_106_322 : decode (tb_mb 106) 322 = .ok (.ifCond .eq (8), 3) := by decide +kernel
theorem dk_106_330 : decode (tb_mb 106) 330 = .ok (.aload_n 0, 1) := by decide +kernel
theorem dk_106_331 : decode (tb_mb 106) 331 = .ok (.aload_n 0, 1) := by decide +kernel
theorem dk_106_332 : decode (tb_mb 106) 332 = .ok (.getfield 109, 3) := by decide +kernel
theorem f_106_332 : ∃ b, tb_fr (tb_oc 106) 109 = some (9, 23, b) := ⟨_, rfl⟩
theorem dk_106_335 : decode (tb_mb 106) 335 = .ok (.aload_n 0, 1) := by decide +kernel
theorem dk_106_336 : decode (tb_mb 106) 336 = .ok (.getfield 102, 3) := by decide +kernel
theorem f_106_336 : ∃ b, tb_fr (tb_oc 106) 102 = some (9, 21, b) := ⟨_, rfl⟩
theorem dk_106_339 : decode (tb_mb 106) 339 = .ok (.ldc2_w 152, 3) := by decide +kernel
theorem kl_106_339 : tb_kl (tb_oc 106) 152 = some (28258992578979939) := by decide +kernel
theorem dk_106_342 : decode (tb_mb 106) 342 = .ok (.invokevirtual 138, 3) := by decide +kernel
theorem ck_106_342 : ∃ b, tb_cr (tb_oc 106) 138 = some (0, 107, b, 3) := ⟨_, rfl⟩
theorem dk_106_345 : decode (tb_mb 106) 345 = .ok (.ifCond .eq (8), 3) := by decide +kernel
theorem dk_106_353 : decode (tb_mb 106) 353 = .ok (.iconst (0), 1) := by decide +kernel
theorem dk_106_354 : decode (tb_mb 106) 354 = .ok (.putfield 121, 3) := by decide +kernel
theorem f_106_354 : ∃ b, tb_fr (tb_oc 106) 121 = some (9, 22, b) ∧ xm_fin tb_cl (tb_ini 106) b 9 22 = true := ⟨_, rfl, rfl⟩
theorem dk_106_357 : decode (tb_mb 106) 357 = .ok (.return_, 1) := by decide +kernel
theorem dk_106_348 : decode (tb_mb 106) 348 = .ok (.bipush (9), 2) := by decide +kernel
theorem dk_106_350 : decode (tb_mb 106) 350 = .ok (.goto (4), 3) := by decide +kernel
theorem dk_106_325 : decode (tb_mb 106) 325 = .ok (.bipush (8), 2) := by decide +kernel
theorem dk_106_327 : decode (tb_mb 106) 327 = .ok (.goto (27), 3) := by decide +kernel
theorem dk_106_302 : decode (tb_mb 106) 302 = .ok (.bipush (7), 2) := by decide +kernel
theorem dk_106_304 : decode (tb_mb 106) 304 = .ok (.goto (50), 3) := by decide +kernel
theorem dk_106_279 : decode (tb_mb 106) 279 = .ok (.bipush (6), 2) := by decide +kernel
theorem dk_106_281 : decode (tb_mb 106) 281 = .ok (.goto (73), 3) := by decide +kernel
theorem dk_106_257 : decode (tb_mb 106) 257 = .ok (.iconst (5), 1) := by decide +kernel
theorem dk_106_258 : decode (tb_mb 106) 258 = .ok (.goto (96), 3) := by decide +kernel
theorem dk_106_235 : decode (tb_mb 106) 235 = .ok (.iconst (4), 1) := by decide +kernel
theorem dk_106_236 : decode (tb_mb 106) 236 = .ok (.goto (118), 3) := by decide +kernel
theorem dk_106_213 : decode (tb_mb 106) 213 = .ok (.iconst (3), 1) := by decide +kernel
theorem dk_106_214 : decode (tb_mb 106) 214 = .ok (.goto (140), 3) := by decide +kernel
theorem dk_106_180 : decode (tb_mb 106) 180 = .ok (.aload_n 0, 1) := by decide +kernel
theorem dk_106_181 : decode (tb_mb 106) 181 = .ok (.getfield 124, 3) := by decide +kernel
theorem f_106_181 : ∃ b, tb_fr (tb_oc 106) 124 = some (9, 27, b) := ⟨_, rfl⟩
theorem dk_106_184 : decode (tb_mb 106) 184 = .ok (.ldc2_w 134, 3) := by decide +kernel
theorem kl_106_184 : tb_kl (tb_oc 106) 134 = some (32) := by decide +kernel
theorem dk_106_187 : decode (tb_mb 106) 187 = .ok (.lcmp, 1) := by decide +kernel
theorem dk_106_188 : decode (tb_mb 106) 188 = .ok (.ifCond .ge (7), 3) := by decide +kernel
theorem dk_106_191 : decode (tb_mb 106) 191 = .ok (.iconst (2), 1) := by decide +kernel
theorem dk_106_192 : decode (tb_mb 106) 192 = .ok (.goto (162), 3) := by decide +kernel
theorem dk_106_112 : decode (tb_mb 106) 112 = .ok (.iload_n 1, 1) := by decide +kernel
theorem dk_106_113 : decode (tb_mb 106) 113 = .ok (.iconst (2), 1) := by decide +kernel
theorem dk_106_114 : decode (tb_mb 106) 114 = .ok (.if_icmp .ne (21), 3) := by decide +kernel
theorem dk_106_135 : decode (tb_mb 106) 135 = .ok (.bipush (10), 2) := by decide +kernel
theorem dk_106_137 : decode (tb_mb 106) 137 = .ok (.aload_n 0, 1) := by decide +kernel
theorem dk_106_138 : decode (tb_mb 106) 138 = .ok (.getfield 7, 3) := by decide +kernel
theorem f_106_138 : ∃ b, tb_fr (tb_oc 106) 7 = some (9, 2, b) := ⟨_, rfl⟩
theorem dk_106_141 : decode (tb_mb 106) 141 = .ok (.aload_n 0, 1) := by decide +kernel
theorem dk_106_142 : decode (tb_mb 106) 142 = .ok (.getfield 109, 3) := by decide +kernel
theorem f_106_142 : ∃ b, tb_fr (tb_oc 106) 109 = some (9, 23, b) := ⟨_, rfl⟩
theorem dk_106_145 : decode (tb_mb 106) 145 = .ok (.iconst (1), 1) := by decide +kernel
theorem dk_106_146 : decode (tb_mb 106) 146 = .ok (.iadd, 1) := by decide +kernel
theorem dk_106_147 : decode (tb_mb 106) 147 = .ok (.caload, 1) := by decide +kernel
theorem dk_106_148 : decode (tb_mb 106) 148 = .ok (.bipush (48), 2) := by decide +kernel
theorem dk_106_150 : decode (tb_mb 106) 150 = .ok (.isub, 1) := by decide +kernel
theorem dk_106_151 : decode (tb_mb 106) 151 = .ok (.imul, 1) := by decide +kernel
theorem dk_106_152 : decode (tb_mb 106) 152 = .ok (.aload_n 0, 1) := by decide +kernel
theorem dk_106_153 : decode (tb_mb 106) 153 = .ok (.getfield 7, 3) := by decide +kernel
theorem f_106_153 : ∃ b, tb_fr (tb_oc 106) 7 = some (9, 2, b) := ⟨_, rfl⟩
theorem dk_106_156 : decode (tb_mb 106) 156 = .ok (.aload_n 0, 1) := by decide +kernel
theorem dk_106_157 : decode (tb_mb 106) 157 = .ok (.getfield 109, 3) := by decide +kernel
theorem f_106_157 : ∃ b, tb_fr (tb_oc 106) 109 = some (9, 23, b) := ⟨_, rfl⟩
theorem dk_106_160 : decode (tb_mb 106) 160 = .ok (.iconst (2), 1) := by decide +kernel
theorem dk_106_161 : decode (tb_mb 106) 161 = .ok (.iadd, 1) := by decide +kernel
theorem dk_106_162 : decode (tb_mb 106) 162 = .ok (.caload, 1) := by decide +kernel
theorem dk_106_163 : decode (tb_mb 106) 163 = .ok (.iadd, 1) := by decide +kernel
theorem dk_106_164 : decode (tb_mb 106) 164 = .ok (.bipush (48), 2) := by decide +kernel
theorem dk_106_166 : decode (tb_mb 106) 166 = .ok (.isub, 1) := by decide +kernel
theorem dk_106_167 : decode (tb_mb 106) 167 = .ok (.i2l, 1) := by decide +kernel
theorem dk_106_168 : decode (tb_mb 106) 168 = .ok (.goto (4), 3) := by decide +kernel
theorem dk_106_117 : decode (tb_mb 106) 117 = .ok (.aload_n 0, 1) := by decide +kernel
theorem dk_106_118 : decode (tb_mb 106) 118 = .ok (.getfield 7, 3) := by decide +kernel
theorem f_106_118 : ∃ b, tb_fr (tb_oc 106) 7 = some (9, 2, b) := ⟨_, rfl⟩
theorem dk_106_121 : decode (tb_mb 106) 121 = .ok (.aload_n 0, 1) := by decide +kernel
theorem dk_106_122 : decode (tb_mb 106) 122 = .ok (.getfield 109, 3) := by decide +kernel
theorem f_106_122 : ∃ b, tb_fr (tb_oc 106) 109 = some (9, 23, b) := ⟨_, rfl⟩
theorem dk_106_125 : decode (tb_mb 106) 125 = .ok (.iconst (1), 1) := by decide +kernel
theorem dk_106_126 : decode (tb_mb 106) 126 = .ok (.iadd, 1) := by decide +kernel
theorem dk_106_127 : decode (tb_mb 106) 127 = .ok (.caload, 1) := by decide +kernel
theorem dk_106_128 : decode (tb_mb 106) 128 = .ok (.bipush (48), 2) := by decide +kernel
theorem dk_106_130 : decode (tb_mb 106) 130 = .ok (.isub, 1) := by decide +kernel
theorem dk_106_131 : decode (tb_mb 106) 131 = .ok (.i2l, 1) := by decide +kernel
theorem dk_106_132 : decode (tb_mb 106) 132 = .ok (.goto (40), 3) := by decide +kernel
theorem dk_106_24 : decode (tb_mb 106) 24 = .ok (.iload_n 1, 1) := by decide +kernel
theorem dk_106_25 : decode (tb_mb 106) 25 = .ok (.iconst (2), 1) := by decide +kernel
theorem dk_106_26 : decode (tb_mb 106) 26 = .ok (.if_icmp .ne (20), 3) := by decide +kernel
theorem dk_106_46 : decode (tb_mb 106) 46 = .ok (.iload_n 1, 1) := by decide +kernel
theorem dk_106_47 : decode (tb_mb 106) 47 = .ok (.iconst (3), 1) := by decide +kernel
theorem dk_106_48 : decode (tb_mb 106) 48 = .ok (.if_icmp .ne (57), 3) := by decide +kernel
theorem dk_106_51 : decode (tb_mb 106) 51 = .ok (.aload_n 0, 1) := by decide +kernel
theorem dk_106_52 : decode (tb_mb 106) 52 = .ok (.getfield 7, 3) := by decide +kernel
theorem f_106_52 : ∃ b, tb_fr (tb_oc 106) 7 = some (9, 2, b) := ⟨_, rfl⟩
theorem dk_106_55 : decode (tb_mb 106) 55 = .ok (.aload_n 0, 1) := by decide +kernel
theorem dk_106_56 : decode (tb_mb 106) 56 = .ok (.getfield 109, 3) := by decide +kernel
theorem f_106_56 : ∃ b, tb_fr (tb_oc 106) 109 = some (9, 23, b) := ⟨_, rfl⟩
theorem dk_106_59 : decode (tb_mb 106) 59 = .ok (.iconst (1), 1) := by decide +kernel
theorem dk_106_60 : decode (tb_mb 106) 60 = .ok (.iadd, 1) := by decide +kernel
theorem dk_106_61 : decode (tb_mb 106) 61 = .ok (.caload, 1) := by decide +kernel
theorem dk_106_62 : decode (tb_mb 106) 62 = .ok (.invokestatic 98, 3) := by decide +kernel
theorem ck_106_62 : ∃ b, tb_cr (tb_oc 106) 98 = some (1, 104, b, 1) := ⟨_, rfl⟩
theorem dk_106_65 : decode (tb_mb 106) 65 = .ok (.ifCond .eq (40), 3) := by decide +kernel
theorem dk_106_68 : decode (tb_mb 106) 68 = .ok (.aload_n 0, 1) := by decide +kernel
theorem dk_106_69 : decode (tb_mb 106) 69 = .ok (.getfield 7, 3) := by decide +kernel
theorem f_106_69 : ∃ b, tb_fr (tb_oc 106) 7 = some (9, 2, b) := ⟨_, rfl⟩
theorem dk_106_72 : decode (tb_mb 106) 72 = .ok (.aload_n 0, 1) := by decide +kernel
theorem dk_106_73 : decode (tb_mb 106) 73 = .ok (.getfield 109, 3) := by decide +kernel
theorem f_106_73 : ∃ b, tb_fr (tb_oc 106) 109 = some (9, 23, b) := ⟨_, rfl⟩
theorem dk_106_76 : decode (tb_mb 106) 76 = .ok (.iconst (1), 1) := by decide +kernel
theorem dk_106_77 : decode (tb_mb 106) 77 = .ok (.iadd, 1) := by decide +kernel
theorem dk_106_78 : decode (tb_mb 106) 78 = .ok (.caload, 1) := by decide +kernel
theorem dk_106_79 : decode (tb_mb 106) 79 = .ok (.bipush (48), 2) := by decide +kernel
theorem dk_106_81 : decode (tb_mb 106) 81 = .ok (.if_icmp .le (24), 3) := by decide +kernel
theorem dk_106_84 : decode (tb_mb 106) 84 = .ok (.aload_n 0, 1) := by decide +kernel
theorem dk_106_85 : decode (tb_mb 106) 85 = .ok (.getfield 7, 3) := by decide +kernel
theorem f_106_85 : ∃ b, tb_fr (tb_oc 106) 7 = some (9, 2, b) := ⟨_, rfl⟩
theorem dk_106_88 : decode (tb_mb 106) 88 = .ok (.aload_n 0, 1) := by decide +kernel
theorem dk_106_89 : decode (tb_mb 106) 89 = .ok (.getfield 109, 3) := by decide +kernel
theorem f_106_89 : ∃ b, tb_fr (tb_oc 106) 109 = some (9, 23, b) := ⟨_, rfl⟩
theorem dk_106_92 : decode (tb_mb 106) 92 = .ok (.iconst (2), 1) := by decide +kernel
theorem dk_106_93 : decode (tb_mb 106) 93 = .ok (.iadd, 1) := by decide +kernel
theorem dk_106_94 : decode (tb_mb 106) 94 = .ok (.caload, 1) := by decide +kernel
theorem dk_106_95 : decode (tb_mb 106) 95 = .ok (.invokestatic 98, 3) := by decide +kernel
theorem ck_106_95 : ∃ b, tb_cr (tb_oc 106) 98 = some (1, 104, b, 1) := ⟨_, rfl⟩
theorem dk_106_98 : decode (tb_mb 106) 98 = .ok (.ifCond .eq (7), 3) := by decide +kernel
theorem dk_106_101 : decode (tb_mb 106) 101 = .ok (.iconst (1), 1) := by decide +kernel
theorem dk_106_102 : decode (tb_mb 106) 102 = .ok (.goto (4), 3) := by decide +kernel
theorem dk_106_29 : decode (tb_mb 106) 29 = .ok (.aload_n 0, 1) := by decide +kernel
theorem dk_106_30 : decode (tb_mb 106) 30 = .ok (.getfield 7, 3) := by decide +kernel
theorem f_106_30 : ∃ b, tb_fr (tb_oc 106) 7 = some (9, 2, b) := ⟨_, rfl⟩
theorem dk_106_33 : decode (tb_mb 106) 33 = .ok (.aload_n 0, 1) := by decide +kernel
theorem dk_106_34 : decode (tb_mb 106) 34 = .ok (.getfield 109, 3) := by decide +kernel
theorem f_106_34 : ∃ b, tb_fr (tb_oc 106) 109 = some (9, 23, b) := ⟨_, rfl⟩
theorem dk_106_37 : decode (tb_mb 106) 37 = .ok (.iconst (1), 1) := by decide +kernel
theorem dk_106_38 : decode (tb_mb 106) 38 = .ok (.iadd, 1) := by decide +kernel
theorem dk_106_39 : decode (tb_mb 106) 39 = .ok (.caload, 1) := by decide +kernel
theorem dk_106_40 : decode (tb_mb 106) 40 = .ok (.invokestatic 98, 3) := by decide +kernel
theorem ck_106_40 : ∃ b, tb_cr (tb_oc 106) 98 = some (1, 104, b, 1) := ⟨_, rfl⟩
theorem dk_106_43 : decode (tb_mb 106) 43 = .ok (.ifCond .ne (58), 3) := by decide +kernel
def b_106_354 (s0 : Int32) (I : dI) (J : dJ) : Option (dI × dJ) := lt_ (sI I 92 22 s0) (fun I27 => some (I27, J))
theorem p_106_354 {Q : Nat → Option Nat} {D : Nat} (hD : 2 ≤ D) (s0 : Int32) (I : dI) (J : dJ) (R : (dI × dJ)) (h : b_106_354 s0 I J = some R) : Rn Q D 106 354 [] [.int s0, .ref 92] I J (none) R.1 R.2 := by
  replace h : (lt_ (sI I 92 22 s0) (fun I27 => some (I27, J))) = some R := h
  obtain ⟨I27, eI27, h⟩ := letS h
  refine Rn.pI dk_106_354 f_106_354.choose_spec.1 sk_92 rfl f_106_354.choose_spec.2 rfl rfl ?_
  rw [← eI27]
  cases h
  exact Rn.rv dk_106_357 R_106
def b_106_195 (I : dI) (J : dJ) : Option (dI × dJ) := (m_107 (I 92 23) (I 92 21) 25456 I J).bind (fun r6 => if r6 = 0 then ((m_107 (I 92 23) (I 92 21) 6580592 I J).bind (fun r9 => if r9 = 0 then ((m_107 (I 92 23) (I 92 21) 500069396323 I J).bind (fun r12 => if r12 = 0 then ((m_107 (I 92 23) (I 92 21) 1702132066 I J).bind (fun r15 => if r15 = 0 then ((m_107 (I 92 23) (I 92 21) 1718378856 I J).bind (fun r18 => if r18 = 0 then ((m_107 (I 92 23) (I 92 21) 6581359 I J).bind (fun r21 => if r21 = 0 then ((m_107 (I 92 23) (I 92 21) 28258992578979939 I J).bind (fun r24 => if r24 = 0 then (b_106_354 0 I J) else (b_106_354 9 I J))) else (b_106_354 8 I J))) else (b_106_354 7 I J))) else (b_106_354 6 I J))) else (b_106_354 5 I J))) else (b_106_354 4 I J))) else (b_106_354 3 I J))
theorem p_106_195 {Q : Nat → Option Nat} {D : Nat} (hD : 2 ≤ D) (I : dI) (J : dJ) (R : (dI × dJ)) (h : b_106_195 I J = some R) : Rn Q D 106 195 [(0, .ref 92)] [.ref 92] I J (none) R.1 R.2 := by
  replace h : ((m_107 (I 92 23) (I 92 21) 25456 I J).bind (fun r6 => if r6 = 0 then ((m_107 (I 92 23) (I 92 21) 6580592 I J).bind (fun r9 => if r9 = 0 then ((m_107 (I 92 23) (I 92 21) 500069396323 I J).bind (fun r12 => if r12 = 0 then ((m_107 (I 92 23) (I 92 21) 1702132066 I J).bind (fun r15 => if r15 = 0 then ((m_107 (I 92 23) (I 92 21) 1718378856 I J).bind (fun r18 => if r18 = 0 then ((m_107 (I 92 23) (I 92 21) 6581359 I J).bind (fun r21 => if r21 = 0 then ((m_107 (I 92 23) (I 92 21) 28258992578979939 I J).bind (fun r24 => if r24 = 0 then (b_106_354 0 I J) else (b_106_354 9 I J))) else (b_106_354 8 I J))) else (b_106_354 7 I J))) else (b_106_354 6 I J))) else (b_106_354 5 I J))) else (b_106_354 4 I J))) else (b_106_354 3 I J))) = some R := h
  refine Rn.pu (st' := [.ref 92, .ref 92]) dk_106_195 L_106 rfl ?_
  refine Rn.pu (st' := [.ref 92, .ref 92, .ref 92]) dk_106_196 L_106 rfl ?_
  refine Rn.gI dk_106_197 f_106_197.choose_spec sk_92 rfl ?_
  refine Rn.pu (st' := [.ref 92, .int (I 92 23), .ref 92, .ref 92]) dk_106_200 L_106 rfl ?_
  refine Rn.gI dk_106_201 f_106_201.choose_spec sk_92 rfl ?_
  refine Rn.ldl dk_106_204 kl_106_204 ?_
  obtain ⟨r6, e7, h⟩ := bindS h
  refine Rn.cvI (p := 92) (As := [.int (I 92 23), .int (I 92 21), .long 25456]) (rest := [.ref 92]) dk_106_207 ck_106_207.choose_spec rfl sk_92 rfl (x_107 (Nat.le_trans (Nat.le_of_ble_eq_true rfl) hD) e7) ?_
  by_cases c8 : r6 = 0
  · rw [if_pos c8] at h
    refine Rn.i1t (t := 217) dk_106_210 rfl (decide_eq_true c8) ?_
    refine Rn.pu (st' := [.ref 92, .ref 92]) dk_106_217 L_106 rfl ?_
    refine Rn.pu (st' := [.ref 92, .ref 92, .ref 92]) dk_106_218 L_106 rfl ?_
    refine Rn.gI dk_106_219 f_106_219.choose_spec sk_92 rfl ?_
    refine Rn.pu (st' := [.ref 92, .int (I 92 23), .ref 92, .ref 92]) dk_106_222 L_106 rfl ?_
    refine Rn.gI dk_106_223 f_106_223.choose_spec sk_92 rfl ?_
    refine Rn.ldl dk_106_226 kl_106_226 ?_
    obtain ⟨r9, e10, h⟩ := bindS h
    refine Rn.cvI (p := 92) (As := [.int (I 92 23), .int (I 92 21), .long 6580592]) (rest := [.ref 92]) dk_106_229 ck_106_229.choose_spec rfl sk_92 rfl (x_107 (Nat.le_trans (Nat.le_of_ble_eq_true rfl) hD) e10) ?_
    by_cases c11 : r9 = 0
    · rw [if_pos c11] at h
      refine Rn.i1t (t := 239) dk_106_232 rfl (decide_eq_true c11) ?_
      refine Rn.pu (st' := [.ref 92, .ref 92]) dk_106_239 L_106 rfl ?_
      refine Rn.pu (st' := [.ref 92, .ref 92, .ref 92]) dk_106_240 L_106 rfl ?_
      refine Rn.gI dk_106_241 f_106_241.choose_spec sk_92 rfl ?_
      refine Rn.pu (st' := [.ref 92, .int (I 92 23), .ref 92, .ref 92]) dk_106_244 L_106 rfl ?_
      refine Rn.gI dk_106_245 f_106_245.choose_spec sk_92 rfl ?_
      refine Rn.ldl dk_106_248 kl_106_248 ?_
      obtain ⟨r12, e13, h⟩ := bindS h
      refine Rn.cvI (p := 92) (As := [.int (I 92 23), .int (I 92 21), .long 500069396323]) (rest := [.ref 92]) dk_106_251 ck_106_251.choose_spec rfl sk_92 rfl (x_107 (Nat.le_trans (Nat.le_of_ble_eq_true rfl) hD) e13) ?_
      by_cases c14 : r12 = 0
      · rw [if_pos c14] at h
        refine Rn.i1t (t := 261) dk_106_254 rfl (decide_eq_true c14) ?_
        refine Rn.pu (st' := [.ref 92, .ref 92]) dk_106_261 L_106 rfl ?_
        refine Rn.pu (st' := [.ref 92, .ref 92, .ref 92]) dk_106_262 L_106 rfl ?_
        refine Rn.gI dk_106_263 f_106_263.choose_spec sk_92 rfl ?_
        refine Rn.pu (st' := [.ref 92, .int (I 92 23), .ref 92, .ref 92]) dk_106_266 L_106 rfl ?_
        refine Rn.gI dk_106_267 f_106_267.choose_spec sk_92 rfl ?_
        refine Rn.ldl dk_106_270 kl_106_270 ?_
        obtain ⟨r15, e16, h⟩ := bindS h
        refine Rn.cvI (p := 92) (As := [.int (I 92 23), .int (I 92 21), .long 1702132066]) (rest := [.ref 92]) dk_106_273 ck_106_273.choose_spec rfl sk_92 rfl (x_107 (Nat.le_trans (Nat.le_of_ble_eq_true rfl) hD) e16) ?_
        by_cases c17 : r15 = 0
        · rw [if_pos c17] at h
          refine Rn.i1t (t := 284) dk_106_276 rfl (decide_eq_true c17) ?_
          refine Rn.pu (st' := [.ref 92, .ref 92]) dk_106_284 L_106 rfl ?_
          refine Rn.pu (st' := [.ref 92, .ref 92, .ref 92]) dk_106_285 L_106 rfl ?_
          refine Rn.gI dk_106_286 f_106_286.choose_spec sk_92 rfl ?_
          refine Rn.pu (st' := [.ref 92, .int (I 92 23), .ref 92, .ref 92]) dk_106_289 L_106 rfl ?_
          refine Rn.gI dk_106_290 f_106_290.choose_spec sk_92 rfl ?_
          refine Rn.ldl dk_106_293 kl_106_293 ?_
          obtain ⟨r18, e19, h⟩ := bindS h
          refine Rn.cvI (p := 92) (As := [.int (I 92 23), .int (I 92 21), .long 1718378856]) (rest := [.ref 92]) dk_106_296 ck_106_296.choose_spec rfl sk_92 rfl (x_107 (Nat.le_trans (Nat.le_of_ble_eq_true rfl) hD) e19) ?_
          by_cases c20 : r18 = 0
          · rw [if_pos c20] at h
            refine Rn.i1t (t := 307) dk_106_299 rfl (decide_eq_true c20) ?_
            refine Rn.pu (st' := [.ref 92, .ref 92]) dk_106_307 L_106 rfl ?_
            refine Rn.pu (st' := [.ref 92, .ref 92, .ref 92]) dk_106_308 L_106 rfl ?_
            refine Rn.gI dk_106_309 f_106_309.choose_spec sk_92 rfl ?_
            refine Rn.pu (st' := [.ref 92, .int (I 92 23), .ref 92, .ref 92]) dk_106_312 L_106 rfl ?_
            refine Rn.gI dk_106_313 f_106_313.choose_spec sk_92 rfl ?_
            refine Rn.ldl dk_106_316 kl_106_316 ?_
            obtain ⟨r21, e22, h⟩ := bindS h
            refine Rn.cvI (p := 92) (As := [.int (I 92 23), .int (I 92 21), .long 6581359]) (rest := [.ref 92]) dk_106_319 ck_106_319.choose_spec rfl sk_92 rfl (x_107 (Nat.le_trans (Nat.le_of_ble_eq_true rfl) hD) e22) ?_
            by_cases c23 : r21 = 0
            · rw [if_pos c23] at h
              refine Rn.i1t (t := 330) dk_106_322 rfl (decide_eq_true c23) ?_
              refine Rn.pu (st' := [.ref 92, .ref 92]) dk_106_330 L_106 rfl ?_
              refine Rn.pu (st' := [.ref 92, .ref 92, .ref 92]) dk_106_331 L_106 rfl ?_
              refine Rn.gI dk_106_332 f_106_332.choose_spec sk_92 rfl ?_
              refine Rn.pu (st' := [.ref 92, .int (I 92 23), .ref 92, .ref 92]) dk_106_335 L_106 rfl ?_
              refine Rn.gI dk_106_336 f_106_336.choose_spec sk_92 rfl ?_
              refine Rn.ldl dk_106_339 kl_106_339 ?_
              obtain ⟨r24, e25, h⟩ := bindS h
              refine Rn.cvI (p := 92) (As := [.int (I 92 23), .int (I 92 21), .long 28258992578979939]) (rest := [.ref 92]) dk_106_342 ck_106_342.choose_spec rfl sk_92 rfl (x_107 (Nat.le_trans (Nat.le_of_ble_eq_true rfl) hD) e25) ?_
              by_cases c26 : r24 = 0
              · rw [if_pos c26] at h
                refine Rn.i1t (t := 353) dk_106_345 rfl (decide_eq_true c26) ?_
                refine Rn.ic dk_106_353 cic_0 ?_
                exact Rn.wk [] rfl (p_106_354 hD _ _ _ _ h)
              · rw [if_neg c26] at h
                refine Rn.i1f (t := 353) dk_106_345 rfl (decide_eq_false c26) ?_
                refine Rn.bp dk_106_348 cbp_9 ?_
                refine Rn.gt (t := 354) dk_106_350 rfl ?_
                exact Rn.wk [] rfl (p_106_354 hD _ _ _ _ h)
            · rw [if_neg c23] at h
              refine Rn.i1f (t := 330) dk_106_322 rfl (decide_eq_false c23) ?_
              refine Rn.bp dk_106_325 cbp_8 ?_
              refine Rn.gt (t := 354) dk_106_327 rfl ?_
              exact Rn.wk [] rfl (p_106_354 hD _ _ _ _ h)
          · rw [if_neg c20] at h
            refine Rn.i1f (t := 307) dk_106_299 rfl (decide_eq_false c20) ?_
            refine Rn.bp dk_106_302 cbp_7 ?_
            refine Rn.gt (t := 354) dk_106_304 rfl ?_
            exact Rn.wk [] rfl (p_106_354 hD _ _ _ _ h)
        · rw [if_neg c17] at h
          refine Rn.i1f (t := 284) dk_106_276 rfl (decide_eq_false c17) ?_
          refine Rn.bp dk_106_279 cbp_6 ?_
          refine Rn.gt (t := 354) dk_106_281 rfl ?_
          exact Rn.wk [] rfl (p_106_354 hD _ _ _ _ h)
      · rw [if_neg c14] at h
        refine Rn.i1f (t := 261) dk_106_254 rfl (decide_eq_false c14) ?_
        refine Rn.ic dk_106_257 cic_5 ?_
        refine Rn.gt (t := 354) dk_106_258 rfl ?_
        exact Rn.wk [] rfl (p_106_354 hD _ _ _ _ h)
    · rw [if_neg c11] at h
      refine Rn.i1f (t := 239) dk_106_232 rfl (decide_eq_false c11) ?_
      refine Rn.ic dk_106_235 cic_4 ?_
      refine Rn.gt (t := 354) dk_106_236 rfl ?_
      exact Rn.wk [] rfl (p_106_354 hD _ _ _ _ h)
  · rw [if_neg c8] at h
    refine Rn.i1f (t := 217) dk_106_210 rfl (decide_eq_false c8) ?_
    refine Rn.ic dk_106_213 cic_3 ?_
    refine Rn.gt (t := 354) dk_106_214 rfl ?_
    exact Rn.wk [] rfl (p_106_354 hD _ _ _ _ h)
def b_106_172 (x2 : Int32) (s0 : Int64) (I : dI) (J : dJ) : Option (dI × dJ) := lt_ (sJ J 92 27 s0) (fun J4 => if x2 = 0 then (b_106_195 I J4) else (if 0 ≤ (lg_cmp (J4 92 27) 32) then (b_106_195 I J4) else (b_106_354 2 I J4)))
theorem p_106_172 {Q : Nat → Option Nat} {D : Nat} (hD : 2 ≤ D) (x2 : Int32) (s0 : Int64) (I : dI) (J : dJ) (R : (dI × dJ)) (h : b_106_172 x2 s0 I J = some R) : Rn Q D 106 172 [(0, .ref 92), (2, .int x2)] [.long s0, .ref 92] I J (none) R.1 R.2 := by
  replace h : (lt_ (sJ J 92 27 s0) (fun J4 => if x2 = 0 then (b_106_195 I J4) else (if 0 ≤ (lg_cmp (J4 92 27) 32) then (b_106_195 I J4) else (b_106_354 2 I J4)))) = some R := h
  obtain ⟨J4, eJ4, h⟩ := letS h
  refine Rn.pJ dk_106_172 f_106_172.choose_spec.1 sk_92 rfl f_106_172.choose_spec.2 rfl rfl ?_
  rw [← eJ4]
  refine Rn.pu (st' := [.ref 92]) dk_106_175 L_106 rfl ?_
  refine Rn.pu (st' := [.int x2, .ref 92]) dk_106_176 L_106 rfl ?_
  by_cases c5 : x2 = 0
  · rw [if_pos c5] at h
    refine Rn.i1t (t := 195) dk_106_177 rfl (decide_eq_true c5) ?_
    exact Rn.wk [0] rfl (p_106_195 hD _ _ _ h)
  · rw [if_neg c5] at h
    refine Rn.i1f (t := 195) dk_106_177 rfl (decide_eq_false c5) ?_
    refine Rn.pu (st' := [.ref 92, .ref 92]) dk_106_180 L_106 rfl ?_
    refine Rn.gJ dk_106_181 f_106_181.choose_spec sk_92 rfl ?_
    refine Rn.ldl dk_106_184 kl_106_184 ?_
    refine Rn.pu (st' := [.int (lg_cmp (J4 92 27) 32), .ref 92]) dk_106_187 L_106 rfl ?_
    by_cases c6 : 0 ≤ (lg_cmp (J4 92 27) 32)
    · rw [if_pos c6] at h
      refine Rn.i1t (t := 195) dk_106_188 rfl (decide_eq_true c6) ?_
      exact Rn.wk [0] rfl (p_106_195 hD _ _ _ h)
    · rw [if_neg c6] at h
      refine Rn.i1f (t := 195) dk_106_188 rfl (decide_eq_false c6) ?_
      refine Rn.ic dk_106_191 cic_2 ?_
      refine Rn.gt (t := 354) dk_106_192 rfl ?_
      exact Rn.wk [] rfl (p_106_354 hD _ _ _ _ h)
def b_106_106 (x1 : Int32) (s0 : Int32) (I : dI) (J : dJ) : Option (dI × dJ) := if s0 = 0 then (b_106_172 s0 0 I J) else (if ¬ x1 = 2 then (if ¬ (((I 92 23) + 1) < 0 ∨ 120 ≤ Int32.toNatClampNeg ((I 92 23) + 1)) then (if ¬ (((I 92 23) + 2) < 0 ∨ 120 ≤ Int32.toNatClampNeg ((I 92 23) + 2)) then (b_106_172 s0 (Int32.toInt64 (((10 * ((I 93 (Int32.toNatClampNeg ((I 92 23) + 1))) - 48)) + (I 93 (Int32.toNatClampNeg ((I 92 23) + 2)))) - 48)) I J) else none) else none) else (if ¬ (((I 92 23) + 1) < 0 ∨ 120 ≤ Int32.toNatClampNeg ((I 92 23) + 1)) then (b_106_172 s0 (Int32.toInt64 ((I 93 (Int32.toNatClampNeg ((I 92 23) + 1))) - 48)) I J) else none))
theorem p_106_106 {Q : Nat → Option Nat} {D : Nat} (hD : 2 ≤ D) (x1 : Int32) (s0 : Int32) (I : dI) (J : dJ) (R : (dI × dJ)) (h : b_106_106 x1 s0 I J = some R) : Rn Q D 106 106 [(0, .ref 92), (1, .int x1)] [.int s0] I J (none) R.1 R.2 := by
  replace h : (if s0 = 0 then (b_106_172 s0 0 I J) else (if ¬ x1 = 2 then (if ¬ (((I 92 23) + 1) < 0 ∨ 120 ≤ Int32.toNatClampNeg ((I 92 23) + 1)) then (if ¬ (((I 92 23) + 2) < 0 ∨ 120 ≤ Int32.toNatClampNeg ((I 92 23) + 2)) then (b_106_172 s0 (Int32.toInt64 (((10 * ((I 93 (Int32.toNatClampNeg ((I 92 23) + 1))) - 48)) + (I 93 (Int32.toNatClampNeg ((I 92 23) + 2)))) - 48)) I J) else none) else none) else (if ¬ (((I 92 23) + 1) < 0 ∨ 120 ≤ Int32.toNatClampNeg ((I 92 23) + 1)) then (b_106_172 s0 (Int32.toInt64 ((I 93 (Int32.toNatClampNeg ((I 92 23) + 1))) - 48)) I J) else none))) = some R := h
  refine Rn.pu (ls' := [(2, .int s0), (0, .ref 92), (1, .int x1)]) (st' := []) dk_106_106 L_106 rfl ?_
  refine Rn.pu (st' := [.ref 92]) dk_106_107 L_106 rfl ?_
  refine Rn.pu (st' := [.int s0, .ref 92]) dk_106_108 L_106 rfl ?_
  by_cases c3 : s0 = 0
  · rw [if_pos c3] at h
    refine Rn.i1t (t := 171) dk_106_109 rfl (decide_eq_true c3) ?_
    refine Rn.lc dk_106_171 clc_0 ?_
    exact Rn.wk [1, 0] rfl (p_106_172 hD _ _ _ _ _ h)
  · rw [if_neg c3] at h
    refine Rn.i1f (t := 171) dk_106_109 rfl (decide_eq_false c3) ?_
    refine Rn.pu (st' := [.int x1, .ref 92]) dk_106_112 L_106 rfl ?_
    refine Rn.ic dk_106_113 cic_2 ?_
    by_cases c4 : ¬ x1 = 2
    · rw [if_pos c4] at h
      refine Rn.i2t (t := 135) dk_106_114 rfl (decide_eq_true c4) ?_
      refine Rn.bp dk_106_135 cbp_10 ?_
      refine Rn.pu (st' := [.ref 92, .int 10, .ref 92]) dk_106_137 L_106 rfl ?_
      refine Rn.gR (r := 93) dk_106_138 f_106_138.choose_spec sk_92 rfl ?_
      refine Rn.pu (st' := [.ref 92, .ref 93, .int 10, .ref 92]) dk_106_141 L_106 rfl ?_
      refine Rn.gI dk_106_142 f_106_142.choose_spec sk_92 rfl ?_
      refine Rn.ic dk_106_145 cic_1 ?_
      refine Rn.pu (st' := [.int ((I 92 23) + 1), .ref 93, .int 10, .ref 92]) dk_106_146 L_106 rfl ?_
      obtain ⟨c5, h⟩ := xm_if h
      refine Rn.cald dk_106_147 sk_93 c5 ?_
      refine Rn.bp dk_106_148 cbp_48 ?_
      refine Rn.pu (st' := [.int ((I 93 (Int32.toNatClampNeg ((I 92 23) + 1))) - 48), .int 10, .ref 92]) dk_106_150 L_106 rfl ?_
      refine Rn.pu (st' := [.int (10 * ((I 93 (Int32.toNatClampNeg ((I 92 23) + 1))) - 48)), .ref 92]) dk_106_151 L_106 rfl ?_
      refine Rn.pu (st' := [.ref 92, .int (10 * ((I 93 (Int32.toNatClampNeg ((I 92 23) + 1))) - 48)), .ref 92]) dk_106_152 L_106 rfl ?_
      refine Rn.gR (r := 93) dk_106_153 f_106_153.choose_spec sk_92 rfl ?_
      refine Rn.pu (st' := [.ref 92, .ref 93, .int (10 * ((I 93 (Int32.toNatClampNeg ((I 92 23) + 1))) - 48)), .ref 92]) dk_106_156 L_106 rfl ?_
      refine Rn.gI dk_106_157 f_106_157.choose_spec sk_92 rfl ?_
      refine Rn.ic dk_106_160 cic_2 ?_
      refine Rn.pu (st' := [.int ((I 92 23) + 2), .ref 93, .int (10 * ((I 93 (Int32.toNatClampNeg ((I 92 23) + 1))) - 48)), .ref 92]) dk_106_161 L_106 rfl ?_
      obtain ⟨c6, h⟩ := xm_if h
      refine Rn.cald dk_106_162 sk_93 c6 ?_
      refine Rn.pu (st' := [.int ((10 * ((I 93 (Int32.toNatClampNeg ((I 92 23) + 1))) - 48)) + (I 93 (Int32.toNatClampNeg ((I 92 23) + 2)))), .ref 92]) dk_106_163 L_106 rfl ?_
      refine Rn.bp dk_106_164 cbp_48 ?_
      refine Rn.pu (st' := [.int (((10 * ((I 93 (Int32.toNatClampNeg ((I 92 23) + 1))) - 48)) + (I 93 (Int32.toNatClampNeg ((I 92 23) + 2)))) - 48), .ref 92]) dk_106_166 L_106 rfl ?_
      refine Rn.pu (st' := [.long (Int32.toInt64 (((10 * ((I 93 (Int32.toNatClampNeg ((I 92 23) + 1))) - 48)) + (I 93 (Int32.toNatClampNeg ((I 92 23) + 2)))) - 48)), .ref 92]) dk_106_167 L_106 rfl ?_
      refine Rn.gt (t := 172) dk_106_168 rfl ?_
      exact Rn.wk [1, 0] rfl (p_106_172 hD _ _ _ _ _ h)
    · rw [if_neg c4] at h
      refine Rn.i2f (t := 135) dk_106_114 rfl (decide_eq_false c4) ?_
      refine Rn.pu (st' := [.ref 92, .ref 92]) dk_106_117 L_106 rfl ?_
      refine Rn.gR (r := 93) dk_106_118 f_106_118.choose_spec sk_92 rfl ?_
      refine Rn.pu (st' := [.ref 92, .ref 93, .ref 92]) dk_106_121 L_106 rfl ?_
      refine Rn.gI dk_106_122 f_106_122.choose_spec sk_92 rfl ?_
      refine Rn.ic dk_106_125 cic_1 ?_
      refine Rn.pu (st' := [.int ((I 92 23) + 1), .ref 93, .ref 92]) dk_106_126 L_106 rfl ?_
      obtain ⟨c7, h⟩ := xm_if h
      refine Rn.cald dk_106_127 sk_93 c7 ?_
      refine Rn.bp dk_106_128 cbp_48 ?_
      refine Rn.pu (st' := [.int ((I 93 (Int32.toNatClampNeg ((I 92 23) + 1))) - 48), .ref 92]) dk_106_130 L_106 rfl ?_
      refine Rn.pu (st' := [.long (Int32.toInt64 ((I 93 (Int32.toNatClampNeg ((I 92 23) + 1))) - 48)), .ref 92]) dk_106_131 L_106 rfl ?_
      refine Rn.gt (t := 172) dk_106_132 rfl ?_
      exact Rn.wk [1, 0] rfl (p_106_172 hD _ _ _ _ _ h)
def b_106_105 (x1 : Int32) (I : dI) (J : dJ) : Option (dI × dJ) := b_106_106 x1 0 I J
theorem p_106_105 {Q : Nat → Option Nat} {D : Nat} (hD : 2 ≤ D) (x1 : Int32) (I : dI) (J : dJ) (R : (dI × dJ)) (h : b_106_105 x1 I J = some R) : Rn Q D 106 105 [(0, .ref 92), (1, .int x1)] [] I J (none) R.1 R.2 := by
  replace h : (b_106_106 x1 0 I J) = some R := h
  refine Rn.ic dk_106_105 cic_0 ?_
  exact Rn.wk [0, 1] rfl (p_106_106 hD _ _ _ _ _ h)
def b_106_101 (x1 : Int32) (I : dI) (J : dJ) : Option (dI × dJ) := b_106_106 x1 1 I J
theorem p_106_101 {Q : Nat → Option Nat} {D : Nat} (hD : 2 ≤ D) (x1 : Int32) (I : dI) (J : dJ) (R : (dI × dJ)) (h : b_106_101 x1 I J = some R) : Rn Q D 106 101 [(0, .ref 92), (1, .int x1)] [] I J (none) R.1 R.2 := by
  replace h : (b_106_106 x1 1 I J) = some R := h
  refine Rn.ic dk_106_101 cic_1 ?_
  refine Rn.gt (t := 106) dk_106_102 rfl ?_
  exact Rn.wk [0, 1] rfl (p_106_106 hD _ _ _ _ _ h)
def b_106_46 (x1 : Int32) (I : dI) (J : dJ) : Option (dI × dJ) := if ¬ x1 = 3 then (b_106_105 x1 I J) else (if ¬ (((I 92 23) + 1) < 0 ∨ 120 ≤ Int32.toNatClampNeg ((I 92 23) + 1)) then ((m_104 (I 93 (Int32.toNatClampNeg ((I 92 23) + 1))) I J).bind (fun r6 => if r6 = 0 then (b_106_105 x1 I J) else (if ¬ (((I 92 23) + 1) < 0 ∨ 120 ≤ Int32.toNatClampNeg ((I 92 23) + 1)) then (if (I 93 (Int32.toNatClampNeg ((I 92 23) + 1))) ≤ 48 then (b_106_105 x1 I J) else (if ¬ (((I 92 23) + 2) < 0 ∨ 120 ≤ Int32.toNatClampNeg ((I 92 23) + 2)) then ((m_104 (I 93 (Int32.toNatClampNeg ((I 92 23) + 2))) I J).bind (fun r12 => if r12 = 0 then (b_106_105 x1 I J) else (b_106_101 x1 I J))) else none)) else none))) else none)
theorem p_106_46 {Q : Nat → Option Nat} {D : Nat} (hD : 2 ≤ D) (x1 : Int32) (I : dI) (J : dJ) (R : (dI × dJ)) (h : b_106_46 x1 I J = some R) : Rn Q D 106 46 [(0, .ref 92), (1, .int x1)] [] I J (none) R.1 R.2 := by
  replace h : (if ¬ x1 = 3 then (b_106_105 x1 I J) else (if ¬ (((I 92 23) + 1) < 0 ∨ 120 ≤ Int32.toNatClampNeg ((I 92 23) + 1)) then ((m_104 (I 93 (Int32.toNatClampNeg ((I 92 23) + 1))) I J).bind (fun r6 => if r6 = 0 then (b_106_105 x1 I J) else (if ¬ (((I 92 23) + 1) < 0 ∨ 120 ≤ Int32.toNatClampNeg ((I 92 23) + 1)) then (if (I 93 (Int32.toNatClampNeg ((I 92 23) + 1))) ≤ 48 then (b_106_105 x1 I J) else (if ¬ (((I 92 23) + 2) < 0 ∨ 120 ≤ Int32.toNatClampNeg ((I 92 23) + 2)) then ((m_104 (I 93 (Int32.toNatClampNeg ((I 92 23) + 2))) I J).bind (fun r12 => if r12 = 0 then (b_106_105 x1 I J) else (b_106_101 x1 I J))) else none)) else none))) else none)) = some R := h
  refine Rn.pu (st' := [.int x1]) dk_106_46 L_106 rfl ?_
  refine Rn.ic dk_106_47 cic_3 ?_
  by_cases c4 : ¬ x1 = 3
  · rw [if_pos c4] at h
    refine Rn.i2t (t := 105) dk_106_48 rfl (decide_eq_true c4) ?_
    exact Rn.wk [0, 1] rfl (p_106_105 hD _ _ _ _ h)
  · rw [if_neg c4] at h
    refine Rn.i2f (t := 105) dk_106_48 rfl (decide_eq_false c4) ?_
    refine Rn.pu (st' := [.ref 92]) dk_106_51 L_106 rfl ?_
    refine Rn.gR (r := 93) dk_106_52 f_106_52.choose_spec sk_92 rfl ?_
    refine Rn.pu (st' := [.ref 92, .ref 93]) dk_106_55 L_106 rfl ?_
    refine Rn.gI dk_106_56 f_106_56.choose_spec sk_92 rfl ?_
    refine Rn.ic dk_106_59 cic_1 ?_
    refine Rn.pu (st' := [.int ((I 92 23) + 1), .ref 93]) dk_106_60 L_106 rfl ?_
    obtain ⟨c5, h⟩ := xm_if h
    refine Rn.cald dk_106_61 sk_93 c5 ?_
    obtain ⟨r6, e7, h⟩ := bindS h
    refine Rn.csI (As := [.int (I 93 (Int32.toNatClampNeg ((I 92 23) + 1)))]) (rest := []) dk_106_62 ck_106_62.choose_spec rfl (x_104 (Nat.le_trans (Nat.le_of_ble_eq_true rfl) hD) e7) ?_
    by_cases c8 : r6 = 0
    · rw [if_pos c8] at h
      refine Rn.i1t (t := 105) dk_106_65 rfl (decide_eq_true c8) ?_
      exact Rn.wk [0, 1] rfl (p_106_105 hD _ _ _ _ h)
    · rw [if_neg c8] at h
      refine Rn.i1f (t := 105) dk_106_65 rfl (decide_eq_false c8) ?_
      refine Rn.pu (st' := [.ref 92]) dk_106_68 L_106 rfl ?_
      refine Rn.gR (r := 93) dk_106_69 f_106_69.choose_spec sk_92 rfl ?_
      refine Rn.pu (st' := [.ref 92, .ref 93]) dk_106_72 L_106 rfl ?_
      refine Rn.gI dk_106_73 f_106_73.choose_spec sk_92 rfl ?_
      refine Rn.ic dk_106_76 cic_1 ?_
      refine Rn.pu (st' := [.int ((I 92 23) + 1), .ref 93]) dk_106_77 L_106 rfl ?_
      obtain ⟨c9, h⟩ := xm_if h
      refine Rn.cald dk_106_78 sk_93 c9 ?_
      refine Rn.bp dk_106_79 cbp_48 ?_
      by_cases c10 : (I 93 (Int32.toNatClampNeg ((I 92 23) + 1))) ≤ 48
      · rw [if_pos c10] at h
        refine Rn.i2t (t := 105) dk_106_81 rfl (decide_eq_true c10) ?_
        exact Rn.wk [0, 1] rfl (p_106_105 hD _ _ _ _ h)
      · rw [if_neg c10] at h
        refine Rn.i2f (t := 105) dk_106_81 rfl (decide_eq_false c10) ?_
        refine Rn.pu (st' := [.ref 92]) dk_106_84 L_106 rfl ?_
        refine Rn.gR (r := 93) dk_106_85 f_106_85.choose_spec sk_92 rfl ?_
        refine Rn.pu (st' := [.ref 92, .ref 93]) dk_106_88 L_106 rfl ?_
        refine Rn.gI dk_106_89 f_106_89.choose_spec sk_92 rfl ?_
        refine Rn.ic dk_106_92 cic_2 ?_
        refine Rn.pu (st' := [.int ((I 92 23) + 2), .ref 93]) dk_106_93 L_106 rfl ?_
        obtain ⟨c11, h⟩ := xm_if h
        refine Rn.cald dk_106_94 sk_93 c11 ?_
        obtain ⟨r12, e13, h⟩ := bindS h
        refine Rn.csI (As := [.int (I 93 (Int32.toNatClampNeg ((I 92 23) + 2)))]) (rest := []) dk_106_95 ck_106_95.choose_spec rfl (x_104 (Nat.le_trans (Nat.le_of_ble_eq_true rfl) hD) e13) ?_
        by_cases c14 : r12 = 0
        · rw [if_pos c14] at h
          refine Rn.i1t (t := 105) dk_106_98 rfl (decide_eq_true c14) ?_
          exact Rn.wk [0, 1] rfl (p_106_105 hD _ _ _ _ h)
        · rw [if_neg c14] at h
          refine Rn.i1f (t := 105) dk_106_98 rfl (decide_eq_false c14) ?_
          exact Rn.wk [0, 1] rfl (p_106_101 hD _ _ _ _ h)
def b_106_0 (I : dI) (J : dJ) : Option (dI × dJ) := if ¬ ((I 92 23) < 0 ∨ 120 ≤ Int32.toNatClampNeg (I 92 23)) then (if ¬ (I 93 (Int32.toNatClampNeg (I 92 23))) = 120 then (b_106_105 ((I 92 21) - (I 92 23)) I J) else (if ¬ ((I 92 21) - (I 92 23)) = 2 then (b_106_46 ((I 92 21) - (I 92 23)) I J) else (if ¬ (((I 92 23) + 1) < 0 ∨ 120 ≤ Int32.toNatClampNeg ((I 92 23) + 1)) then ((m_104 (I 93 (Int32.toNatClampNeg ((I 92 23) + 1))) I J).bind (fun r5 => if ¬ r5 = 0 then (b_106_101 ((I 92 21) - (I 92 23)) I J) else (b_106_46 ((I 92 21) - (I 92 23)) I J))) else none))) else none
theorem p_106_0 {Q : Nat → Option Nat} {D : Nat} (hD : 2 ≤ D) (I : dI) (J : dJ) (R : (dI × dJ)) (h : b_106_0 I J = some R) : Rn Q D 106 0 [(0, .ref 92)] [] I J (none) R.1 R.2 := by
  replace h : (if ¬ ((I 92 23) < 0 ∨ 120 ≤ Int32.toNatClampNeg (I 92 23)) then (if ¬ (I 93 (Int32.toNatClampNeg (I 92 23))) = 120 then (b_106_105 ((I 92 21) - (I 92 23)) I J) else (if ¬ ((I 92 21) - (I 92 23)) = 2 then (b_106_46 ((I 92 21) - (I 92 23)) I J) else (if ¬ (((I 92 23) + 1) < 0 ∨ 120 ≤ Int32.toNatClampNeg ((I 92 23) + 1)) then ((m_104 (I 93 (Int32.toNatClampNeg ((I 92 23) + 1))) I J).bind (fun r5 => if ¬ r5 = 0 then (b_106_101 ((I 92 21) - (I 92 23)) I J) else (b_106_46 ((I 92 21) - (I 92 23)) I J))) else none))) else none) = some R := h
  refine Rn.pu (st' := [.ref 92]) dk_106_0 L_106 rfl ?_
  refine Rn.gI dk_106_1 f_106_1.choose_spec sk_92 rfl ?_
  refine Rn.pu (st' := [.ref 92, .int (I 92 21)]) dk_106_4 L_106 rfl ?_
  refine Rn.gI dk_106_5 f_106_5.choose_spec sk_92 rfl ?_
  refine Rn.pu (st' := [.int ((I 92 21) - (I 92 23))]) dk_106_8 L_106 rfl ?_
  refine Rn.pu (ls' := [(1, .int ((I 92 21) - (I 92 23))), (0, .ref 92)]) (st' := []) dk_106_9 L_106 rfl ?_
  refine Rn.pu (st' := [.ref 92]) dk_106_10 L_106 rfl ?_
  refine Rn.gR (r := 93) dk_106_11 f_106_11.choose_spec sk_92 rfl ?_
  refine Rn.pu (st' := [.ref 92, .ref 93]) dk_106_14 L_106 rfl ?_
  refine Rn.gI dk_106_15 f_106_15.choose_spec sk_92 rfl ?_
  obtain ⟨c1, h⟩ := xm_if h
  refine Rn.cald dk_106_18 sk_93 c1 ?_
  refine Rn.bp dk_106_19 cbp_120 ?_
  by_cases c2 : ¬ (I 93 (Int32.toNatClampNeg (I 92 23))) = 120
  · rw [if_pos c2] at h
    refine Rn.i2t (t := 105) dk_106_21 rfl (decide_eq_true c2) ?_
    exact Rn.wk [1, 0] rfl (p_106_105 hD _ _ _ _ h)
  · rw [if_neg c2] at h
    refine Rn.i2f (t := 105) dk_106_21 rfl (decide_eq_false c2) ?_
    refine Rn.pu (st' := [.int ((I 92 21) - (I 92 23))]) dk_106_24 L_106 rfl ?_
    refine Rn.ic dk_106_25 cic_2 ?_
    by_cases c3 : ¬ ((I 92 21) - (I 92 23)) = 2
    · rw [if_pos c3] at h
      refine Rn.i2t (t := 46) dk_106_26 rfl (decide_eq_true c3) ?_
      exact Rn.wk [1, 0] rfl (p_106_46 hD _ _ _ _ h)
    · rw [if_neg c3] at h
      refine Rn.i2f (t := 46) dk_106_26 rfl (decide_eq_false c3) ?_
      refine Rn.pu (st' := [.ref 92]) dk_106_29 L_106 rfl ?_
      refine Rn.gR (r := 93) dk_106_30 f_106_30.choose_spec sk_92 rfl ?_
      refine Rn.pu (st' := [.ref 92, .ref 93]) dk_106_33 L_106 rfl ?_
      refine Rn.gI dk_106_34 f_106_34.choose_spec sk_92 rfl ?_
      refine Rn.ic dk_106_37 cic_1 ?_
      refine Rn.pu (st' := [.int ((I 92 23) + 1), .ref 93]) dk_106_38 L_106 rfl ?_
      obtain ⟨c4, h⟩ := xm_if h
      refine Rn.cald dk_106_39 sk_93 c4 ?_
      obtain ⟨r5, e6, h⟩ := bindS h
      refine Rn.csI (As := [.int (I 93 (Int32.toNatClampNeg ((I 92 23) + 1)))]) (rest := []) dk_106_40 ck_106_40.choose_spec rfl (x_104 (Nat.le_trans (Nat.le_of_ble_eq_true rfl) hD) e6) ?_
      by_cases c7 : ¬ r5 = 0
      · rw [if_pos c7] at h
        refine Rn.i1t (t := 101) dk_106_43 rfl (decide_eq_true c7) ?_
        exact Rn.wk [1, 0] rfl (p_106_101 hD _ _ _ _ h)
      · rw [if_neg c7] at h
        refine Rn.i1f (t := 101) dk_106_43 rfl (decide_eq_false c7) ?_
        exact Rn.wk [1, 0] rfl (p_106_46 hD _ _ _ _ h)
def m_106 (I : dI) (J : dJ) : Option (dI × dJ) := b_106_0 I J
theorem x_106 {Q : Nat → Option Nat} {D : Nat} (hD : 3 ≤ D) {I : dI} {J : dJ} {R : (dI × dJ)} (h : m_106 I J = some R) : Ex Q D 106 I J [.ref 92] (none) R.1 R.2 := by
  obtain ⟨D, rfl⟩ : ∃ D', D = D' + 1 := ⟨D - 1, by omega⟩
  exact Ex.of (by decide) (by rw [L_106]; exact Nat.le_of_ble_eq_true rfl) (show xm_sub [(0, .ref 92)] [(0, .ref 92)] from xm_sub_of [0] [0] rfl rfl (by decide)) (p_106_0 (Nat.le_of_succ_le_succ hD) _ _ _ h)
