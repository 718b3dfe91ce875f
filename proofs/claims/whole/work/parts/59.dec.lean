/-! Printed by wip/whole/gen_dec.py: methods read back. -/
-- ConditionDeskModel.both(IJJ)J
theorem L_131 : tb_mL 131 = 5 := by decide +kernel
theorem R_131 : tb_mr 131 = some .long := by decide +kernel
theorem dk_131_0 : decode (tb_mb 131) 0 = .ok (.iload_n 0, 1) := by decide +kernel
theorem dk_131_1 : decode (tb_mb 131) 1 = .ok (.tableswitch (234) 10 26 #[83, 83, 98, 113, 128, 143, 158, 173, 188, 192, 196, 200, 209, 218, 222, 226, 230], 83) := by decide +kernel
theorem dk_131_84 : decode (tb_mb 131) 84 = .ok (.lload_n 3, 1) := by decide +kernel
theorem dk_131_85 : decode (tb_mb 131) 85 = .ok (.lconst 0, 1) := by decide +kernel
theorem dk_131_86 : decode (tb_mb 131) 86 = .ok (.lcmp, 1) := by decide +kernel
theorem dk_131_87 : decode (tb_mb 131) 87 = .ok (.ifCond .eq (7), 3) := by decide +kernel
theorem dk_131_94 : decode (tb_mb 131) 94 = .ok (.iconst (0), 1) := by decide +kernel
theorem dk_131_95 : decode (tb_mb 131) 95 = .ok (.invokestatic 239, 3) := by decide +kernel
theorem ck_131_95 : ∃ b, tb_cr (tb_oc 131) 239 = some (1, 128, b, 1) := ⟨_, rfl⟩
theorem dk_131_98 : decode (tb_mb 131) 98 = .ok (.lreturn, 1) := by decide +kernel
theorem dk_131_90 : decode (tb_mb 131) 90 = .ok (.iconst (1), 1) := by decide +kernel
theorem dk_131_91 : decode (tb_mb 131) 91 = .ok (.goto (4), 3) := by decide +kernel
theorem dk_131_99 : decode (tb_mb 131) 99 = .ok (.lload_n 1, 1) := by decide +kernel
theorem dk_131_100 : decode (tb_mb 131) 100 = .ok (.lload_n 3, 1) := by decide +kernel
theorem dk_131_101 : decode (tb_mb 131) 101 = .ok (.lcmp, 1) := by decide +kernel
theorem dk_131_102 : decode (tb_mb 131) 102 = .ok (.ifCond .ne (7), 3) := by decide +kernel
theorem dk_131_109 : decode (tb_mb 131) 109 = .ok (.iconst (0), 1) := by decide +kernel
theorem dk_131_110 : decode (tb_mb 131) 110 = .ok (.invokestatic 239, 3) := by decide +kernel
theorem ck_131_110 : ∃ b, tb_cr (tb_oc 131) 239 = some (1, 128, b, 1) := ⟨_, rfl⟩
theorem dk_131_113 : decode (tb_mb 131) 113 = .ok (.lreturn, 1) := by decide +kernel
theorem dk_131_105 : decode (tb_mb 131) 105 = .ok (.iconst (1), 1) := by decide +kernel
theorem dk_131_106 : decode (tb_mb 131) 106 = .ok (.goto (4), 3) := by decide +kernel
theorem dk_131_114 : decode (tb_mb 131) 114 = .ok (.lload_n 1, 1) := by decide +kernel
theorem dk_131_115 : decode (tb_mb 131) 115 = .ok (.lload_n 3, 1) := by decide +kernel
theorem dk_131_116 : decode (tb_mb 131) 116 = .ok (.lcmp, 1) := by decide +kernel
theorem dk_131_117 : decode (tb_mb 131) 117 = .ok (.ifCond .eq (7), 3) := by decide +kernel
theorem dk_131_124 : decode (tb_mb 131) 124 = .ok (.iconst (0), 1) := by decide +kernel
theorem dk_131_125 : decode (tb_mb 131) 125 = .ok (.invokestatic 239, 3) := by decide +kernel
theorem ck_131_125 : ∃ b, tb_cr (tb_oc 131) 239 = some (1, 128, b, 1) := ⟨_, rfl⟩
theorem dk_131_128 : decode (tb_mb 131) 128 = .ok (.lreturn, 1) := by decide +kernel
theorem dk_131_120 : decode (tb_mb 131) 120 = .ok (.iconst (1), 1) := by decide +kernel
theorem dk_131_121 : decode (tb_mb 131) 121 = .ok (.goto (4), 3) := by decide +kernel
theorem dk_131_129 : decode (tb_mb 131) 129 = .ok (.lload_n 1, 1) := by decide +kernel
theorem dk_131_130 : decode (tb_mb 131) 130 = .ok (.lload_n 3, 1) := by decide +kernel
theorem dk_131_131 : decode (tb_mb 131) 131 = .ok (.lcmp, 1) := by decide +kernel
theorem dk_131_132 : decode (tb_mb 131) 132 = .ok (.ifCond .ge (7), 3) := by decide +kernel
theorem dk_131_139 : decode (tb_mb 131) 139 = .ok (.iconst (0), 1) := by decide +kernel
theorem dk_131_140 : decode (tb_mb 131) 140 = .ok (.invokestatic 239, 3) := by decide +kernel
theorem ck_131_140 : ∃ b, tb_cr (tb_oc 131) 239 = some (1, 128, b, 1) := ⟨_, rfl⟩
theorem dk_131_143 : decode (tb_mb 131) 143 = .ok (.lreturn, 1) := by decide +kernel
theorem dk_131_135 : decode (tb_mb 131) 135 = .ok (.iconst (1), 1) := by decide +kernel
theorem dk_131_136 : decode (tb_mb 131) 136 = .ok (.goto (4), 3) := by decide +kernel
theorem dk_131_144 : decode (tb_mb 131) 144 = .ok (.lload_n 1, 1) := by decide +kernel
theorem dk_131_145 : decode (tb_mb 131) 145 = .ok (.lload_n 3, 1) := by decide +kernel
theorem dk_131_146 : decode (tb_mb 131) 146 = .ok (.lcmp, 1) := by decide +kernel
theorem dk_131_147 : decode (tb_mb 131) 147 = .ok (.ifCond .gt (7), 3) := by decide +kernel
theorem dk_131_154 : decode (tb_mb 131) 154 = .ok (.iconst (0), 1) := by decide +kernel
theorem dk_131_155 : decode (tb_mb 131) 155 = .ok (.invokestatic 239, 3) := by decide +kernel
theorem ck_131_155 : ∃ b, tb_cr (tb_oc 131) 239 = some (1, 128, b, 1) := ⟨_, rfl⟩
theorem dk_131_158 : decode (tb_mb 131) 158 = .ok (.lreturn, 1) := by decide +kernel
theorem dk_131_150 : decode (tb_mb 131) 150 = .ok (.iconst (1), 1) := by decide +kernel
theorem dk_131_151 : decode (tb_mb 131) 151 = .ok (.goto (4), 3) := by decide +kernel
theorem dk_131_159 : decode (tb_mb 131) 159 = .ok (.lload_n 1, 1) := by decide +kernel
theorem dk_131_160 : decode (tb_mb 131) 160 = .ok (.lload_n 3, 1) := by decide +kernel
theorem dk_131_161 : decode (tb_mb 131) 161 = .ok (.lcmp, 1) := by decide +kernel
theorem dk_131_162 : decode (tb_mb 131) 162 = .ok (.ifCond .le (7), 3) := by decide +kernel
theorem dk_131_169 : decode (tb_mb 131) 169 = .ok (.iconst (0), 1) := by decide +kernel
theorem dk_131_170 : decode (tb_mb 131) 170 = .ok (.invokestatic 239, 3) := by decide +kernel
theorem ck_131_170 : ∃ b, tb_cr (tb_oc 131) 239 = some (1, 128, b, 1) := ⟨_, rfl⟩
theorem dk_131_173 : decode (tb_mb 131) 173 = .ok (.lreturn, 1) := by decide +kernel
theorem dk_131_165 : decode (tb_mb 131) 165 = .ok (.iconst (1), 1) := by decide +kernel
theorem dk_131_166 : decode (tb_mb 131) 166 = .ok (.goto (4), 3) := by decide +kernel
theorem dk_131_174 : decode (tb_mb 131) 174 = .ok (.lload_n 1, 1) := by decide +kernel
theorem dk_131_175 : decode (tb_mb 131) 175 = .ok (.lload_n 3, 1) := by decide +kernel
theorem dk_131_176 : decode (tb_mb 131) 176 = .ok (.lcmp, 1) := by decide +kernel
theorem dk_131_177 : decode (tb_mb 131) 177 = .ok (.ifCond .lt (7), 3) := by decide +kernel
theorem dk_131_184 : decode (tb_mb 131) 184 = .ok (.iconst (0), 1) := by decide +kernel
theorem dk_131_185 : decode (tb_mb 131) 185 = .ok (.invokestatic 239, 3) := by decide +kernel
theorem ck_131_185 : ∃ b, tb_cr (tb_oc 131) 239 = some (1, 128, b, 1) := ⟨_, rfl⟩
theorem dk_131_188 : decode (tb_mb 131) 188 = .ok (.lreturn, 1) := by decide +kernel
theorem dk_131_180 : decode (tb_mb 131) 180 = .ok (.iconst (1), 1) := by decide +kernel
theorem dk_131_181 : decode (tb_mb 131) 181 = .ok (.goto (4), 3) := by decide +kernel
theorem dk_131_189 : decode (tb_mb 131) 189 = .ok (.lload_n 1, 1) := by decide +kernel
theorem dk_131_190 : decode (tb_mb 131) 190 = .ok (.lload_n 3, 1) := by decide +kernel
theorem dk_131_191 : decode (tb_mb 131) 191 = .ok (.lor, 1) := by decide +kernel
theorem dk_131_192 : decode (tb_mb 131) 192 = .ok (.lreturn, 1) := by decide +kernel
theorem dk_131_193 : decode (tb_mb 131) 193 = .ok (.lload_n 1, 1) := by decide +kernel
theorem dk_131_194 : decode (tb_mb 131) 194 = .ok (.lload_n 3, 1) := by decide +kernel
theorem dk_131_195 : decode (tb_mb 131) 195 = .ok (.lxor, 1) := by decide +kernel
theorem dk_131_196 : decode (tb_mb 131) 196 = .ok (.lreturn, 1) := by decide +kernel
theorem dk_131_197 : decode (tb_mb 131) 197 = .ok (.lload_n 1, 1) := by decide +kernel
theorem dk_131_198 : decode (tb_mb 131) 198 = .ok (.lload_n 3, 1) := by decide +kernel
theorem dk_131_199 : decode (tb_mb 131) 199 = .ok (.land, 1) := by decide +kernel
theorem dk_131_200 : decode (tb_mb 131) 200 = .ok (.lreturn, 1) := by decide +kernel
theorem dk_131_201 : decode (tb_mb 131) 201 = .ok (.lload_n 1, 1) := by decide +kernel
theorem dk_131_202 : decode (tb_mb 131) 202 = .ok (.lload_n 3, 1) := by decide +kernel
theorem dk_131_203 : decode (tb_mb 131) 203 = .ok (.ldc2_w 256, 3) := by decide +kernel
theorem kl_131_203 : tb_kl (tb_oc 131) 256 = some (63) := by decide +kernel
theorem dk_131_206 : decode (tb_mb 131) 206 = .ok (.land, 1) := by decide +kernel
theorem dk_131_207 : decode (tb_mb 131) 207 = .ok (.l2i, 1) := by decide +kernel
theorem dk_131_208 : decode (tb_mb 131) 208 = .ok (.lshl, 1) := by decide +kernel
theorem dk_131_209 : decode (tb_mb 131) 209 = .ok (.lreturn, 1) := by decide +kernel
theorem dk_131_210 : decode (tb_mb 131) 210 = .ok (.lload_n 1, 1) := by decide +kernel
theorem dk_131_211 : decode (tb_mb 131) 211 = .ok (.lload_n 3, 1) := by decide +kernel
theorem dk_131_212 : decode (tb_mb 131) 212 = .ok (.ldc2_w 256, 3) := by decide +kernel
theorem kl_131_212 : tb_kl (tb_oc 131) 256 = some (63) := by decide +kernel
theorem dk_131_215 : decode (tb_mb 131) 215 = .ok (.land, 1) := by decide +kernel
theorem dk_131_216 : decode (tb_mb 131) 216 = .ok (.l2i, 1) := by decide +kernel
theorem dk_131_217 : decode (tb_mb 131) 217 = .ok (.lshr, 1) := by decide +kernel
theorem dk_131_218 : decode (tb_mb 131) 218 = .ok (.lreturn, 1) := by decide +kernel
theorem dk_131_219 : decode (tb_mb 131) 219 = .ok (.lload_n 1, 1) := by decide +kernel
theorem dk_131_220 : decode (tb_mb 131) 220 = .ok (.lload_n 3, 1) := by decide +kernel
theorem dk_131_221 : decode (tb_mb 131) 221 = .ok (.ladd, 1) := by decide +kernel
theorem dk_131_222 : decode (tb_mb 131) 222 = .ok (.lreturn, 1) := by decide +kernel
theorem dk_131_223 : decode (tb_mb 131) 223 = .ok (.lload_n 1, 1) := by decide +kernel
theorem dk_131_224 : decode (tb_mb 131) 224 = .ok (.lload_n 3, 1) := by decide +kernel
theorem dk_131_225 : decode (tb_mb 131) 225 = .ok (.lsub, 1) := by decide +kernel
theorem dk_131_226 : decode (tb_mb 131) 226 = .ok (.lreturn, 1) := by decide +kernel
theorem dk_131_227 : decode (tb_mb 131) 227 = .ok (.lload_n 1, 1) := by decide +kernel
theorem dk_131_228 : decode (tb_mb 131) 228 = .ok (.lload_n 3, 1) := by decide +kernel
theorem dk_131_229 : decode (tb_mb 131) 229 = .ok (.lmul, 1) := by decide +kernel
theorem dk_131_230 : decode (tb_mb 131) 230 = .ok (.lreturn, 1) := by decide +kernel
theorem dk_131_231 : decode (tb_mb 131) 231 = .ok (.lload_n 1, 1) := by decide +kernel
theorem dk_131_232 : decode (tb_mb 131) 232 = .ok (.lload_n 3, 1) := by decide +kernel
theorem dk_131_233 : decode (tb_mb 131) 233 = .ok (.ldiv, 1) := by decide +kernel
theorem dk_131_234 : decode (tb_mb 131) 234 = .ok (.lreturn, 1) := by decide +kernel
theorem dk_131_235 : decode (tb_mb 131) 235 = .ok (.lload_n 1, 1) := by decide +kernel
theorem dk_131_236 : decode (tb_mb 131) 236 = .ok (.lload_n 3, 1) := by decide +kernel
theorem dk_131_237 : decode (tb_mb 131) 237 = .ok (.lrem, 1) := by decide +kernel
theorem dk_131_238 : decode (tb_mb 131) 238 = .ok (.lreturn, 1) := by decide +kernel
def b_131_95 (s0 : Int32) (I : dI) (J : dJ) : Option Int64 := (m_128 s0 I J).bind (fun r3 => some r3)
theorem p_131_95 {Q : Nat → Option Nat} {D : Nat} (hD : 2 ≤ D) (s0 : Int32) (I : dI) (J : dJ) (R : Int64) (h : b_131_95 s0 I J = some R) : Rn Q D 131 95 [] [.int s0] I J (some (.long R)) I J := by
  replace h : ((m_128 s0 I J).bind (fun r3 => some r3)) = some R := h
  obtain ⟨r3, e4, h⟩ := bindS h
  refine Rn.csJ (As := [.int s0]) (rest := []) dk_131_95 ck_131_95.choose_spec rfl (x_128 (Nat.le_trans (Nat.le_of_ble_eq_true rfl) hD) e4) ?_
  cases h
  exact Rn.rl dk_131_98 R_131
def b_131_84 (x3 : Int64) (I : dI) (J : dJ) : Option Int64 := if (lg_cmp x3 0) = 0 then (b_131_95 0 I J) else (b_131_95 1 I J)
theorem p_131_84 {Q : Nat → Option Nat} {D : Nat} (hD : 2 ≤ D) (x3 : Int64) (I : dI) (J : dJ) (R : Int64) (h : b_131_84 x3 I J = some R) : Rn Q D 131 84 [(3, .long x3)] [] I J (some (.long R)) I J := by
  replace h : (if (lg_cmp x3 0) = 0 then (b_131_95 0 I J) else (b_131_95 1 I J)) = some R := h
  refine Rn.pu (st' := [.long x3]) dk_131_84 L_131 rfl ?_
  refine Rn.lc dk_131_85 clc_0 ?_
  refine Rn.pu (st' := [.int (lg_cmp x3 0)]) dk_131_86 L_131 rfl ?_
  by_cases c2 : (lg_cmp x3 0) = 0
  · rw [if_pos c2] at h
    refine Rn.i1t (t := 94) dk_131_87 rfl (decide_eq_true c2) ?_
    refine Rn.ic dk_131_94 cic_0 ?_
    exact Rn.wk [] rfl (p_131_95 hD _ _ _ _ h)
  · rw [if_neg c2] at h
    refine Rn.i1f (t := 94) dk_131_87 rfl (decide_eq_false c2) ?_
    refine Rn.ic dk_131_90 cic_1 ?_
    refine Rn.gt (t := 95) dk_131_91 rfl ?_
    exact Rn.wk [] rfl (p_131_95 hD _ _ _ _ h)
def b_131_110 (s0 : Int32) (I : dI) (J : dJ) : Option Int64 := (m_128 s0 I J).bind (fun r6 => some r6)
theorem p_131_110 {Q : Nat → Option Nat} {D : Nat} (hD : 2 ≤ D) (s0 : Int32) (I : dI) (J : dJ) (R : Int64) (h : b_131_110 s0 I J = some R) : Rn Q D 131 110 [] [.int s0] I J (some (.long R)) I J := by
  replace h : ((m_128 s0 I J).bind (fun r6 => some r6)) = some R := h
  obtain ⟨r6, e7, h⟩ := bindS h
  refine Rn.csJ (As := [.int s0]) (rest := []) dk_131_110 ck_131_110.choose_spec rfl (x_128 (Nat.le_trans (Nat.le_of_ble_eq_true rfl) hD) e7) ?_
  cases h
  exact Rn.rl dk_131_113 R_131
def b_131_125 (s0 : Int32) (I : dI) (J : dJ) : Option Int64 := (m_128 s0 I J).bind (fun r10 => some r10)
theorem p_131_125 {Q : Nat → Option Nat} {D : Nat} (hD : 2 ≤ D) (s0 : Int32) (I : dI) (J : dJ) (R : Int64) (h : b_131_125 s0 I J = some R) : Rn Q D 131 125 [] [.int s0] I J (some (.long R)) I J := by
  replace h : ((m_128 s0 I J).bind (fun r10 => some r10)) = some R := h
  obtain ⟨r10, e11, h⟩ := bindS h
  refine Rn.csJ (As := [.int s0]) (rest := []) dk_131_125 ck_131_125.choose_spec rfl (x_128 (Nat.le_trans (Nat.le_of_ble_eq_true rfl) hD) e11) ?_
  cases h
  exact Rn.rl dk_131_128 R_131
def b_131_140 (s0 : Int32) (I : dI) (J : dJ) : Option Int64 := (m_128 s0 I J).bind (fun r14 => some r14)
theorem p_131_140 {Q : Nat → Option Nat} {D : Nat} (hD : 2 ≤ D) (s0 : Int32) (I : dI) (J : dJ) (R : Int64) (h : b_131_140 s0 I J = some R) : Rn Q D 131 140 [] [.int s0] I J (some (.long R)) I J := by
  replace h : ((m_128 s0 I J).bind (fun r14 => some r14)) = some R := h
  obtain ⟨r14, e15, h⟩ := bindS h
  refine Rn.csJ (As := [.int s0]) (rest := []) dk_131_140 ck_131_140.choose_spec rfl (x_128 (Nat.le_trans (Nat.le_of_ble_eq_true rfl) hD) e15) ?_
  cases h
  exact Rn.rl dk_131_143 R_131
def b_131_155 (s0 : Int32) (I : dI) (J : dJ) : Option Int64 := (m_128 s0 I J).bind (fun r18 => some r18)
theorem p_131_155 {Q : Nat → Option Nat} {D : Nat} (hD : 2 ≤ D) (s0 : Int32) (I : dI) (J : dJ) (R : Int64) (h : b_131_155 s0 I J = some R) : Rn Q D 131 155 [] [.int s0] I J (some (.long R)) I J := by
  replace h : ((m_128 s0 I J).bind (fun r18 => some r18)) = some R := h
  obtain ⟨r18, e19, h⟩ := bindS h
  refine Rn.csJ (As := [.int s0]) (rest := []) dk_131_155 ck_131_155.choose_spec rfl (x_128 (Nat.le_trans (Nat.le_of_ble_eq_true rfl) hD) e19) ?_
  cases h
  exact Rn.rl dk_131_158 R_131
def b_131_170 (s0 : Int32) (I : dI) (J : dJ) : Option Int64 := (m_128 s0 I J).bind (fun r22 => some r22)
theorem p_131_170 {Q : Nat → Option Nat} {D : Nat} (hD : 2 ≤ D) (s0 : Int32) (I : dI) (J : dJ) (R : Int64) (h : b_131_170 s0 I J = some R) : Rn Q D 131 170 [] [.int s0] I J (some (.long R)) I J := by
  replace h : ((m_128 s0 I J).bind (fun r22 => some r22)) = some R := h
  obtain ⟨r22, e23, h⟩ := bindS h
  refine Rn.csJ (As := [.int s0]) (rest := []) dk_131_170 ck_131_170.choose_spec rfl (x_128 (Nat.le_trans (Nat.le_of_ble_eq_true rfl) hD) e23) ?_
  cases h
  exact Rn.rl dk_131_173 R_131
def b_131_185 (s0 : Int32) (I : dI) (J : dJ) : Option Int64 := (m_128 s0 I J).bind (fun r26 => some r26)
theorem p_131_185 {Q : Nat → Option Nat} {D : Nat} (hD : 2 ≤ D) (s0 : Int32) (I : dI) (J : dJ) (R : Int64) (h : b_131_185 s0 I J = some R) : Rn Q D 131 185 [] [.int s0] I J (some (.long R)) I J := by
  replace h : ((m_128 s0 I J).bind (fun r26 => some r26)) = some R := h
  obtain ⟨r26, e27, h⟩ := bindS h
  refine Rn.csJ (As := [.int s0]) (rest := []) dk_131_185 ck_131_185.choose_spec rfl (x_128 (Nat.le_trans (Nat.le_of_ble_eq_true rfl) hD) e27) ?_
  cases h
  exact Rn.rl dk_131_188 R_131
def b_131_0 (x0 : Int32) (x1 : Int64) (x3 : Int64) (I : dI) (J : dJ) : Option Int64 := if x0 = 10 then (b_131_84 x3 I J) else if x0 = 11 then (b_131_84 x3 I J) else if x0 = 12 then (if ¬ (lg_cmp x1 x3) = 0 then (b_131_110 0 I J) else (b_131_110 1 I J)) else if x0 = 13 then (if (lg_cmp x1 x3) = 0 then (b_131_125 0 I J) else (b_131_125 1 I J)) else if x0 = 14 then (if 0 ≤ (lg_cmp x1 x3) then (b_131_140 0 I J) else (b_131_140 1 I J)) else if x0 = 15 then (if 0 < (lg_cmp x1 x3) then (b_131_155 0 I J) else (b_131_155 1 I J)) else if x0 = 16 then (if (lg_cmp x1 x3) ≤ 0 then (b_131_170 0 I J) else (b_131_170 1 I J)) else if x0 = 17 then (if (lg_cmp x1 x3) < 0 then (b_131_185 0 I J) else (b_131_185 1 I J)) else if x0 = 18 then (some (x1 ||| x3)) else if x0 = 19 then (some (x1 ^^^ x3)) else if x0 = 20 then (some (x1 &&& x3)) else if x0 = 21 then (some (x1 <<< ((Int32.toInt64 (Int64.toInt32 (x3 &&& 63))) &&& 63))) else if x0 = 22 then (some (x1 >>> ((Int32.toInt64 (Int64.toInt32 (x3 &&& 63))) &&& 63))) else if x0 = 23 then (some (x1 + x3)) else if x0 = 24 then (some (x1 - x3)) else if x0 = 25 then (some (x1 * x3)) else if x0 = 26 then (if ¬ x3 = 0 then (some (x1 / x3)) else none) else (if ¬ x3 = 0 then (some (x1 - x1 / x3 * x3)) else none)
theorem p_131_0 {Q : Nat → Option Nat} {D : Nat} (hD : 2 ≤ D) (x0 : Int32) (x1 : Int64) (x3 : Int64) (I : dI) (J : dJ) (R : Int64) (h : b_131_0 x0 x1 x3 I J = some R) : Rn Q D 131 0 [(0, .int x0), (1, .long x1), (3, .long x3)] [] I J (some (.long R)) I J := by
  replace h : (if x0 = 10 then (b_131_84 x3 I J) else if x0 = 11 then (b_131_84 x3 I J) else if x0 = 12 then (if ¬ (lg_cmp x1 x3) = 0 then (b_131_110 0 I J) else (b_131_110 1 I J)) else if x0 = 13 then (if (lg_cmp x1 x3) = 0 then (b_131_125 0 I J) else (b_131_125 1 I J)) else if x0 = 14 then (if 0 ≤ (lg_cmp x1 x3) then (b_131_140 0 I J) else (b_131_140 1 I J)) else if x0 = 15 then (if 0 < (lg_cmp x1 x3) then (b_131_155 0 I J) else (b_131_155 1 I J)) else if x0 = 16 then (if (lg_cmp x1 x3) ≤ 0 then (b_131_170 0 I J) else (b_131_170 1 I J)) else if x0 = 17 then (if (lg_cmp x1 x3) < 0 then (b_131_185 0 I J) else (b_131_185 1 I J)) else if x0 = 18 then (some (x1 ||| x3)) else if x0 = 19 then (some (x1 ^^^ x3)) else if x0 = 20 then (some (x1 &&& x3)) else if x0 = 21 then (some (x1 <<< ((Int32.toInt64 (Int64.toInt32 (x3 &&& 63))) &&& 63))) else if x0 = 22 then (some (x1 >>> ((Int32.toInt64 (Int64.toInt32 (x3 &&& 63))) &&& 63))) else if x0 = 23 then (some (x1 + x3)) else if x0 = 24 then (some (x1 - x3)) else if x0 = 25 then (some (x1 * x3)) else if x0 = 26 then (if ¬ x3 = 0 then (some (x1 / x3)) else none) else (if ¬ x3 = 0 then (some (x1 - x1 / x3 * x3)) else none)) = some R := h
  refine Rn.pu (st' := [.int x0]) dk_131_0 L_131 rfl ?_
  by_cases c1 : x0 = 10
  · rw [if_pos c1] at h
    refine Rn.sw (t := 84) (st' := []) dk_131_1 (fun _ _ => rfl) (by rw [c1]; rfl) ?_
    exact Rn.wk [2] rfl (p_131_84 hD _ _ _ _ h)
  · rw [if_neg c1] at h
    by_cases c2 : x0 = 11
    · rw [if_pos c2] at h
      refine Rn.sw (t := 84) (st' := []) dk_131_1 (fun _ _ => rfl) (by rw [c2]; rfl) ?_
      exact Rn.wk [2] rfl (p_131_84 hD _ _ _ _ h)
    · rw [if_neg c2] at h
      by_cases c3 : x0 = 12
      · rw [if_pos c3] at h
        refine Rn.sw (t := 99) (st' := []) dk_131_1 (fun _ _ => rfl) (by rw [c3]; rfl) ?_
        refine Rn.pu (st' := [.long x1]) dk_131_99 L_131 rfl ?_
        refine Rn.pu (st' := [.long x3, .long x1]) dk_131_100 L_131 rfl ?_
        refine Rn.pu (st' := [.int (lg_cmp x1 x3)]) dk_131_101 L_131 rfl ?_
        by_cases c4 : ¬ (lg_cmp x1 x3) = 0
        · rw [if_pos c4] at h
          refine Rn.i1t (t := 109) dk_131_102 rfl (decide_eq_true c4) ?_
          refine Rn.ic dk_131_109 cic_0 ?_
          exact Rn.wk [] rfl (p_131_110 hD _ _ _ _ h)
        · rw [if_neg c4] at h
          refine Rn.i1f (t := 109) dk_131_102 rfl (decide_eq_false c4) ?_
          refine Rn.ic dk_131_105 cic_1 ?_
          refine Rn.gt (t := 110) dk_131_106 rfl ?_
          exact Rn.wk [] rfl (p_131_110 hD _ _ _ _ h)
      · rw [if_neg c3] at h
        by_cases c5 : x0 = 13
        · rw [if_pos c5] at h
          refine Rn.sw (t := 114) (st' := []) dk_131_1 (fun _ _ => rfl) (by rw [c5]; rfl) ?_
          refine Rn.pu (st' := [.long x1]) dk_131_114 L_131 rfl ?_
          refine Rn.pu (st' := [.long x3, .long x1]) dk_131_115 L_131 rfl ?_
          refine Rn.pu (st' := [.int (lg_cmp x1 x3)]) dk_131_116 L_131 rfl ?_
          by_cases c6 : (lg_cmp x1 x3) = 0
          · rw [if_pos c6] at h
            refine Rn.i1t (t := 124) dk_131_117 rfl (decide_eq_true c6) ?_
            refine Rn.ic dk_131_124 cic_0 ?_
            exact Rn.wk [] rfl (p_131_125 hD _ _ _ _ h)
          · rw [if_neg c6] at h
            refine Rn.i1f (t := 124) dk_131_117 rfl (decide_eq_false c6) ?_
            refine Rn.ic dk_131_120 cic_1 ?_
            refine Rn.gt (t := 125) dk_131_121 rfl ?_
            exact Rn.wk [] rfl (p_131_125 hD _ _ _ _ h)
        · rw [if_neg c5] at h
          by_cases c7 : x0 = 14
          · rw [if_pos c7] at h
            refine Rn.sw (t := 129) (st' := []) dk_131_1 (fun _ _ => rfl) (by rw [c7]; rfl) ?_
            refine Rn.pu (st' := [.long x1]) dk_131_129 L_131 rfl ?_
            refine Rn.pu (st' := [.long x3, .long x1]) dk_131_130 L_131 rfl ?_
            refine Rn.pu (st' := [.int (lg_cmp x1 x3)]) dk_131_131 L_131 rfl ?_
            by_cases c8 : 0 ≤ (lg_cmp x1 x3)
            · rw [if_pos c8] at h
              refine Rn.i1t (t := 139) dk_131_132 rfl (decide_eq_true c8) ?_
              refine Rn.ic dk_131_139 cic_0 ?_
              exact Rn.wk [] rfl (p_131_140 hD _ _ _ _ h)
            · rw [if_neg c8] at h
              refine Rn.i1f (t := 139) dk_131_132 rfl (decide_eq_false c8) ?_
              refine Rn.ic dk_131_135 cic_1 ?_
              refine Rn.gt (t := 140) dk_131_136 rfl ?_
              exact Rn.wk [] rfl (p_131_140 hD _ _ _ _ h)
          · rw [if_neg c7] at h
            by_cases c9 : x0 = 15
            · rw [if_pos c9] at h
              refine Rn.sw (t := 144) (st' := []) dk_131_1 (fun _ _ => rfl) (by rw [c9]; rfl) ?_
              refine Rn.pu (st' := [.long x1]) dk_131_144 L_131 rfl ?_
              refine Rn.pu (st' := [.long x3, .long x1]) dk_131_145 L_131 rfl ?_
              refine Rn.pu (st' := [.int (lg_cmp x1 x3)]) dk_131_146 L_131 rfl ?_
              by_cases c10 : 0 < (lg_cmp x1 x3)
              · rw [if_pos c10] at h
                refine Rn.i1t (t := 154) dk_131_147 rfl (decide_eq_true c10) ?_
                refine Rn.ic dk_131_154 cic_0 ?_
                exact Rn.wk [] rfl (p_131_155 hD _ _ _ _ h)
              · rw [if_neg c10] at h
                refine Rn.i1f (t := 154) dk_131_147 rfl (decide_eq_false c10) ?_
                refine Rn.ic dk_131_150 cic_1 ?_
                refine Rn.gt (t := 155) dk_131_151 rfl ?_
                exact Rn.wk [] rfl (p_131_155 hD _ _ _ _ h)
            · rw [if_neg c9] at h
              by_cases c11 : x0 = 16
              · rw [if_pos c11] at h
                refine Rn.sw (t := 159) (st' := []) dk_131_1 (fun _ _ => rfl) (by rw [c11]; rfl) ?_
                refine Rn.pu (st' := [.long x1]) dk_131_159 L_131 rfl ?_
                refine Rn.pu (st' := [.long x3, .long x1]) dk_131_160 L_131 rfl ?_
                refine Rn.pu (st' := [.int (lg_cmp x1 x3)]) dk_131_161 L_131 rfl ?_
                by_cases c12 : (lg_cmp x1 x3) ≤ 0
                · rw [if_pos c12] at h
                  refine Rn.i1t (t := 169) dk_131_162 rfl (decide_eq_true c12) ?_
                  refine Rn.ic dk_131_169 cic_0 ?_
                  exact Rn.wk [] rfl (p_131_170 hD _ _ _ _ h)
                · rw [if_neg c12] at h
                  refine Rn.i1f (t := 169) dk_131_162 rfl (decide_eq_false c12) ?_
                  refine Rn.ic dk_131_165 cic_1 ?_
                  refine Rn.gt (t := 170) dk_131_166 rfl ?_
                  exact Rn.wk [] rfl (p_131_170 hD _ _ _ _ h)
              · rw [if_neg c11] at h
                by_cases c13 : x0 = 17
                · rw [if_pos c13] at h
                  refine Rn.sw (t := 174) (st' := []) dk_131_1 (fun _ _ => rfl) (by rw [c13]; rfl) ?_
                  refine Rn.pu (st' := [.long x1]) dk_131_174 L_131 rfl ?_
                  refine Rn.pu (st' := [.long x3, .long x1]) dk_131_175 L_131 rfl ?_
                  refine Rn.pu (st' := [.int (lg_cmp x1 x3)]) dk_131_176 L_131 rfl ?_
                  by_cases c14 : (lg_cmp x1 x3) < 0
                  · rw [if_pos c14] at h
                    refine Rn.i1t (t := 184) dk_131_177 rfl (decide_eq_true c14) ?_
                    refine Rn.ic dk_131_184 cic_0 ?_
                    exact Rn.wk [] rfl (p_131_185 hD _ _ _ _ h)
                  · rw [if_neg c14] at h
                    refine Rn.i1f (t := 184) dk_131_177 rfl (decide_eq_false c14) ?_
                    refine Rn.ic dk_131_180 cic_1 ?_
                    refine Rn.gt (t := 185) dk_131_181 rfl ?_
                    exact Rn.wk [] rfl (p_131_185 hD _ _ _ _ h)
                · rw [if_neg c13] at h
                  by_cases c15 : x0 = 18
                  · rw [if_pos c15] at h
                    refine Rn.sw (t := 189) (st' := []) dk_131_1 (fun _ _ => rfl) (by rw [c15]; rfl) ?_
                    refine Rn.pu (st' := [.long x1]) dk_131_189 L_131 rfl ?_
                    refine Rn.pu (st' := [.long x3, .long x1]) dk_131_190 L_131 rfl ?_
                    refine Rn.pu (st' := [.long (x1 ||| x3)]) dk_131_191 L_131 rfl ?_
                    cases h
                    exact Rn.rl dk_131_192 R_131
                  · rw [if_neg c15] at h
                    by_cases c16 : x0 = 19
                    · rw [if_pos c16] at h
                      refine Rn.sw (t := 193) (st' := []) dk_131_1 (fun _ _ => rfl) (by rw [c16]; rfl) ?_
                      refine Rn.pu (st' := [.long x1]) dk_131_193 L_131 rfl ?_
                      refine Rn.pu (st' := [.long x3, .long x1]) dk_131_194 L_131 rfl ?_
                      refine Rn.pu (st' := [.long (x1 ^^^ x3)]) dk_131_195 L_131 rfl ?_
                      cases h
                      exact Rn.rl dk_131_196 R_131
                    · rw [if_neg c16] at h
                      by_cases c17 : x0 = 20
                      · rw [if_pos c17] at h
                        refine Rn.sw (t := 197) (st' := []) dk_131_1 (fun _ _ => rfl) (by rw [c17]; rfl) ?_
                        refine Rn.pu (st' := [.long x1]) dk_131_197 L_131 rfl ?_
                        refine Rn.pu (st' := [.long x3, .long x1]) dk_131_198 L_131 rfl ?_
                        refine Rn.pu (st' := [.long (x1 &&& x3)]) dk_131_199 L_131 rfl ?_
                        cases h
                        exact Rn.rl dk_131_200 R_131
                      · rw [if_neg c17] at h
                        by_cases c18 : x0 = 21
                        · rw [if_pos c18] at h
                          refine Rn.sw (t := 201) (st' := []) dk_131_1 (fun _ _ => rfl) (by rw [c18]; rfl) ?_
                          refine Rn.pu (st' := [.long x1]) dk_131_201 L_131 rfl ?_
                          refine Rn.pu (st' := [.long x3, .long x1]) dk_131_202 L_131 rfl ?_
                          refine Rn.ldl dk_131_203 kl_131_203 ?_
                          refine Rn.pu (st' := [.long (x3 &&& 63), .long x1]) dk_131_206 L_131 rfl ?_
                          refine Rn.pu (st' := [.int (Int64.toInt32 (x3 &&& 63)), .long x1]) dk_131_207 L_131 rfl ?_
                          refine Rn.pu (st' := [.long (x1 <<< ((Int32.toInt64 (Int64.toInt32 (x3 &&& 63))) &&& 63))]) dk_131_208 L_131 rfl ?_
                          cases h
                          exact Rn.rl dk_131_209 R_131
                        · rw [if_neg c18] at h
                          by_cases c19 : x0 = 22
                          · rw [if_pos c19] at h
                            refine Rn.sw (t := 210) (st' := []) dk_131_1 (fun _ _ => rfl) (by rw [c19]; rfl) ?_
                            refine Rn.pu (st' := [.long x1]) dk_131_210 L_131 rfl ?_
                            refine Rn.pu (st' := [.long x3, .long x1]) dk_131_211 L_131 rfl ?_
                            refine Rn.ldl dk_131_212 kl_131_212 ?_
                            refine Rn.pu (st' := [.long (x3 &&& 63), .long x1]) dk_131_215 L_131 rfl ?_
                            refine Rn.pu (st' := [.int (Int64.toInt32 (x3 &&& 63)), .long x1]) dk_131_216 L_131 rfl ?_
                            refine Rn.pu (st' := [.long (x1 >>> ((Int32.toInt64 (Int64.toInt32 (x3 &&& 63))) &&& 63))]) dk_131_217 L_131 rfl ?_
                            cases h
                            exact Rn.rl dk_131_218 R_131
                          · rw [if_neg c19] at h
                            by_cases c20 : x0 = 23
                            · rw [if_pos c20] at h
                              refine Rn.sw (t := 219) (st' := []) dk_131_1 (fun _ _ => rfl) (by rw [c20]; rfl) ?_
                              refine Rn.pu (st' := [.long x1]) dk_131_219 L_131 rfl ?_
                              refine Rn.pu (st' := [.long x3, .long x1]) dk_131_220 L_131 rfl ?_
                              refine Rn.pu (st' := [.long (x1 + x3)]) dk_131_221 L_131 rfl ?_
                              cases h
                              exact Rn.rl dk_131_222 R_131
                            · rw [if_neg c20] at h
                              by_cases c21 : x0 = 24
                              · rw [if_pos c21] at h
                                refine Rn.sw (t := 223) (st' := []) dk_131_1 (fun _ _ => rfl) (by rw [c21]; rfl) ?_
                                refine Rn.pu (st' := [.long x1]) dk_131_223 L_131 rfl ?_
                                refine Rn.pu (st' := [.long x3, .long x1]) dk_131_224 L_131 rfl ?_
                                refine Rn.pu (st' := [.long (x1 - x3)]) dk_131_225 L_131 rfl ?_
                                cases h
                                exact Rn.rl dk_131_226 R_131
                              · rw [if_neg c21] at h
                                by_cases c22 : x0 = 25
                                · rw [if_pos c22] at h
                                  refine Rn.sw (t := 227) (st' := []) dk_131_1 (fun _ _ => rfl) (by rw [c22]; rfl) ?_
                                  refine Rn.pu (st' := [.long x1]) dk_131_227 L_131 rfl ?_
                                  refine Rn.pu (st' := [.long x3, .long x1]) dk_131_228 L_131 rfl ?_
                                  refine Rn.pu (st' := [.long (x1 * x3)]) dk_131_229 L_131 rfl ?_
                                  cases h
                                  exact Rn.rl dk_131_230 R_131
                                · rw [if_neg c22] at h
                                  by_cases c23 : x0 = 26
                                  · rw [if_pos c23] at h
                                    refine Rn.sw (t := 231) (st' := []) dk_131_1 (fun _ _ => rfl) (by rw [c23]; rfl) ?_
                                    refine Rn.pu (st' := [.long x1]) dk_131_231 L_131 rfl ?_
                                    refine Rn.pu (st' := [.long x3, .long x1]) dk_131_232 L_131 rfl ?_
                                    obtain ⟨c24, h⟩ := xm_if h
                                    refine Rn.ldv dk_131_233 c24 ?_
                                    cases h
                                    exact Rn.rl dk_131_234 R_131
                                  · rw [if_neg c23] at h
                                    have q0 : xm_br (.tableswitch (234) 10 26 #[83, 83, 98, 113, 128, 143, 158, 173, 188, 192, 196, 200, 209, 218, 222, 226, 230]) 83 1 (.int x0 :: []) = some (true, 235, []) := by
                                      have q1 := i_ne c1 (z := 10) rfl
                                      have q2 := i_ne c2 (z := 11) rfl
                                      have q3 := i_ne c3 (z := 12) rfl
                                      have q4 := i_ne c5 (z := 13) rfl
                                      have q5 := i_ne c7 (z := 14) rfl
                                      have q6 := i_ne c9 (z := 15) rfl
                                      have q7 := i_ne c11 (z := 16) rfl
                                      have q8 := i_ne c13 (z := 17) rfl
                                      have q9 := i_ne c15 (z := 18) rfl
                                      have q10 := i_ne c16 (z := 19) rfl
                                      have q11 := i_ne c17 (z := 20) rfl
                                      have q12 := i_ne c18 (z := 21) rfl
                                      have q13 := i_ne c19 (z := 22) rfl
                                      have q14 := i_ne c20 (z := 23) rfl
                                      have q15 := i_ne c21 (z := 24) rfl
                                      have q16 := i_ne c22 (z := 25) rfl
                                      have q17 := i_ne c23 (z := 26) rfl
                                      exact ts_def (by omega) rfl
                                    refine Rn.sw dk_131_1 (fun _ _ => rfl) q0 ?_
                                    refine Rn.pu (st' := [.long x1]) dk_131_235 L_131 rfl ?_
                                    refine Rn.pu (st' := [.long x3, .long x1]) dk_131_236 L_131 rfl ?_
                                    obtain ⟨c25, h⟩ := xm_if h
                                    refine Rn.lrm dk_131_237 c25 ?_
                                    cases h
                                    exact Rn.rl dk_131_238 R_131
def m_131 (x0 : Int32) (x1 : Int64) (x3 : Int64) (I : dI) (J : dJ) : Option Int64 := b_131_0 x0 x1 x3 I J
theorem x_131 {Q : Nat → Option Nat} {D : Nat} (hD : 3 ≤ D) {x0 : Int32} {x1 : Int64} {x3 : Int64} {I : dI} {J : dJ} {R : Int64} (h : m_131 x0 x1 x3 I J = some R) : Ex Q D 131 I J [.int x0, .long x1, .long x3] (some (.long R)) I J := by
  obtain ⟨D, rfl⟩ : ∃ D', D = D' + 1 := ⟨D - 1, by omega⟩
  exact Ex.of (by decide) (by rw [L_131]; exact Nat.le_of_ble_eq_true rfl) (show xm_sub [(0, .int x0), (1, .long x1), (3, .long x3)] [(0, .int x0), (1, .long x1), (3, .long x3)] from xm_sub_of [0, 1, 2] [0, 1, 3] rfl rfl (by decide)) (p_131_0 (Nat.le_of_succ_le_succ hD) _ _ _ _ _ _ h)
-- ConditionDeskModel.join(II)V
theorem L_127 : tb_mL 127 = 10 := by decide +kernel
theorem R_127 : tb_mr 127 = none := by decide +kernel
theorem dk_127_0 : decode (tb_mb 127) 0 = .ok (.aload_n 0, 1) := by decide +kernel
theorem dk_127_1 : decode (tb_mb 127) 1 = .ok (.getfield 82, 3) := by decide +kernel
theorem f_127_1 : ∃ b, tb_fr (tb_oc 127) 82 = some (9, 38, b) := ⟨_, rfl⟩
theorem dk_127_4 : decode (tb_mb 127) 4 = .ok (.iload_n 2, 1) := by decide +kernel
theorem dk_127_5 : decode (tb_mb 127) 5 = .ok (.iaload, 1) := by decide +kernel
theorem dk_127_6 : decode (tb_mb 127) 6 = .ok (.istore_n 3, 1) := by decide +kernel
theorem dk_127_7 : decode (tb_mb 127) 7 = .ok (.aload_n 0, 1) := by decide +kernel
theorem dk_127_8 : decode (tb_mb 127) 8 = .ok (.getfield 49, 3) := by decide +kernel
theorem f_127_8 : ∃ b, tb_fr (tb_oc 127) 49 = some (9, 15, b) := ⟨_, rfl⟩
theorem dk_127_11 : decode (tb_mb 127) 11 = .ok (.iload_n 3, 1) := by decide +kernel
theorem dk_127_12 : decode (tb_mb 127) 12 = .ok (.iaload, 1) := by decide +kernel
theorem dk_127_13 : decode (tb_mb 127) 13 = .ok (.istore 4, 2) := by decide +kernel
theorem dk_127_15 : decode (tb_mb 127) 15 = .ok (.aload_n 0, 1) := by decide +kernel
theorem dk_127_16 : decode (tb_mb 127) 16 = .ok (.getfield 88, 3) := by decide +kernel
theorem f_127_16 : ∃ b, tb_fr (tb_oc 127) 88 = some (9, 40, b) := ⟨_, rfl⟩
theorem dk_127_19 : decode (tb_mb 127) 19 = .ok (.iload_n 2, 1) := by decide +kernel
theorem dk_127_20 : decode (tb_mb 127) 20 = .ok (.laload, 1) := by decide +kernel
theorem dk_127_21 : decode (tb_mb 127) 21 = .ok (.lstore 5, 2) := by decide +kernel
theorem dk_127_23 : decode (tb_mb 127) 23 = .ok (.aload_n 0, 1) := by decide +kernel
theorem dk_127_24 : decode (tb_mb 127) 24 = .ok (.getfield 209, 3) := by decide +kernel
theorem f_127_24 : ∃ b, tb_fr (tb_oc 127) 209 = some (9, 35, b) := ⟨_, rfl⟩
theorem dk_127_27 : decode (tb_mb 127) 27 = .ok (.lstore 7, 2) := by decide +kernel
theorem dk_127_29 : decode (tb_mb 127) 29 = .ok (.iload_n 3, 1) := by decide +kernel
theorem dk_127_30 : decode (tb_mb 127) 30 = .ok (.aload_n 0, 1) := by decide +kernel
theorem dk_127_31 : decode (tb_mb 127) 31 = .ok (.getfield 76, 3) := by decide +kernel
theorem f_127_31 : ∃ b, tb_fr (tb_oc 127) 76 = some (9, 36, b) := ⟨_, rfl⟩
theorem dk_127_34 : decode (tb_mb 127) 34 = .ok (.iload_n 2, 1) := by decide +kernel
theorem dk_127_35 : decode (tb_mb 127) 35 = .ok (.iaload, 1) := by decide +kernel
theorem dk_127_36 : decode (tb_mb 127) 36 = .ok (.if_icmp .ne (7), 3) := by decide +kernel
theorem dk_127_43 : decode (tb_mb 127) 43 = .ok (.iconst (0), 1) := by decide +kernel
theorem dk_127_44 : decode (tb_mb 127) 44 = .ok (.istore 9, 2) := by decide +kernel
theorem dk_127_46 : decode (tb_mb 127) 46 = .ok (.iload 9, 2) := by decide +kernel
theorem dk_127_48 : decode (tb_mb 127) 48 = .ok (.ifCond .eq (20), 3) := by decide +kernel
theorem dk_127_68 : decode (tb_mb 127) 68 = .ok (.iload 4, 2) := by decide +kernel
theorem dk_127_70 : decode (tb_mb 127) 70 = .ok (.bipush (28), 2) := by decide +kernel
theorem dk_127_72 : decode (tb_mb 127) 72 = .ok (.if_icmp .ne (25), 3) := by decide +kernel
theorem dk_127_97 : decode (tb_mb 127) 97 = .ok (.iload 4, 2) := by decide +kernel
theorem dk_127_99 : decode (tb_mb 127) 99 = .ok (.bipush (29), 2) := by decide +kernel
theorem dk_127_101 : decode (tb_mb 127) 101 = .ok (.if_icmp .ne (16), 3) := by decide +kernel
theorem dk_127_117 : decode (tb_mb 127) 117 = .ok (.iload 4, 2) := by decide +kernel
theorem dk_127_119 : decode (tb_mb 127) 119 = .ok (.bipush (32), 2) := by decide +kernel
theorem dk_127_121 : decode (tb_mb 127) 121 = .ok (.if_icmp .eq (17), 3) := by decide +kernel
theorem dk_127_138 : decode (tb_mb 127) 138 = .ok (.aload_n 0, 1) := by decide +kernel
theorem dk_127_139 : decode (tb_mb 127) 139 = .ok (.iload 4, 2) := by decide +kernel
theorem dk_127_141 : decode (tb_mb 127) 141 = .ok (.lload 7, 2) := by decide +kernel
theorem dk_127_143 : decode (tb_mb 127) 143 = .ok (.invokevirtual 245, 3) := by decide +kernel
theorem ck_127_143 : ∃ b, tb_cr (tb_oc 127) 245 = some (0, 129, b, 2) := ⟨_, rfl⟩
theorem dk_127_146 : decode (tb_mb 127) 146 = .ok (.goto (104), 3) := by decide +kernel
theorem dk_127_250 : decode (tb_mb 127) 250 = .ok (.return_, 1) := by decide +kernel
theorem dk_127_124 : decode (tb_mb 127) 124 = .ok (.iload 4, 2) := by decide +kernel
theorem dk_127_126 : decode (tb_mb 127) 126 = .ok (.bipush (6), 2) := by decide +kernel
theorem dk_127_128 : decode (tb_mb 127) 128 = .ok (.if_icmp .eq (10), 3) := by decide +kernel
theorem dk_127_131 : decode (tb_mb 127) 131 = .ok (.iload 4, 2) := by decide +kernel
theorem dk_127_133 : decode (tb_mb 127) 133 = .ok (.bipush (7), 2) := by decide +kernel
theorem dk_127_135 : decode (tb_mb 127) 135 = .ok (.if_icmp .ne (14), 3) := by decide +kernel
theorem dk_127_149 : decode (tb_mb 127) 149 = .ok (.iload 4, 2) := by decide +kernel
theorem dk_127_151 : decode (tb_mb 127) 151 = .ok (.bipush (8), 2) := by decide +kernel
theorem dk_127_153 : decode (tb_mb 127) 153 = .ok (.if_icmp .ne (12), 3) := by decide +kernel
theorem dk_127_165 : decode (tb_mb 127) 165 = .ok (.iload 4, 2) := by decide +kernel
theorem dk_127_167 : decode (tb_mb 127) 167 = .ok (.bipush (9), 2) := by decide +kernel
theorem dk_127_169 : decode (tb_mb 127) 169 = .ok (.if_icmp .ne (39), 3) := by decide +kernel
theorem dk_127_208 : decode (tb_mb 127) 208 = .ok (.iload 4, 2) := by decide +kernel
theorem dk_127_210 : decode (tb_mb 127) 210 = .ok (.bipush (26), 2) := by decide +kernel
theorem dk_127_212 : decode (tb_mb 127) 212 = .ok (.if_icmp .eq (10), 3) := by decide +kernel
theorem dk_127_222 : decode (tb_mb 127) 222 = .ok (.lload 7, 2) := by decide +kernel
theorem dk_127_224 : decode (tb_mb 127) 224 = .ok (.lconst 0, 1) := by decide +kernel
theorem dk_127_225 : decode (tb_mb 127) 225 = .ok (.lcmp, 1) := by decide +kernel
theorem dk_127_226 : decode (tb_mb 127) 226 = .ok (.ifCond .ne (11), 3) := by decide +kernel
theorem dk_127_237 : decode (tb_mb 127) 237 = .ok (.aload_n 0, 1) := by decide +kernel
theorem dk_127_238 : decode (tb_mb 127) 238 = .ok (.iload 4, 2) := by decide +kernel
theorem dk_127_240 : decode (tb_mb 127) 240 = .ok (.lload 5, 2) := by decide +kernel
theorem dk_127_242 : decode (tb_mb 127) 242 = .ok (.lload 7, 2) := by decide +kernel
theorem dk_127_244 : decode (tb_mb 127) 244 = .ok (.invokestatic 252, 3) := by decide +kernel
theorem ck_127_244 : ∃ b, tb_cr (tb_oc 127) 252 = some (1, 131, b, 3) := ⟨_, rfl⟩
theorem dk_127_247 : decode (tb_mb 127) 247 = .ok (.invokevirtual 235, 3) := by decide +kernel
theorem ck_127_247 : ∃ b, tb_cr (tb_oc 127) 235 = some (0, 125, b, 1) := ⟨_, rfl⟩
theorem dk_127_229 : decode (tb_mb 127) 229 = .ok (.aload_n 0, 1) := by decide +kernel
theorem dk_127_230 : decode (tb_mb 127) 230 = .ok (.iconst (1), 1) := by decide +kernel
theorem dk_127_231 : decode (tb_mb 127) 231 = .ok (.invokevirtual 249, 3) := by decide +kernel
theorem ck_127_231 : ∃ b, tb_cr (tb_oc 127) 249 = some (0, 130, b, 1) := ⟨_, rfl⟩
theorem dk_127_234 : decode (tb_mb 127) 234 = .ok (.goto (16), 3) := by decide +kernel
theorem dk_127_215 : decode (tb_mb 127) 215 = .ok (.iload 4, 2) := by decide +kernel
theorem dk_127_217 : decode (tb_mb 127) 217 = .ok (.bipush (27), 2) := by decide +kernel
theorem dk_127_219 : decode (tb_mb 127) 219 = .ok (.if_icmp .ne (18), 3) := by decide +kernel
theorem dk_127_172 : decode (tb_mb 127) 172 = .ok (.aload_n 0, 1) := by decide +kernel
theorem dk_127_173 : decode (tb_mb 127) 173 = .ok (.aload_n 0, 1) := by decide +kernel
theorem dk_127_174 : decode (tb_mb 127) 174 = .ok (.getfield 24, 3) := by decide +kernel
theorem f_127_174 : ∃ b, tb_fr (tb_oc 127) 24 = some (9, 7, b) := ⟨_, rfl⟩
theorem dk_127_177 : decode (tb_mb 127) 177 = .ok (.iload_n 1, 1) := by decide +kernel
theorem dk_127_178 : decode (tb_mb 127) 178 = .ok (.baload, 1) := by decide +kernel
theorem dk_127_179 : decode (tb_mb 127) 179 = .ok (.ifCond .eq (19), 3) := by decide +kernel
theorem dk_127_198 : decode (tb_mb 127) 198 = .ok (.iconst (0), 1) := by decide +kernel
theorem dk_127_199 : decode (tb_mb 127) 199 = .ok (.invokestatic 239, 3) := by decide +kernel
theorem ck_127_199 : ∃ b, tb_cr (tb_oc 127) 239 = some (1, 128, b, 1) := ⟨_, rfl⟩
theorem dk_127_202 : decode (tb_mb 127) 202 = .ok (.invokevirtual 235, 3) := by decide +kernel
theorem ck_127_202 : ∃ b, tb_cr (tb_oc 127) 235 = some (0, 125, b, 1) := ⟨_, rfl⟩
theorem dk_127_205 : decode (tb_mb 127) 205 = .ok (.goto (45), 3) := by decide +kernel
theorem dk_127_182 : decode (tb_mb 127) 182 = .ok (.lload 7, 2) := by decide +kernel
theorem dk_127_184 : decode (tb_mb 127) 184 = .ok (.aload_n 0, 1) := by decide +kernel
theorem dk_127_185 : decode (tb_mb 127) 185 = .ok (.getfield 58, 3) := by decide +kernel
theorem f_127_185 : ∃ b, tb_fr (tb_oc 127) 58 = some (9, 18, b) := ⟨_, rfl⟩
theorem dk_127_188 : decode (tb_mb 127) 188 = .ok (.iload_n 3, 1) := by decide +kernel
theorem dk_127_189 : decode (tb_mb 127) 189 = .ok (.laload, 1) := by decide +kernel
theorem dk_127_190 : decode (tb_mb 127) 190 = .ok (.lcmp, 1) := by decide +kernel
theorem dk_127_191 : decode (tb_mb 127) 191 = .ok (.ifCond .eq (7), 3) := by decide +kernel
theorem dk_127_194 : decode (tb_mb 127) 194 = .ok (.iconst (1), 1) := by decide +kernel
theorem dk_127_195 : decode (tb_mb 127) 195 = .ok (.goto (4), 3) := by decide +kernel
theorem dk_127_156 : decode (tb_mb 127) 156 = .ok (.aload_n 0, 1) := by decide +kernel
theorem dk_127_157 : decode (tb_mb 127) 157 = .ok (.lload 7, 2) := by decide +kernel
theorem dk_127_159 : decode (tb_mb 127) 159 = .ok (.invokevirtual 235, 3) := by decide +kernel
theorem ck_127_159 : ∃ b, tb_cr (tb_oc 127) 235 = some (0, 125, b, 1) := ⟨_, rfl⟩
theorem dk_127_162 : decode (tb_mb 127) 162 = .ok (.goto (88), 3) := by decide +kernel
theorem dk_127_104 : decode (tb_mb 127) 104 = .ok (.aload_n 0, 1) := by decide +kernel
theorem dk_127_105 : decode (tb_mb 127) 105 = .ok (.lload 7, 2) := by decide +kernel
theorem dk_127_107 : decode (tb_mb 127) 107 = .ok (.ldc2_w 243, 3) := by decide +kernel
theorem kl_127_107 : tb_kl (tb_oc 127) 243 = some (-1) := by decide +kernel
theorem dk_127_110 : decode (tb_mb 127) 110 = .ok (.lxor, 1) := by decide +kernel
theorem dk_127_111 : decode (tb_mb 127) 111 = .ok (.invokevirtual 235, 3) := by decide +kernel
theorem ck_127_111 : ∃ b, tb_cr (tb_oc 127) 235 = some (0, 125, b, 1) := ⟨_, rfl⟩
theorem dk_127_114 : decode (tb_mb 127) 114 = .ok (.goto (136), 3) := by decide +kernel
theorem dk_127_75 : decode (tb_mb 127) 75 = .ok (.aload_n 0, 1) := by decide +kernel
theorem dk_127_76 : decode (tb_mb 127) 76 = .ok (.lload 7, 2) := by decide +kernel
theorem dk_127_78 : decode (tb_mb 127) 78 = .ok (.lconst 0, 1) := by decide +kernel
theorem dk_127_79 : decode (tb_mb 127) 79 = .ok (.lcmp, 1) := by decide +kernel
theorem dk_127_80 : decode (tb_mb 127) 80 = .ok (.ifCond .ne (7), 3) := by decide +kernel
theorem dk_127_87 : decode (tb_mb 127) 87 = .ok (.iconst (0), 1) := by decide +kernel
theorem dk_127_88 : decode (tb_mb 127) 88 = .ok (.invokestatic 239, 3) := by decide +kernel
theorem ck_127_88 : ∃ b, tb_cr (tb_oc 127) 239 = some (1, 128, b, 1) := ⟨_, rfl⟩
theorem dk_127_91 : decode (tb_mb 127) 91 = .ok (.invokevirtual 235, 3) := by decide +kernel
theorem ck_127_91 : ∃ b, tb_cr (tb_oc 127) 235 = some (0, 125, b, 1) := ⟨_, rfl⟩
theorem dk_127_94 : decode (tb_mb 127) 94 = .ok (.goto (156), 3) := by decide +kernel
theorem dk_127_83 : decode (tb_mb 127) 83 = .ok (.iconst (1), 1) := by decide +kernel
theorem dk_127_84 : decode (tb_mb 127) 84 = .ok (.goto (4), 3) := by decide +kernel
theorem dk_127_51 : decode (tb_mb 127) 51 = .ok (.iload 4, 2) := by decide +kernel
theorem dk_127_53 : decode (tb_mb 127) 53 = .ok (.bipush (24), 2) := by decide +kernel
theorem dk_127_55 : decode (tb_mb 127) 55 = .ok (.if_icmp .ne (13), 3) := by decide +kernel
theorem dk_127_58 : decode (tb_mb 127) 58 = .ok (.aload_n 0, 1) := by decide +kernel
theorem dk_127_59 : decode (tb_mb 127) 59 = .ok (.lload 7, 2) := by decide +kernel
theorem dk_127_61 : decode (tb_mb 127) 61 = .ok (.lneg, 1) := by decide +kernel
theorem dk_127_62 : decode (tb_mb 127) 62 = .ok (.invokevirtual 235, 3) := by decide +kernel
theorem ck_127_62 : ∃ b, tb_cr (tb_oc 127) 235 = some (0, 125, b, 1) := ⟨_, rfl⟩
theorem dk_127_65 : decode (tb_mb 127) 65 = .ok (.goto (185), 3) := by decide +kernel
theorem dk_127_39 : decode (tb_mb 127) 39 = .ok (.iconst (1), 1) := by decide +kernel
theorem dk_127_40 : decode (tb_mb 127) 40 = .ok (.goto (4), 3) := by decide +kernel
def b_127_138 (x4 : Int32) (x7 : Int64) (I : dI) (J : dJ) : Option (dI × dJ) := (m_129 x4 x7 I J).bind (fun r10 => some (r10.1, r10.2))
theorem p_127_138 {Q : Nat → Option Nat} {D : Nat} (hD : 3 ≤ D) (x4 : Int32) (x7 : Int64) (I : dI) (J : dJ) (R : (dI × dJ)) (h : b_127_138 x4 x7 I J = some R) : Rn Q D 127 138 [(0, .ref 92), (4, .int x4), (7, .long x7)] [] I J (none) R.1 R.2 := by
  replace h : ((m_129 x4 x7 I J).bind (fun r10 => some (r10.1, r10.2))) = some R := h
  refine Rn.pu (st' := [.ref 92]) dk_127_138 L_127 rfl ?_
  refine Rn.pu (st' := [.int x4, .ref 92]) dk_127_139 L_127 rfl ?_
  refine Rn.pu (st' := [.long x7, .int x4, .ref 92]) dk_127_141 L_127 rfl ?_
  obtain ⟨r10, e11, h⟩ := bindS h
  refine Rn.cvV (p := 92) (As := [.int x4, .long x7]) (rest := []) dk_127_143 ck_127_143.choose_spec rfl sk_92 rfl (x_129 (Nat.le_trans (Nat.le_of_ble_eq_true rfl) hD) e11) ?_
  refine Rn.gt (t := 250) dk_127_146 rfl ?_
  cases h
  exact Rn.rv dk_127_250 R_127
def b_127_237 (x4 : Int32) (x5 : Int64) (x7 : Int64) (I : dI) (J : dJ) : Option (dI × dJ) := (m_131 x4 x5 x7 I J).bind (fun r18 => (m_125 r18 I J).bind (fun r20 => some (r20.1, r20.2)))
theorem p_127_237 {Q : Nat → Option Nat} {D : Nat} (hD : 3 ≤ D) (x4 : Int32) (x5 : Int64) (x7 : Int64) (I : dI) (J : dJ) (R : (dI × dJ)) (h : b_127_237 x4 x5 x7 I J = some R) : Rn Q D 127 237 [(0, .ref 92), (4, .int x4), (5, .long x5), (7, .long x7)] [] I J (none) R.1 R.2 := by
  replace h : ((m_131 x4 x5 x7 I J).bind (fun r18 => (m_125 r18 I J).bind (fun r20 => some (r20.1, r20.2)))) = some R := h
  refine Rn.pu (st' := [.ref 92]) dk_127_237 L_127 rfl ?_
  refine Rn.pu (st' := [.int x4, .ref 92]) dk_127_238 L_127 rfl ?_
  refine Rn.pu (st' := [.long x5, .int x4, .ref 92]) dk_127_240 L_127 rfl ?_
  refine Rn.pu (st' := [.long x7, .long x5, .int x4, .ref 92]) dk_127_242 L_127 rfl ?_
  obtain ⟨r18, e19, h⟩ := bindS h
  refine Rn.csJ (As := [.int x4, .long x5, .long x7]) (rest := [.ref 92]) dk_127_244 ck_127_244.choose_spec rfl (x_131 (Nat.le_trans (Nat.le_of_ble_eq_true rfl) hD) e19) ?_
  obtain ⟨r20, e21, h⟩ := bindS h
  refine Rn.cvV (p := 92) (As := [.long r18]) (rest := []) dk_127_247 ck_127_247.choose_spec rfl sk_92 rfl (x_125 (Nat.le_trans (Nat.le_of_ble_eq_true rfl) hD) e21) ?_
  cases h
  exact Rn.rv dk_127_250 R_127
def b_127_222 (x4 : Int32) (x5 : Int64) (x7 : Int64) (I : dI) (J : dJ) : Option (dI × dJ) := if ¬ (lg_cmp x7 0) = 0 then (b_127_237 x4 x5 x7 I J) else ((m_130 1 I J).bind (fun r18 => some (r18.1, r18.2)))
theorem p_127_222 {Q : Nat → Option Nat} {D : Nat} (hD : 3 ≤ D) (x4 : Int32) (x5 : Int64) (x7 : Int64) (I : dI) (J : dJ) (R : (dI × dJ)) (h : b_127_222 x4 x5 x7 I J = some R) : Rn Q D 127 222 [(0, .ref 92), (4, .int x4), (5, .long x5), (7, .long x7)] [] I J (none) R.1 R.2 := by
  replace h : (if ¬ (lg_cmp x7 0) = 0 then (b_127_237 x4 x5 x7 I J) else ((m_130 1 I J).bind (fun r18 => some (r18.1, r18.2)))) = some R := h
  refine Rn.pu (st' := [.long x7]) dk_127_222 L_127 rfl ?_
  refine Rn.lc dk_127_224 clc_0 ?_
  refine Rn.pu (st' := [.int (lg_cmp x7 0)]) dk_127_225 L_127 rfl ?_
  by_cases c17 : ¬ (lg_cmp x7 0) = 0
  · rw [if_pos c17] at h
    refine Rn.i1t (t := 237) dk_127_226 rfl (decide_eq_true c17) ?_
    exact Rn.wk [0, 1, 2, 3] rfl (p_127_237 hD _ _ _ _ _ _ h)
  · rw [if_neg c17] at h
    refine Rn.i1f (t := 237) dk_127_226 rfl (decide_eq_false c17) ?_
    refine Rn.pu (st' := [.ref 92]) dk_127_229 L_127 rfl ?_
    refine Rn.ic dk_127_230 cic_1 ?_
    obtain ⟨r18, e19, h⟩ := bindS h
    refine Rn.cvV (p := 92) (As := [.int 1]) (rest := []) dk_127_231 ck_127_231.choose_spec rfl sk_92 rfl (x_130 (Nat.le_trans (Nat.le_of_ble_eq_true rfl) hD) e19) ?_
    refine Rn.gt (t := 250) dk_127_234 rfl ?_
    cases h
    exact Rn.rv dk_127_250 R_127
def b_127_199 (s0 : Int32) (I : dI) (J : dJ) : Option (dI × dJ) := (m_128 s0 I J).bind (fun r23 => (m_125 r23 I J).bind (fun r25 => some (r25.1, r25.2)))
theorem p_127_199 {Q : Nat → Option Nat} {D : Nat} (hD : 3 ≤ D) (s0 : Int32) (I : dI) (J : dJ) (R : (dI × dJ)) (h : b_127_199 s0 I J = some R) : Rn Q D 127 199 [] [.int s0, .ref 92] I J (none) R.1 R.2 := by
  replace h : ((m_128 s0 I J).bind (fun r23 => (m_125 r23 I J).bind (fun r25 => some (r25.1, r25.2)))) = some R := h
  obtain ⟨r23, e24, h⟩ := bindS h
  refine Rn.csJ (As := [.int s0]) (rest := [.ref 92]) dk_127_199 ck_127_199.choose_spec rfl (x_128 (Nat.le_trans (Nat.le_of_ble_eq_true rfl) hD) e24) ?_
  obtain ⟨r25, e26, h⟩ := bindS h
  refine Rn.cvV (p := 92) (As := [.long r23]) (rest := []) dk_127_202 ck_127_202.choose_spec rfl sk_92 rfl (x_125 (Nat.le_trans (Nat.le_of_ble_eq_true rfl) hD) e26) ?_
  refine Rn.gt (t := 250) dk_127_205 rfl ?_
  cases h
  exact Rn.rv dk_127_250 R_127
def b_127_198 (I : dI) (J : dJ) : Option (dI × dJ) := b_127_199 0 I J
theorem p_127_198 {Q : Nat → Option Nat} {D : Nat} (hD : 3 ≤ D) (I : dI) (J : dJ) (R : (dI × dJ)) (h : b_127_198 I J = some R) : Rn Q D 127 198 [] [.ref 92] I J (none) R.1 R.2 := by
  replace h : (b_127_199 0 I J) = some R := h
  refine Rn.ic dk_127_198 cic_0 ?_
  exact Rn.wk [] rfl (p_127_199 hD _ _ _ _ h)
def b_127_88 (s0 : Int32) (I : dI) (J : dJ) : Option (dI × dJ) := (m_128 s0 I J).bind (fun r30 => (m_125 r30 I J).bind (fun r32 => some (r32.1, r32.2)))
theorem p_127_88 {Q : Nat → Option Nat} {D : Nat} (hD : 3 ≤ D) (s0 : Int32) (I : dI) (J : dJ) (R : (dI × dJ)) (h : b_127_88 s0 I J = some R) : Rn Q D 127 88 [] [.int s0, .ref 92] I J (none) R.1 R.2 := by
  replace h : ((m_128 s0 I J).bind (fun r30 => (m_125 r30 I J).bind (fun r32 => some (r32.1, r32.2)))) = some R := h
  obtain ⟨r30, e31, h⟩ := bindS h
  refine Rn.csJ (As := [.int s0]) (rest := [.ref 92]) dk_127_88 ck_127_88.choose_spec rfl (x_128 (Nat.le_trans (Nat.le_of_ble_eq_true rfl) hD) e31) ?_
  obtain ⟨r32, e33, h⟩ := bindS h
  refine Rn.cvV (p := 92) (As := [.long r30]) (rest := []) dk_127_91 ck_127_91.choose_spec rfl sk_92 rfl (x_125 (Nat.le_trans (Nat.le_of_ble_eq_true rfl) hD) e33) ?_
  refine Rn.gt (t := 250) dk_127_94 rfl ?_
  cases h
  exact Rn.rv dk_127_250 R_127
def b_127_68 (x1 : Int32) (x3 : Int32) (x4 : Int32) (x5 : Int64) (x7 : Int64) (I : dI) (J : dJ) : Option (dI × dJ) := if ¬ x4 = 28 then (if ¬ x4 = 29 then (if x4 = 32 then (b_127_138 x4 x7 I J) else (if x4 = 6 then (b_127_138 x4 x7 I J) else (if ¬ x4 = 7 then (if ¬ x4 = 8 then (if ¬ x4 = 9 then (if x4 = 26 then (b_127_222 x4 x5 x7 I J) else (if ¬ x4 = 27 then (b_127_237 x4 x5 x7 I J) else (b_127_222 x4 x5 x7 I J))) else (if ¬ (x1 < 0 ∨ 8 ≤ Int32.toNatClampNeg x1) then (if (I 97 (Int32.toNatClampNeg x1)) = 0 then (b_127_198 I J) else (if ¬ (x3 < 0 ∨ 960 ≤ Int32.toNatClampNeg x3) then (if (lg_cmp x7 (J 108 (Int32.toNatClampNeg x3))) = 0 then (b_127_198 I J) else (b_127_199 1 I J)) else none)) else none)) else ((m_125 x7 I J).bind (fun r20 => some (r20.1, r20.2)))) else (b_127_138 x4 x7 I J)))) else ((m_125 (x7 ^^^ (-1)) I J).bind (fun r22 => some (r22.1, r22.2)))) else (if ¬ (lg_cmp x7 0) = 0 then (b_127_88 0 I J) else (b_127_88 1 I J))
theorem p_127_68 {Q : Nat → Option Nat} {D : Nat} (hD : 3 ≤ D) (x1 : Int32) (x3 : Int32) (x4 : Int32) (x5 : Int64) (x7 : Int64) (I : dI) (J : dJ) (R : (dI × dJ)) (h : b_127_68 x1 x3 x4 x5 x7 I J = some R) : Rn Q D 127 68 [(0, .ref 92), (1, .int x1), (3, .int x3), (4, .int x4), (5, .long x5), (7, .long x7)] [] I J (none) R.1 R.2 := by
  replace h : (if ¬ x4 = 28 then (if ¬ x4 = 29 then (if x4 = 32 then (b_127_138 x4 x7 I J) else (if x4 = 6 then (b_127_138 x4 x7 I J) else (if ¬ x4 = 7 then (if ¬ x4 = 8 then (if ¬ x4 = 9 then (if x4 = 26 then (b_127_222 x4 x5 x7 I J) else (if ¬ x4 = 27 then (b_127_237 x4 x5 x7 I J) else (b_127_222 x4 x5 x7 I J))) else (if ¬ (x1 < 0 ∨ 8 ≤ Int32.toNatClampNeg x1) then (if (I 97 (Int32.toNatClampNeg x1)) = 0 then (b_127_198 I J) else (if ¬ (x3 < 0 ∨ 960 ≤ Int32.toNatClampNeg x3) then (if (lg_cmp x7 (J 108 (Int32.toNatClampNeg x3))) = 0 then (b_127_198 I J) else (b_127_199 1 I J)) else none)) else none)) else ((m_125 x7 I J).bind (fun r20 => some (r20.1, r20.2)))) else (b_127_138 x4 x7 I J)))) else ((m_125 (x7 ^^^ (-1)) I J).bind (fun r22 => some (r22.1, r22.2)))) else (if ¬ (lg_cmp x7 0) = 0 then (b_127_88 0 I J) else (b_127_88 1 I J))) = some R := h
  refine Rn.pu (st' := [.int x4]) dk_127_68 L_127 rfl ?_
  refine Rn.bp dk_127_70 cbp_28 ?_
  by_cases c7 : ¬ x4 = 28
  · rw [if_pos c7] at h
    refine Rn.i2t (t := 97) dk_127_72 rfl (decide_eq_true c7) ?_
    refine Rn.pu (st' := [.int x4]) dk_127_97 L_127 rfl ?_
    refine Rn.bp dk_127_99 cbp_29 ?_
    by_cases c8 : ¬ x4 = 29
    · rw [if_pos c8] at h
      refine Rn.i2t (t := 117) dk_127_101 rfl (decide_eq_true c8) ?_
      refine Rn.pu (st' := [.int x4]) dk_127_117 L_127 rfl ?_
      refine Rn.bp dk_127_119 cbp_32 ?_
      by_cases c9 : x4 = 32
      · rw [if_pos c9] at h
        refine Rn.i2t (t := 138) dk_127_121 rfl (decide_eq_true c9) ?_
        exact Rn.wk [0, 3, 5] rfl (p_127_138 hD _ _ _ _ _ h)
      · rw [if_neg c9] at h
        refine Rn.i2f (t := 138) dk_127_121 rfl (decide_eq_false c9) ?_
        refine Rn.pu (st' := [.int x4]) dk_127_124 L_127 rfl ?_
        refine Rn.bp dk_127_126 cbp_6 ?_
        by_cases c10 : x4 = 6
        · rw [if_pos c10] at h
          refine Rn.i2t (t := 138) dk_127_128 rfl (decide_eq_true c10) ?_
          exact Rn.wk [0, 3, 5] rfl (p_127_138 hD _ _ _ _ _ h)
        · rw [if_neg c10] at h
          refine Rn.i2f (t := 138) dk_127_128 rfl (decide_eq_false c10) ?_
          refine Rn.pu (st' := [.int x4]) dk_127_131 L_127 rfl ?_
          refine Rn.bp dk_127_133 cbp_7 ?_
          by_cases c11 : ¬ x4 = 7
          · rw [if_pos c11] at h
            refine Rn.i2t (t := 149) dk_127_135 rfl (decide_eq_true c11) ?_
            refine Rn.pu (st' := [.int x4]) dk_127_149 L_127 rfl ?_
            refine Rn.bp dk_127_151 cbp_8 ?_
            by_cases c12 : ¬ x4 = 8
            · rw [if_pos c12] at h
              refine Rn.i2t (t := 165) dk_127_153 rfl (decide_eq_true c12) ?_
              refine Rn.pu (st' := [.int x4]) dk_127_165 L_127 rfl ?_
              refine Rn.bp dk_127_167 cbp_9 ?_
              by_cases c13 : ¬ x4 = 9
              · rw [if_pos c13] at h
                refine Rn.i2t (t := 208) dk_127_169 rfl (decide_eq_true c13) ?_
                refine Rn.pu (st' := [.int x4]) dk_127_208 L_127 rfl ?_
                refine Rn.bp dk_127_210 cbp_26 ?_
                by_cases c14 : x4 = 26
                · rw [if_pos c14] at h
                  refine Rn.i2t (t := 222) dk_127_212 rfl (decide_eq_true c14) ?_
                  exact Rn.wk [0, 3, 4, 5] rfl (p_127_222 hD _ _ _ _ _ _ h)
                · rw [if_neg c14] at h
                  refine Rn.i2f (t := 222) dk_127_212 rfl (decide_eq_false c14) ?_
                  refine Rn.pu (st' := [.int x4]) dk_127_215 L_127 rfl ?_
                  refine Rn.bp dk_127_217 cbp_27 ?_
                  by_cases c15 : ¬ x4 = 27
                  · rw [if_pos c15] at h
                    refine Rn.i2t (t := 237) dk_127_219 rfl (decide_eq_true c15) ?_
                    exact Rn.wk [0, 3, 4, 5] rfl (p_127_237 hD _ _ _ _ _ _ h)
                  · rw [if_neg c15] at h
                    refine Rn.i2f (t := 237) dk_127_219 rfl (decide_eq_false c15) ?_
                    exact Rn.wk [0, 3, 4, 5] rfl (p_127_222 hD _ _ _ _ _ _ h)
              · rw [if_neg c13] at h
                refine Rn.i2f (t := 208) dk_127_169 rfl (decide_eq_false c13) ?_
                refine Rn.pu (st' := [.ref 92]) dk_127_172 L_127 rfl ?_
                refine Rn.pu (st' := [.ref 92, .ref 92]) dk_127_173 L_127 rfl ?_
                refine Rn.gR (r := 97) dk_127_174 f_127_174.choose_spec sk_92 rfl ?_
                refine Rn.pu (st' := [.int x1, .ref 97, .ref 92]) dk_127_177 L_127 rfl ?_
                obtain ⟨c16, h⟩ := xm_if h
                refine Rn.bald dk_127_178 sk_97 c16 ?_
                by_cases c17 : (I 97 (Int32.toNatClampNeg x1)) = 0
                · rw [if_pos c17] at h
                  refine Rn.i1t (t := 198) dk_127_179 rfl (decide_eq_true c17) ?_
                  exact Rn.wk [] rfl (p_127_198 hD _ _ _ h)
                · rw [if_neg c17] at h
                  refine Rn.i1f (t := 198) dk_127_179 rfl (decide_eq_false c17) ?_
                  refine Rn.pu (st' := [.long x7, .ref 92]) dk_127_182 L_127 rfl ?_
                  refine Rn.pu (st' := [.ref 92, .long x7, .ref 92]) dk_127_184 L_127 rfl ?_
                  refine Rn.gR (r := 108) dk_127_185 f_127_185.choose_spec sk_92 rfl ?_
                  refine Rn.pu (st' := [.int x3, .ref 108, .long x7, .ref 92]) dk_127_188 L_127 rfl ?_
                  obtain ⟨c18, h⟩ := xm_if h
                  refine Rn.lald dk_127_189 sk_108 c18 ?_
                  refine Rn.pu (st' := [.int (lg_cmp x7 (J 108 (Int32.toNatClampNeg x3))), .ref 92]) dk_127_190 L_127 rfl ?_
                  by_cases c19 : (lg_cmp x7 (J 108 (Int32.toNatClampNeg x3))) = 0
                  · rw [if_pos c19] at h
                    refine Rn.i1t (t := 198) dk_127_191 rfl (decide_eq_true c19) ?_
                    exact Rn.wk [] rfl (p_127_198 hD _ _ _ h)
                  · rw [if_neg c19] at h
                    refine Rn.i1f (t := 198) dk_127_191 rfl (decide_eq_false c19) ?_
                    refine Rn.ic dk_127_194 cic_1 ?_
                    refine Rn.gt (t := 199) dk_127_195 rfl ?_
                    exact Rn.wk [] rfl (p_127_199 hD _ _ _ _ h)
            · rw [if_neg c12] at h
              refine Rn.i2f (t := 165) dk_127_153 rfl (decide_eq_false c12) ?_
              refine Rn.pu (st' := [.ref 92]) dk_127_156 L_127 rfl ?_
              refine Rn.pu (st' := [.long x7, .ref 92]) dk_127_157 L_127 rfl ?_
              obtain ⟨r20, e21, h⟩ := bindS h
              refine Rn.cvV (p := 92) (As := [.long x7]) (rest := []) dk_127_159 ck_127_159.choose_spec rfl sk_92 rfl (x_125 (Nat.le_trans (Nat.le_of_ble_eq_true rfl) hD) e21) ?_
              refine Rn.gt (t := 250) dk_127_162 rfl ?_
              cases h
              exact Rn.rv dk_127_250 R_127
          · rw [if_neg c11] at h
            refine Rn.i2f (t := 149) dk_127_135 rfl (decide_eq_false c11) ?_
            exact Rn.wk [0, 3, 5] rfl (p_127_138 hD _ _ _ _ _ h)
    · rw [if_neg c8] at h
      refine Rn.i2f (t := 117) dk_127_101 rfl (decide_eq_false c8) ?_
      refine Rn.pu (st' := [.ref 92]) dk_127_104 L_127 rfl ?_
      refine Rn.pu (st' := [.long x7, .ref 92]) dk_127_105 L_127 rfl ?_
      refine Rn.ldl dk_127_107 kl_127_107 ?_
      refine Rn.pu (st' := [.long (x7 ^^^ (-1)), .ref 92]) dk_127_110 L_127 rfl ?_
      obtain ⟨r22, e23, h⟩ := bindS h
      refine Rn.cvV (p := 92) (As := [.long (x7 ^^^ (-1))]) (rest := []) dk_127_111 ck_127_111.choose_spec rfl sk_92 rfl (x_125 (Nat.le_trans (Nat.le_of_ble_eq_true rfl) hD) e23) ?_
      refine Rn.gt (t := 250) dk_127_114 rfl ?_
      cases h
      exact Rn.rv dk_127_250 R_127
  · rw [if_neg c7] at h
    refine Rn.i2f (t := 97) dk_127_72 rfl (decide_eq_false c7) ?_
    refine Rn.pu (st' := [.ref 92]) dk_127_75 L_127 rfl ?_
    refine Rn.pu (st' := [.long x7, .ref 92]) dk_127_76 L_127 rfl ?_
    refine Rn.lc dk_127_78 clc_0 ?_
    refine Rn.pu (st' := [.int (lg_cmp x7 0), .ref 92]) dk_127_79 L_127 rfl ?_
    by_cases c24 : ¬ (lg_cmp x7 0) = 0
    · rw [if_pos c24] at h
      refine Rn.i1t (t := 87) dk_127_80 rfl (decide_eq_true c24) ?_
      refine Rn.ic dk_127_87 cic_0 ?_
      exact Rn.wk [] rfl (p_127_88 hD _ _ _ _ h)
    · rw [if_neg c24] at h
      refine Rn.i1f (t := 87) dk_127_80 rfl (decide_eq_false c24) ?_
      refine Rn.ic dk_127_83 cic_1 ?_
      refine Rn.gt (t := 88) dk_127_84 rfl ?_
      exact Rn.wk [] rfl (p_127_88 hD _ _ _ _ h)
def b_127_44 (x1 : Int32) (x3 : Int32) (x4 : Int32) (x5 : Int64) (x7 : Int64) (s0 : Int32) (I : dI) (J : dJ) : Option (dI × dJ) := if s0 = 0 then (b_127_68 x1 x3 x4 x5 x7 I J) else (if ¬ x4 = 24 then (b_127_68 x1 x3 x4 x5 x7 I J) else ((m_125 (-x7) I J).bind (fun r8 => some (r8.1, r8.2))))
theorem p_127_44 {Q : Nat → Option Nat} {D : Nat} (hD : 3 ≤ D) (x1 : Int32) (x3 : Int32) (x4 : Int32) (x5 : Int64) (x7 : Int64) (s0 : Int32) (I : dI) (J : dJ) (R : (dI × dJ)) (h : b_127_44 x1 x3 x4 x5 x7 s0 I J = some R) : Rn Q D 127 44 [(0, .ref 92), (1, .int x1), (3, .int x3), (4, .int x4), (5, .long x5), (7, .long x7)] [.int s0] I J (none) R.1 R.2 := by
  replace h : (if s0 = 0 then (b_127_68 x1 x3 x4 x5 x7 I J) else (if ¬ x4 = 24 then (b_127_68 x1 x3 x4 x5 x7 I J) else ((m_125 (-x7) I J).bind (fun r8 => some (r8.1, r8.2))))) = some R := h
  refine Rn.pu (ls' := [(9, .int s0), (0, .ref 92), (1, .int x1), (3, .int x3), (4, .int x4), (5, .long x5), (7, .long x7)]) (st' := []) dk_127_44 L_127 rfl ?_
  refine Rn.pu (st' := [.int s0]) dk_127_46 L_127 rfl ?_
  by_cases c6 : s0 = 0
  · rw [if_pos c6] at h
    refine Rn.i1t (t := 68) dk_127_48 rfl (decide_eq_true c6) ?_
    exact Rn.wk [1, 2, 3, 4, 5, 6] rfl (p_127_68 hD _ _ _ _ _ _ _ _ h)
  · rw [if_neg c6] at h
    refine Rn.i1f (t := 68) dk_127_48 rfl (decide_eq_false c6) ?_
    refine Rn.pu (st' := [.int x4]) dk_127_51 L_127 rfl ?_
    refine Rn.bp dk_127_53 cbp_24 ?_
    by_cases c7 : ¬ x4 = 24
    · rw [if_pos c7] at h
      refine Rn.i2t (t := 68) dk_127_55 rfl (decide_eq_true c7) ?_
      exact Rn.wk [1, 2, 3, 4, 5, 6] rfl (p_127_68 hD _ _ _ _ _ _ _ _ h)
    · rw [if_neg c7] at h
      refine Rn.i2f (t := 68) dk_127_55 rfl (decide_eq_false c7) ?_
      refine Rn.pu (st' := [.ref 92]) dk_127_58 L_127 rfl ?_
      refine Rn.pu (st' := [.long x7, .ref 92]) dk_127_59 L_127 rfl ?_
      refine Rn.pu (st' := [.long (-x7), .ref 92]) dk_127_61 L_127 rfl ?_
      obtain ⟨r8, e9, h⟩ := bindS h
      refine Rn.cvV (p := 92) (As := [.long (-x7)]) (rest := []) dk_127_62 ck_127_62.choose_spec rfl sk_92 rfl (x_125 (Nat.le_trans (Nat.le_of_ble_eq_true rfl) hD) e9) ?_
      refine Rn.gt (t := 250) dk_127_65 rfl ?_
      cases h
      exact Rn.rv dk_127_250 R_127
def b_127_0 (x1 : Int32) (x2 : Int32) (I : dI) (J : dJ) : Option (dI × dJ) := if ¬ (x2 < 0 ∨ 130 ≤ Int32.toNatClampNeg x2) then (if ¬ ((I 116 (Int32.toNatClampNeg x2)) < 0 ∨ 960 ≤ Int32.toNatClampNeg (I 116 (Int32.toNatClampNeg x2))) then (if ¬ (x2 < 0 ∨ 130 ≤ Int32.toNatClampNeg x2) then (if ¬ (x2 < 0 ∨ 130 ≤ Int32.toNatClampNeg x2) then (if ¬ (I 116 (Int32.toNatClampNeg x2)) = (I 114 (Int32.toNatClampNeg x2)) then (b_127_44 x1 (I 116 (Int32.toNatClampNeg x2)) (I 105 (Int32.toNatClampNeg (I 116 (Int32.toNatClampNeg x2)))) (J 118 (Int32.toNatClampNeg x2)) (J 92 35) 0 I J) else (b_127_44 x1 (I 116 (Int32.toNatClampNeg x2)) (I 105 (Int32.toNatClampNeg (I 116 (Int32.toNatClampNeg x2)))) (J 118 (Int32.toNatClampNeg x2)) (J 92 35) 1 I J)) else none) else none) else none) else none
theorem p_127_0 {Q : Nat → Option Nat} {D : Nat} (hD : 3 ≤ D) (x1 : Int32) (x2 : Int32) (I : dI) (J : dJ) (R : (dI × dJ)) (h : b_127_0 x1 x2 I J = some R) : Rn Q D 127 0 [(0, .ref 92), (1, .int x1), (2, .int x2)] [] I J (none) R.1 R.2 := by
  replace h : (if ¬ (x2 < 0 ∨ 130 ≤ Int32.toNatClampNeg x2) then (if ¬ ((I 116 (Int32.toNatClampNeg x2)) < 0 ∨ 960 ≤ Int32.toNatClampNeg (I 116 (Int32.toNatClampNeg x2))) then (if ¬ (x2 < 0 ∨ 130 ≤ Int32.toNatClampNeg x2) then (if ¬ (x2 < 0 ∨ 130 ≤ Int32.toNatClampNeg x2) then (if ¬ (I 116 (Int32.toNatClampNeg x2)) = (I 114 (Int32.toNatClampNeg x2)) then (b_127_44 x1 (I 116 (Int32.toNatClampNeg x2)) (I 105 (Int32.toNatClampNeg (I 116 (Int32.toNatClampNeg x2)))) (J 118 (Int32.toNatClampNeg x2)) (J 92 35) 0 I J) else (b_127_44 x1 (I 116 (Int32.toNatClampNeg x2)) (I 105 (Int32.toNatClampNeg (I 116 (Int32.toNatClampNeg x2)))) (J 118 (Int32.toNatClampNeg x2)) (J 92 35) 1 I J)) else none) else none) else none) else none) = some R := h
  refine Rn.pu (st' := [.ref 92]) dk_127_0 L_127 rfl ?_
  refine Rn.gR (r := 116) dk_127_1 f_127_1.choose_spec sk_92 rfl ?_
  refine Rn.pu (st' := [.int x2, .ref 116]) dk_127_4 L_127 rfl ?_
  obtain ⟨c1, h⟩ := xm_if h
  refine Rn.iald dk_127_5 sk_116 c1 ?_
  refine Rn.pu (ls' := [(3, .int (I 116 (Int32.toNatClampNeg x2))), (0, .ref 92), (1, .int x1), (2, .int x2)]) (st' := []) dk_127_6 L_127 rfl ?_
  refine Rn.pu (st' := [.ref 92]) dk_127_7 L_127 rfl ?_
  refine Rn.gR (r := 105) dk_127_8 f_127_8.choose_spec sk_92 rfl ?_
  refine Rn.pu (st' := [.int (I 116 (Int32.toNatClampNeg x2)), .ref 105]) dk_127_11 L_127 rfl ?_
  obtain ⟨c2, h⟩ := xm_if h
  refine Rn.iald dk_127_12 sk_105 c2 ?_
  refine Rn.pu (ls' := [(4, .int (I 105 (Int32.toNatClampNeg (I 116 (Int32.toNatClampNeg x2))))), (3, .int (I 116 (Int32.toNatClampNeg x2))), (0, .ref 92), (1, .int x1), (2, .int x2)]) (st' := []) dk_127_13 L_127 rfl ?_
  refine Rn.pu (st' := [.ref 92]) dk_127_15 L_127 rfl ?_
  refine Rn.gR (r := 118) dk_127_16 f_127_16.choose_spec sk_92 rfl ?_
  refine Rn.pu (st' := [.int x2, .ref 118]) dk_127_19 L_127 rfl ?_
  obtain ⟨c3, h⟩ := xm_if h
  refine Rn.lald dk_127_20 sk_118 c3 ?_
  refine Rn.pu (ls' := [(5, .long (J 118 (Int32.toNatClampNeg x2))), (4, .int (I 105 (Int32.toNatClampNeg (I 116 (Int32.toNatClampNeg x2))))), (3, .int (I 116 (Int32.toNatClampNeg x2))), (0, .ref 92), (1, .int x1), (2, .int x2)]) (st' := []) dk_127_21 L_127 rfl ?_
  refine Rn.pu (st' := [.ref 92]) dk_127_23 L_127 rfl ?_
  refine Rn.gJ dk_127_24 f_127_24.choose_spec sk_92 rfl ?_
  refine Rn.pu (ls' := [(7, .long (J 92 35)), (5, .long (J 118 (Int32.toNatClampNeg x2))), (4, .int (I 105 (Int32.toNatClampNeg (I 116 (Int32.toNatClampNeg x2))))), (3, .int (I 116 (Int32.toNatClampNeg x2))), (0, .ref 92), (1, .int x1), (2, .int x2)]) (st' := []) dk_127_27 L_127 rfl ?_
  refine Rn.pu (st' := [.int (I 116 (Int32.toNatClampNeg x2))]) dk_127_29 L_127 rfl ?_
  refine Rn.pu (st' := [.ref 92, .int (I 116 (Int32.toNatClampNeg x2))]) dk_127_30 L_127 rfl ?_
  refine Rn.gR (r := 114) dk_127_31 f_127_31.choose_spec sk_92 rfl ?_
  refine Rn.pu (st' := [.int x2, .ref 114, .int (I 116 (Int32.toNatClampNeg x2))]) dk_127_34 L_127 rfl ?_
  obtain ⟨c4, h⟩ := xm_if h
  refine Rn.iald dk_127_35 sk_114 c4 ?_
  by_cases c5 : ¬ (I 116 (Int32.toNatClampNeg x2)) = (I 114 (Int32.toNatClampNeg x2))
  · rw [if_pos c5] at h
    refine Rn.i2t (t := 43) dk_127_36 rfl (decide_eq_true c5) ?_
    refine Rn.ic dk_127_43 cic_0 ?_
    exact Rn.wk [4, 5, 3, 2, 1, 0] rfl (p_127_44 hD _ _ _ _ _ _ _ _ _ h)
  · rw [if_neg c5] at h
    refine Rn.i2f (t := 43) dk_127_36 rfl (decide_eq_false c5) ?_
    refine Rn.ic dk_127_39 cic_1 ?_
    refine Rn.gt (t := 44) dk_127_40 rfl ?_
    exact Rn.wk [4, 5, 3, 2, 1, 0] rfl (p_127_44 hD _ _ _ _ _ _ _ _ _ h)
def m_127 (x1 : Int32) (x2 : Int32) (I : dI) (J : dJ) : Option (dI × dJ) := b_127_0 x1 x2 I J
theorem x_127 {Q : Nat → Option Nat} {D : Nat} (hD : 4 ≤ D) {x1 : Int32} {x2 : Int32} {I : dI} {J : dJ} {R : (dI × dJ)} (h : m_127 x1 x2 I J = some R) : Ex Q D 127 I J [.ref 92, .int x1, .int x2] (none) R.1 R.2 := by
  obtain ⟨D, rfl⟩ : ∃ D', D = D' + 1 := ⟨D - 1, by omega⟩
  exact Ex.of (by decide) (by rw [L_127]; exact Nat.le_of_ble_eq_true rfl) (show xm_sub [(0, .ref 92), (1, .int x1), (2, .int x2)] [(0, .ref 92), (1, .int x1), (2, .int x2)] from xm_sub_of [0, 1, 2] [0, 1, 2] rfl rfl (by decide)) (p_127_0 (Nat.le_of_succ_le_succ hD) _ _ _ _ _ h)
