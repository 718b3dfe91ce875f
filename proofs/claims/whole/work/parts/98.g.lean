/-! Printed by wip/whole/gen_law.py: the cases of the law. -/
section LYA
variable {Q : Nat → Option Nat} {I I1 : dI} {J J1 : dJ}
theorem y_9 {x : Int32} {r : Int32} (h : m_9 x I J = some (r, I1, J1)) : Ex Q 3 9 I J [.ref 0, .int x] (some (.int r)) I1 J1 := x_9 (R := (r, I1, J1)) (Nat.le_refl _) h
theorem y_11 {x : Int64} (h : m_11 x I J = some (I1, J1)) : Ex Q 2 11 I J [.ref 0, .long x] none I1 J1 := x_11 (R := (I1, J1)) (Nat.le_refl _) h
theorem y_12 {r : Int32} (hQ : ∀ j, j < 8 → Q j = some (20 + 9 * j)) (h : m_12  I J = some (r, I1, J1)) : Ex Q 129 12 I J [.ref 0] (some (.int r)) I1 J1 := x_12 (R := (r, I1, J1)) (Nat.le_refl _) hQ h
theorem y_37 {x : Int32} {r : Int64} (hQ : ∀ j, j < 8 → Q j = some (20 + 9 * j)) (h : m_37 x I J = some r) : Ex Q 3 37 I J [.ref 0, .int x] (some (.long r)) I J := x_37 (R := r) (Nat.le_refl _) hQ h
theorem y_95 : Ex Q 2 95 I J [.ref 92] (some (.int (I 92 0))) I J := x_95 (R := I 92 0) (Nat.le_refl _) rfl
theorem y_96 {x : Int32} {r : Int32} (h : m_96 x I J = some (r, I1, J1)) : Ex Q 2 96 I J [.ref 92, .int x] (some (.int r)) I1 J1 := x_96 (R := (r, I1, J1)) (Nat.le_refl _) h
theorem y_97 {x : Int32} {r : Int32} (h : m_97 x I J = some (r, I1, J1)) : Ex Q 6 97 I J [.ref 92, .int x] (some (.int r)) I1 J1 := x_97 (R := (r, I1, J1)) (Nat.le_refl _) h
theorem y_113 {x : Int32} {r : Int32} (h : m_113 x I J = some (r, I1, J1)) : Ex Q 3 113 I J [.ref 92, .int x] (some (.int r)) I1 J1 := x_113 (R := (r, I1, J1)) (Nat.le_refl _) h
theorem y_114 {x : Int32} {y : Int32} (h : m_114 x y I J = some (I1, J1)) : Ex Q 3 114 I J [.ref 92, .int x, .int y] none I1 J1 := x_114 (R := (I1, J1)) (Nat.le_refl _) h
theorem y_115 {x : Int64} (h : m_115 x I J = some (I1, J1)) : Ex Q 2 115 I J [.ref 92, .long x] none I1 J1 := x_115 (R := (I1, J1)) (Nat.le_refl _) h
theorem y_116 {x : Int32} {y : Int32} (h : m_116 x y I J = some (I1, J1)) : Ex Q 3 116 I J [.ref 92, .int x, .int y] none I1 J1 := x_116 (R := (I1, J1)) (Nat.le_refl _) h
theorem y_117 {x : Int32} {y : Int32} {r : Int32} (h : m_117 x y I J = some (r, I1, J1)) : Ex Q 3 117 I J [.ref 92, .int x, .int y] (some (.int r)) I1 J1 := x_117 (R := (r, I1, J1)) (Nat.le_refl _) h
theorem y_118 {x : Int32} {r : Int32} (h : m_118 x I J = some (r, I1, J1)) : Ex Q 8 118 I J [.ref 92, .int x] (some (.int r)) I1 J1 := x_118 (R := (r, I1, J1)) (Nat.le_refl _) h
theorem y_133 {r : Int32} (h : m_133  I J = some (r, I1, J1)) : Ex Q 8 133 I J [.ref 92] (some (.int r)) I1 J1 := x_133 (R := (r, I1, J1)) (Nat.le_refl _) h
theorem y_134 {x : Int32} {y : Int32} {r : Int64} (h : m_134 x y I J = some (r, I1, J1)) : Ex Q 3 134 I J [.ref 92, .int x, .int y] (some (.long r)) I1 J1 := x_134 (R := (r, I1, J1)) (Nat.le_refl _) h
theorem y_135 {x : Int32} {r : Int64} (h : m_135 x I J = some (r, I1, J1)) : Ex Q 2 135 I J [.ref 92, .int x] (some (.long r)) I1 J1 := x_135 (R := (r, I1, J1)) (Nat.le_refl _) h
end LYA
theorem lc_43 : ∃ b, tb_cr 10 43 = some (0, 9, b, 1) := ⟨_, rfl⟩
theorem lc_47 : ∃ b, tb_cr 10 47 = some (0, 96, b, 1) := ⟨_, rfl⟩
theorem lc_53 : ∃ b, tb_cr 10 53 = some (0, 97, b, 1) := ⟨_, rfl⟩
theorem lc_54 : ∃ b, tb_cr 10 54 = some (0, 95, b, 0) := ⟨_, rfl⟩
theorem lc_60 : ∃ b, tb_cr 10 60 = some (0, 113, b, 1) := ⟨_, rfl⟩
theorem lc_64 : ∃ b, tb_cr 10 64 = some (0, 114, b, 2) := ⟨_, rfl⟩
theorem lc_67 : ∃ b, tb_cr 10 67 = some (0, 11, b, 1) := ⟨_, rfl⟩
theorem lc_71 : ∃ b, tb_cr 10 71 = some (0, 115, b, 1) := ⟨_, rfl⟩
theorem lc_74 : ∃ b, tb_cr 10 74 = some (0, 116, b, 2) := ⟨_, rfl⟩
theorem lc_78 : ∃ b, tb_cr 10 78 = some (0, 117, b, 2) := ⟨_, rfl⟩
theorem lc_81 : ∃ b, tb_cr 10 81 = some (0, 118, b, 1) := ⟨_, rfl⟩
theorem lc_82 : ∃ b, tb_cr 10 82 = some (0, 12, b, 0) := ⟨_, rfl⟩
theorem lc_85 : ∃ b, tb_cr 10 85 = some (0, 133, b, 0) := ⟨_, rfl⟩
theorem lc_88 : ∃ b, tb_cr 10 88 = some (0, 134, b, 2) := ⟨_, rfl⟩
theorem lc_89 : ∃ b, tb_cr 10 89 = some (0, 37, b, 1) := ⟨_, rfl⟩
theorem lc_93 : ∃ b, tb_cr 10 93 = some (0, 135, b, 1) := ⟨_, rfl⟩
theorem lh_48 : tb_cr 10 48 = none := by decide +kernel
theorem lh_58 : tb_cr 10 58 = none := by decide +kernel
theorem lh_61 : tb_cr 10 61 = none := by decide +kernel
theorem lh_72 : tb_cr 10 72 = none := by decide +kernel
theorem lh_75 : tb_cr 10 75 = none := by decide +kernel
theorem lh_79 : tb_cr 10 79 = none := by decide +kernel
theorem lh_86 : tb_cr 10 86 = none := by decide +kernel
section LKA
variable {d i N L : Nat} {xs : Nat → Int32} {Q : Nat → Option Nat} {R : dI → dJ → Option Value → Prop} {C S : Nat} {I : dI} {J : dJ}
theorem lk_type (hd : 129 ≤ d + 1) (hQ : ∀ j, j < 8 → Q j = some (20 + 9 * j)) (hL : L ≤ 1536) (hi : i + 3 ≤ L) (hN : N < 80000) (h : Inv2 N I J I J) (K : ∀ I' J', Inv2 (N + 9) I' J' I' J' → GR (d + 2) (lx_xt xs L) (fun F => lx_xc F d orc_) code 8 ret Q R C S 623 [(0, .ref lx_S), (1, .ref 0), (2, .ref 92), (3, .ref 119), (4, .int (nn i))] [] I' J') : GR (d + 2) (lx_xt xs L) (fun F => lx_xc F d orc_) code 8 ret Q R (C + 1) (S + 6) 96 [(0, .ref lx_S), (1, .ref 0), (2, .ref 92), (3, .ref 119), (4, .int (nn i))] [] I J := by
  obtain ⟨r, I1, J1, I2, J2, q1, q2, q7⟩ := po_type (((xs (i + 1)).toUInt32 % 65536).toInt32) h
  have hd2 : 129 ≤ d + 2 := by omega
  refine GR.le (Nat.le_add_right C 1) (Nat.le_add_right S 6) ?_
  refine GR.pu (ls' := [(0, .ref lx_S), (1, .ref 0), (2, .ref 92), (3, .ref 119), (4, .int (nn i))]) dl_96 rfl ?_
  refine lw_rd (fun _ => rfl) (fun _ => rfl) dl_97 dl_98 dl_100 dl_101 dl_102 (show Int32.ofInt 1 = nn 1 from rfl) hL (by omega) ?_
  refine GR.pu dl_103 rfl ?_
  refine GR.cv (p := 0) (As := [.int ((xs (i + 1)).toUInt32 % 65536).toInt32]) dl_104 lc_43.choose_spec rfl sk_0 rfl (y_9 q1) (Nat.le_trans (by decide) hd2) ?_
  refine GR.pu (ls' := [(0, .ref lx_S), (1, .ref 0), (2, .ref 92), (3, .ref 119), (4, .int (nn i))]) dl_107 rfl ?_
  refine lw_rd (fun _ => rfl) (fun _ => rfl) dl_108 dl_109 dl_111 dl_112 dl_113 (show Int32.ofInt 1 = nn 1 from rfl) hL (by omega) ?_
  refine GR.pu dl_114 rfl ?_
  refine GR.cv (p := 92) (As := [.int ((xs (i + 1)).toUInt32 % 65536).toInt32]) dl_115 lc_47.choose_spec rfl sk_92 rfl (y_96 q2) (Nat.le_trans (by decide) hd2) ?_
  refine GR.i2t dl_118 (t := 623) rfl (lw_eq rfl) ?_
  exact GR.wk [0, 1, 2, 3, 4] rfl (K I2 J2 q7)
theorem lk_comp (hd : 129 ≤ d + 1) (hQ : ∀ j, j < 8 → Q j = some (20 + 9 * j)) (hL : L ≤ 1536) (hi : i + 3 ≤ L) (hN : N < 80000) (h : Inv2 N I J I J) (K : ∀ I' J', Inv2 (N + 9) I' J' I' J' → GR (d + 2) (lx_xt xs L) (fun F => lx_xc F d orc_) code 8 ret Q R C S 623 [(0, .ref lx_S), (1, .ref 0), (2, .ref 92), (3, .ref 119), (4, .int (nn i))] [] I' J') : GR (d + 2) (lx_xt xs L) (fun F => lx_xc F d orc_) code 8 ret Q R (C + 1) (S + 6) 123 [(0, .ref lx_S), (1, .ref 0), (2, .ref 92), (3, .ref 119), (4, .int (nn i))] [] I J := by
  obtain ⟨rv, c, s, I1, J1, b, I2, J2, q1, q2, q3, q4, q5, q6, q7⟩ := po_comp hd hQ (xs (i + 1)) h
  have hd2 : 129 ≤ d + 2 := by omega
  refine GR.pu (ls' := [(0, .ref lx_S), (1, .ref 0), (2, .ref 92), (3, .ref 119), (4, .int (nn i))]) dl_123 rfl ?_
  refine lw_rd (fun _ => rfl) (fun _ => rfl) dl_124 dl_125 dl_127 dl_128 dl_129 (show Int32.ofInt 1 = nn 1 from rfl) hL (by omega) ?_
  refine GR.pu (ls' := [(0, .ref lx_S), (1, .ref 0), (2, .ref 92), (3, .ref 119), (4, .int (nn i))]) dl_130 rfl ?_
  refine lw_hx (na := 3) dl_131 rfl lh_48 rfl q1 q2 q3 ?_
  refine GR.pu (ls' := [(5, .int rv), (0, .ref lx_S), (1, .ref 0), (2, .ref 92), (3, .ref 119), (4, .int (nn i))]) dl_134 rfl ?_
  refine GR.pu (ls' := [(5, .int rv), (0, .ref lx_S), (1, .ref 0), (2, .ref 92), (3, .ref 119), (4, .int (nn i))]) dl_136 rfl ?_
  refine lw_rd (fun _ => rfl) (fun _ => rfl) dl_137 dl_138 dl_140 dl_141 dl_142 (show Int32.ofInt 1 = nn 1 from rfl) hL (by omega) ?_
  refine GR.cv (p := 92) (As := [.int (xs (i + 1))]) dl_143 lc_53.choose_spec rfl sk_92 rfl (y_97 q4) (Nat.le_trans (by decide) hd2) ?_
  refine GR.pu (ls' := [(6, .int b), (5, .int rv), (0, .ref lx_S), (1, .ref 0), (2, .ref 92), (3, .ref 119), (4, .int (nn i))]) dl_146 rfl ?_
  refine GR.pu (ls' := [(6, .int b), (5, .int rv), (0, .ref lx_S), (1, .ref 0), (2, .ref 92), (3, .ref 119), (4, .int (nn i))]) dl_148 rfl ?_
  refine GR.cv (p := 92) (As := []) dl_149 lc_54.choose_spec rfl sk_92 rfl (y_95) (Nat.le_trans (by decide) hd2) ?_
  refine GR.pu (ls' := [(6, .int b), (5, .int rv), (0, .ref lx_S), (1, .ref 0), (2, .ref 92), (3, .ref 119), (4, .int (nn i))]) dl_152 rfl ?_
  refine GR.i2t dl_154 (t := 159) rfl (lw_eq q5) ?_
  refine GR.pu (ls' := [(6, .int b), (5, .int rv), (0, .ref lx_S), (1, .ref 0), (2, .ref 92), (3, .ref 119), (4, .int (nn i))]) dl_159 rfl ?_
  by_cases e : rv = 0
  · refine GR.i1f dl_161 (t := 176) rfl (by rw [e]; exact lw_ne0) ?_
    refine GR.pu (ls' := [(6, .int b), (5, .int rv), (0, .ref lx_S), (1, .ref 0), (2, .ref 92), (3, .ref 119), (4, .int (nn i))]) dl_164 rfl ?_
    refine GR.pu dl_165 rfl ?_
    refine lw_l0 dl_166 ?_
    refine GR.pu (ls' := [(6, .int b), (5, .int rv), (0, .ref lx_S), (1, .ref 0), (2, .ref 92), (3, .ref 119), (4, .int (nn i))]) dl_167 rfl ?_
    refine GR.pu dl_169 rfl ?_
    refine GR.pu dl_170 rfl ?_
    refine GR.i1t dl_171 (t := 176) rfl (lw_cmp (q6 e)) ?_
    refine GR.go dl_176 (t := 623) rfl ?_
    exact GR.wk [2, 3, 4, 5, 6] rfl (K I2 J2 q7)
  · refine GR.i1t dl_161 (t := 176) rfl (lw_ne1 e) ?_
    refine GR.go dl_176 (t := 623) rfl ?_
    exact GR.wk [2, 3, 4, 5, 6] rfl (K I2 J2 q7)
theorem lk_drop (hd : 129 ≤ d + 1) (hQ : ∀ j, j < 8 → Q j = some (20 + 9 * j)) (hL : L ≤ 1536) (hi : i + 3 ≤ L) (hN : N < 80000) (h : Inv2 N I J I J) (K : ∀ I' J', Inv2 (N + 9) I' J' I' J' → GR (d + 2) (lx_xt xs L) (fun F => lx_xc F d orc_) code 8 ret Q R C S 623 [(0, .ref lx_S), (1, .ref 0), (2, .ref 92), (3, .ref 119), (4, .int (nn i))] [] I' J') : GR (d + 2) (lx_xt xs L) (fun F => lx_xc F d orc_) code 8 ret Q R (C + 1) (S + 6) 179 [(0, .ref lx_S), (1, .ref 0), (2, .ref 92), (3, .ref 119), (4, .int (nn i))] [] I J := by
  obtain ⟨rv, c, s, I1, J1, r, I2, J2, q1, q2, q3, q4, q5, q6, q7⟩ := po_drop hd hQ (xs (i + 1)) h
  have hd2 : 129 ≤ d + 2 := by omega
  refine GR.pu (ls' := [(0, .ref lx_S), (1, .ref 0), (2, .ref 92), (3, .ref 119), (4, .int (nn i))]) dl_179 rfl ?_
  refine lw_rd (fun _ => rfl) (fun _ => rfl) dl_180 dl_181 dl_183 dl_184 dl_185 (show Int32.ofInt 1 = nn 1 from rfl) hL (by omega) ?_
  refine GR.pu (ls' := [(0, .ref lx_S), (1, .ref 0), (2, .ref 92), (3, .ref 119), (4, .int (nn i))]) dl_186 rfl ?_
  refine lw_hx (na := 3) dl_187 rfl lh_58 rfl q1 q2 q3 ?_
  refine GR.pu (ls' := [(5, .int rv), (0, .ref lx_S), (1, .ref 0), (2, .ref 92), (3, .ref 119), (4, .int (nn i))]) dl_190 rfl ?_
  refine GR.pu (ls' := [(5, .int rv), (0, .ref lx_S), (1, .ref 0), (2, .ref 92), (3, .ref 119), (4, .int (nn i))]) dl_192 rfl ?_
  refine lw_rd (fun _ => rfl) (fun _ => rfl) dl_193 dl_194 dl_196 dl_197 dl_198 (show Int32.ofInt 1 = nn 1 from rfl) hL (by omega) ?_
  refine GR.cv (p := 92) (As := [.int (xs (i + 1))]) dl_199 lc_60.choose_spec rfl sk_92 rfl (y_113 q4) (Nat.le_trans (by decide) hd2) ?_
  refine GR.pu (ls' := [(6, .int (nn r)), (5, .int rv), (0, .ref lx_S), (1, .ref 0), (2, .ref 92), (3, .ref 119), (4, .int (nn i))]) dl_202 rfl ?_
  refine GR.pu (ls' := [(6, .int (nn r)), (5, .int rv), (0, .ref lx_S), (1, .ref 0), (2, .ref 92), (3, .ref 119), (4, .int (nn i))]) dl_204 rfl ?_
  refine GR.cv (p := 92) (As := []) dl_205 lc_54.choose_spec rfl sk_92 rfl (y_95) (Nat.le_trans (by decide) hd2) ?_
  refine GR.pu (ls' := [(6, .int (nn r)), (5, .int rv), (0, .ref lx_S), (1, .ref 0), (2, .ref 92), (3, .ref 119), (4, .int (nn i))]) dl_208 rfl ?_
  refine GR.i2t dl_210 (t := 215) rfl (lw_eq q5) ?_
  refine GR.pu (ls' := [(6, .int (nn r)), (5, .int rv), (0, .ref lx_S), (1, .ref 0), (2, .ref 92), (3, .ref 119), (4, .int (nn i))]) dl_215 rfl ?_
  by_cases e : rv = 0
  · refine GR.i1f dl_217 (t := 239) rfl (by rw [e]; exact lw_ne0) ?_
    rcases q6 e with ⟨e1, e2⟩ | ⟨e1, e2⟩
    · refine GR.pu (ls' := [(6, .int (nn r)), (5, .int rv), (0, .ref lx_S), (1, .ref 0), (2, .ref 92), (3, .ref 119), (4, .int (nn i))]) dl_220 rfl ?_
      refine GR.pu dl_221 rfl ?_
      refine lw_l0 dl_222 ?_
      refine GR.pu (ls' := [(6, .int (nn r)), (5, .int rv), (0, .ref lx_S), (1, .ref 0), (2, .ref 92), (3, .ref 119), (4, .int (nn i))]) dl_223 rfl ?_
      refine GR.i1t dl_225 (t := 232) rfl (by rw [e1]; decide) ?_
      refine GR.pu dl_232 rfl ?_
      refine GR.pu dl_233 rfl ?_
      refine GR.i1t dl_234 (t := 239) rfl (lw_cmp (e2)) ?_
      refine GR.go dl_239 (t := 623) rfl ?_
      exact GR.wk [2, 3, 4, 5, 6] rfl (K I2 J2 q7)
    · refine GR.pu (ls' := [(6, .int (nn r)), (5, .int rv), (0, .ref lx_S), (1, .ref 0), (2, .ref 92), (3, .ref 119), (4, .int (nn i))]) dl_220 rfl ?_
      refine GR.pu dl_221 rfl ?_
      refine lw_l0 dl_222 ?_
      refine GR.pu (ls' := [(6, .int (nn r)), (5, .int rv), (0, .ref lx_S), (1, .ref 0), (2, .ref 92), (3, .ref 119), (4, .int (nn i))]) dl_223 rfl ?_
      refine GR.i1f dl_225 (t := 232) rfl (by rw [e1]; decide) ?_
      refine GR.pu dl_228 rfl ?_
      refine GR.go dl_229 (t := 233) rfl ?_
      refine GR.pu dl_233 rfl ?_
      refine GR.i1t dl_234 (t := 239) rfl (lw_cmp (e2)) ?_
      refine GR.go dl_239 (t := 623) rfl ?_
      exact GR.wk [2, 3, 4, 5, 6] rfl (K I2 J2 q7)
  · refine GR.i1t dl_217 (t := 239) rfl (lw_ne1 e) ?_
    refine GR.go dl_239 (t := 623) rfl ?_
    exact GR.wk [2, 3, 4, 5, 6] rfl (K I2 J2 q7)
theorem lk_set (hd : 129 ≤ d + 1) (hQ : ∀ j, j < 8 → Q j = some (20 + 9 * j)) (hL : L ≤ 1536) (hi : i + 3 ≤ L) (hN : N < 80000) (h : Inv2 N I J I J) (K : ∀ I' J', Inv2 (N + 9) I' J' I' J' → GR (d + 2) (lx_xt xs L) (fun F => lx_xc F d orc_) code 8 ret Q R C S 623 [(0, .ref lx_S), (1, .ref 0), (2, .ref 92), (3, .ref 119), (4, .int (nn i))] [] I' J') : GR (d + 2) (lx_xt xs L) (fun F => lx_xc F d orc_) code 8 ret Q R (C + 1) (S + 6) 242 [(0, .ref lx_S), (1, .ref 0), (2, .ref 92), (3, .ref 119), (4, .int (nn i))] [] I J := by
  obtain ⟨rv, c, s, I1, J1, I2, J2, q1, q2, q3, q4, q5, q7⟩ := po_set (Q := Q) hd (xs (i + 1)) (xs (i + 2)) h
  have hd2 : 129 ≤ d + 2 := by omega
  refine GR.pu (ls' := [(0, .ref lx_S), (1, .ref 0), (2, .ref 92), (3, .ref 119), (4, .int (nn i))]) dl_242 rfl ?_
  refine lw_rd (fun _ => rfl) (fun _ => rfl) dl_243 dl_244 dl_246 dl_247 dl_248 (show Int32.ofInt 1 = nn 1 from rfl) hL (by omega) ?_
  refine lw_rd (fun _ => rfl) (fun _ => rfl) dl_249 dl_250 dl_252 dl_253 dl_254 (show Int32.ofInt 2 = nn 2 from rfl) hL (by omega) ?_
  refine lw_hx (na := 3) dl_255 rfl lh_61 rfl q1 q2 q3 ?_
  refine GR.pu (ls' := [(5, .int rv), (0, .ref lx_S), (1, .ref 0), (2, .ref 92), (3, .ref 119), (4, .int (nn i))]) dl_258 rfl ?_
  refine GR.pu (ls' := [(5, .int rv), (0, .ref lx_S), (1, .ref 0), (2, .ref 92), (3, .ref 119), (4, .int (nn i))]) dl_260 rfl ?_
  refine lw_rd (fun _ => rfl) (fun _ => rfl) dl_261 dl_262 dl_264 dl_265 dl_266 (show Int32.ofInt 1 = nn 1 from rfl) hL (by omega) ?_
  refine lw_rd (fun _ => rfl) (fun _ => rfl) dl_267 dl_268 dl_270 dl_271 dl_272 (show Int32.ofInt 2 = nn 2 from rfl) hL (by omega) ?_
  refine GR.cv (p := 92) (As := [.int (xs (i + 1)), .int (xs (i + 2))]) dl_273 lc_64.choose_spec rfl sk_92 rfl (y_114 q4) (Nat.le_trans (by decide) hd2) ?_
  refine GR.pu (ls' := [(5, .int rv), (0, .ref lx_S), (1, .ref 0), (2, .ref 92), (3, .ref 119), (4, .int (nn i))]) dl_276 rfl ?_
  refine GR.cv (p := 92) (As := []) dl_277 lc_54.choose_spec rfl sk_92 rfl (y_95) (Nat.le_trans (by decide) hd2) ?_
  refine GR.pu (ls' := [(5, .int rv), (0, .ref lx_S), (1, .ref 0), (2, .ref 92), (3, .ref 119), (4, .int (nn i))]) dl_280 rfl ?_
  refine GR.i2t dl_282 (t := 287) rfl (lw_eq q5) ?_
  refine GR.go dl_287 (t := 623) rfl ?_
  exact GR.wk [1, 2, 3, 4, 5] rfl (K I2 J2 q7)
theorem lk_go (hd : 129 ≤ d + 1) (hQ : ∀ j, j < 8 → Q j = some (20 + 9 * j)) (hL : L ≤ 1536) (hi : i + 3 ≤ L) (hN : N < 80000) (h : Inv2 N I J I J) (K : ∀ I' J', Inv2 (N + 9) I' J' I' J' → GR (d + 2) (lx_xt xs L) (fun F => lx_xc F d orc_) code 8 ret Q R C S 623 [(0, .ref lx_S), (1, .ref 0), (2, .ref 92), (3, .ref 119), (4, .int (nn i))] [] I' J') : GR (d + 2) (lx_xt xs L) (fun F => lx_xc F d orc_) code 8 ret Q R (C + 1) (S + 6) 290 [(0, .ref lx_S), (1, .ref 0), (2, .ref 92), (3, .ref 119), (4, .int (nn i))] [] I J := by
  obtain ⟨I1, J1, I2, J2, q1, q2, q7⟩ := po_go (((xs (i + 1)).toInt64 <<< ((Int8.ofInt 32).toInt32.toInt64 &&& 63)) ||| ((xs (i + 2)).toInt64 &&& 4294967295)) h
  have hd2 : 129 ≤ d + 2 := by omega
  refine GR.le (Nat.le_add_right C 1) (Nat.le_add_right S 6) ?_
  refine GR.pu (ls' := [(0, .ref lx_S), (1, .ref 0), (2, .ref 92), (3, .ref 119), (4, .int (nn i))]) dl_290 rfl ?_
  refine lw_rd (fun _ => rfl) (fun _ => rfl) dl_291 dl_292 dl_294 dl_295 dl_296 (show Int32.ofInt 1 = nn 1 from rfl) hL (by omega) ?_
  refine GR.pu dl_297 rfl ?_
  refine GR.pu dl_298 rfl ?_
  refine GR.pu dl_300 rfl ?_
  refine lw_rd (fun _ => rfl) (fun _ => rfl) dl_301 dl_302 dl_304 dl_305 dl_306 (show Int32.ofInt 2 = nn 2 from rfl) hL (by omega) ?_
  refine GR.pu dl_307 rfl ?_
  refine lw_k dl_308 ?_
  refine GR.pu dl_311 rfl ?_
  refine GR.pu dl_312 rfl ?_
  refine GR.cv (p := 0) (As := [.long (((xs (i + 1)).toInt64 <<< ((Int8.ofInt 32).toInt32.toInt64 &&& 63)) ||| ((xs (i + 2)).toInt64 &&& 4294967295))]) dl_313 lc_67.choose_spec rfl sk_0 rfl (y_11 q1) (Nat.le_trans (by decide) hd2) ?_
  refine GR.pu (ls' := [(0, .ref lx_S), (1, .ref 0), (2, .ref 92), (3, .ref 119), (4, .int (nn i))]) dl_316 rfl ?_
  refine lw_rd (fun _ => rfl) (fun _ => rfl) dl_317 dl_318 dl_320 dl_321 dl_322 (show Int32.ofInt 1 = nn 1 from rfl) hL (by omega) ?_
  refine GR.pu dl_323 rfl ?_
  refine GR.pu dl_324 rfl ?_
  refine GR.pu dl_326 rfl ?_
  refine lw_rd (fun _ => rfl) (fun _ => rfl) dl_327 dl_328 dl_330 dl_331 dl_332 (show Int32.ofInt 2 = nn 2 from rfl) hL (by omega) ?_
  refine GR.pu dl_333 rfl ?_
  refine lw_k dl_334 ?_
  refine GR.pu dl_337 rfl ?_
  refine GR.pu dl_338 rfl ?_
  refine GR.cv (p := 92) (As := [.long (((xs (i + 1)).toInt64 <<< ((Int8.ofInt 32).toInt32.toInt64 &&& 63)) ||| ((xs (i + 2)).toInt64 &&& 4294967295))]) dl_339 lc_71.choose_spec rfl sk_92 rfl (y_115 q2) (Nat.le_trans (by decide) hd2) ?_
  refine GR.go dl_342 (t := 623) rfl ?_
  exact GR.wk [0, 1, 2, 3, 4] rfl (K I2 J2 q7)
theorem lk_poke (hd : 129 ≤ d + 1) (hQ : ∀ j, j < 8 → Q j = some (20 + 9 * j)) (hL : L ≤ 1536) (hi : i + 3 ≤ L) (hN : N < 80000) (h : Inv2 N I J I J) (K : ∀ I' J', Inv2 (N + 9) I' J' I' J' → GR (d + 2) (lx_xt xs L) (fun F => lx_xc F d orc_) code 8 ret Q R C S 623 [(0, .ref lx_S), (1, .ref 0), (2, .ref 92), (3, .ref 119), (4, .int (nn i))] [] I' J') : GR (d + 2) (lx_xt xs L) (fun F => lx_xc F d orc_) code 8 ret Q R (C + 1) (S + 6) 345 [(0, .ref lx_S), (1, .ref 0), (2, .ref 92), (3, .ref 119), (4, .int (nn i))] [] I J := by
  obtain ⟨rv, c, s, I1, J1, I2, J2, q1, q2, q3, q4, q5, q7⟩ := po_poke (Q := Q) hd (xs (i + 1)) (xs (i + 2)) h
  have hd2 : 129 ≤ d + 2 := by omega
  refine GR.pu (ls' := [(0, .ref lx_S), (1, .ref 0), (2, .ref 92), (3, .ref 119), (4, .int (nn i))]) dl_345 rfl ?_
  refine lw_rd (fun _ => rfl) (fun _ => rfl) dl_346 dl_347 dl_349 dl_350 dl_351 (show Int32.ofInt 1 = nn 1 from rfl) hL (by omega) ?_
  refine lw_rd (fun _ => rfl) (fun _ => rfl) dl_352 dl_353 dl_355 dl_356 dl_357 (show Int32.ofInt 2 = nn 2 from rfl) hL (by omega) ?_
  refine lw_hx (na := 3) dl_358 rfl lh_72 rfl q1 q2 q3 ?_
  refine GR.pu (ls' := [(5, .int rv), (0, .ref lx_S), (1, .ref 0), (2, .ref 92), (3, .ref 119), (4, .int (nn i))]) dl_361 rfl ?_
  refine GR.pu (ls' := [(5, .int rv), (0, .ref lx_S), (1, .ref 0), (2, .ref 92), (3, .ref 119), (4, .int (nn i))]) dl_363 rfl ?_
  refine lw_rd (fun _ => rfl) (fun _ => rfl) dl_364 dl_365 dl_367 dl_368 dl_369 (show Int32.ofInt 1 = nn 1 from rfl) hL (by omega) ?_
  refine lw_rd (fun _ => rfl) (fun _ => rfl) dl_370 dl_371 dl_373 dl_374 dl_375 (show Int32.ofInt 2 = nn 2 from rfl) hL (by omega) ?_
  refine GR.cv (p := 92) (As := [.int (xs (i + 1)), .int (xs (i + 2))]) dl_376 lc_74.choose_spec rfl sk_92 rfl (y_116 q4) (Nat.le_trans (by decide) hd2) ?_
  refine GR.pu (ls' := [(5, .int rv), (0, .ref lx_S), (1, .ref 0), (2, .ref 92), (3, .ref 119), (4, .int (nn i))]) dl_379 rfl ?_
  refine GR.cv (p := 92) (As := []) dl_380 lc_54.choose_spec rfl sk_92 rfl (y_95) (Nat.le_trans (by decide) hd2) ?_
  refine GR.pu (ls' := [(5, .int rv), (0, .ref lx_S), (1, .ref 0), (2, .ref 92), (3, .ref 119), (4, .int (nn i))]) dl_383 rfl ?_
  refine GR.i2t dl_385 (t := 390) rfl (lw_eq q5) ?_
  refine GR.go dl_390 (t := 623) rfl ?_
  exact GR.wk [1, 2, 3, 4, 5] rfl (K I2 J2 q7)
theorem lk_ign (hd : 129 ≤ d + 1) (hQ : ∀ j, j < 8 → Q j = some (20 + 9 * j)) (hL : L ≤ 1536) (hi : i + 3 ≤ L) (hN : N < 80000) (h : Inv2 N I J I J) (K : ∀ I' J', Inv2 (N + 9) I' J' I' J' → GR (d + 2) (lx_xt xs L) (fun F => lx_xc F d orc_) code 8 ret Q R C S 623 [(0, .ref lx_S), (1, .ref 0), (2, .ref 92), (3, .ref 119), (4, .int (nn i))] [] I' J') : GR (d + 2) (lx_xt xs L) (fun F => lx_xc F d orc_) code 8 ret Q R (C + 1) (S + 6) 393 [(0, .ref lx_S), (1, .ref 0), (2, .ref 92), (3, .ref 119), (4, .int (nn i))] [] I J := by
  obtain ⟨rv, c, s, I1, J1, b, I2, J2, q1, q2, q3, q4, q5, q6, q7⟩ := po_ign hd hQ (xs (i + 1)) (xs (i + 2)) h
  have hd2 : 129 ≤ d + 2 := by omega
  refine GR.pu (ls' := [(0, .ref lx_S), (1, .ref 0), (2, .ref 92), (3, .ref 119), (4, .int (nn i))]) dl_393 rfl ?_
  refine lw_rd (fun _ => rfl) (fun _ => rfl) dl_394 dl_395 dl_397 dl_398 dl_399 (show Int32.ofInt 1 = nn 1 from rfl) hL (by omega) ?_
  refine lw_rd (fun _ => rfl) (fun _ => rfl) dl_400 dl_401 dl_403 dl_404 dl_405 (show Int32.ofInt 2 = nn 2 from rfl) hL (by omega) ?_
  refine GR.pu (ls' := [(0, .ref lx_S), (1, .ref 0), (2, .ref 92), (3, .ref 119), (4, .int (nn i))]) dl_406 rfl ?_
  refine lw_hx (na := 4) dl_407 rfl lh_75 rfl q1 q2 q3 ?_
  refine GR.pu (ls' := [(5, .int rv), (0, .ref lx_S), (1, .ref 0), (2, .ref 92), (3, .ref 119), (4, .int (nn i))]) dl_410 rfl ?_
  refine GR.pu (ls' := [(5, .int rv), (0, .ref lx_S), (1, .ref 0), (2, .ref 92), (3, .ref 119), (4, .int (nn i))]) dl_412 rfl ?_
  refine lw_rd (fun _ => rfl) (fun _ => rfl) dl_413 dl_414 dl_416 dl_417 dl_418 (show Int32.ofInt 1 = nn 1 from rfl) hL (by omega) ?_
  refine lw_rd (fun _ => rfl) (fun _ => rfl) dl_419 dl_420 dl_422 dl_423 dl_424 (show Int32.ofInt 2 = nn 2 from rfl) hL (by omega) ?_
  refine GR.cv (p := 92) (As := [.int (xs (i + 1)), .int (xs (i + 2))]) dl_425 lc_78.choose_spec rfl sk_92 rfl (y_117 q4) (Nat.le_trans (by decide) hd2) ?_
  refine GR.pu (ls' := [(6, .int b), (5, .int rv), (0, .ref lx_S), (1, .ref 0), (2, .ref 92), (3, .ref 119), (4, .int (nn i))]) dl_428 rfl ?_
  refine GR.pu (ls' := [(6, .int b), (5, .int rv), (0, .ref lx_S), (1, .ref 0), (2, .ref 92), (3, .ref 119), (4, .int (nn i))]) dl_430 rfl ?_
  refine GR.cv (p := 92) (As := []) dl_431 lc_54.choose_spec rfl sk_92 rfl (y_95) (Nat.le_trans (by decide) hd2) ?_
  refine GR.pu (ls' := [(6, .int b), (5, .int rv), (0, .ref lx_S), (1, .ref 0), (2, .ref 92), (3, .ref 119), (4, .int (nn i))]) dl_434 rfl ?_
  refine GR.i2t dl_436 (t := 441) rfl (lw_eq q5) ?_
  refine GR.pu (ls' := [(6, .int b), (5, .int rv), (0, .ref lx_S), (1, .ref 0), (2, .ref 92), (3, .ref 119), (4, .int (nn i))]) dl_441 rfl ?_
  by_cases e : rv = 0
  · refine GR.i1f dl_443 (t := 458) rfl (by rw [e]; exact lw_ne0) ?_
    refine GR.pu (ls' := [(6, .int b), (5, .int rv), (0, .ref lx_S), (1, .ref 0), (2, .ref 92), (3, .ref 119), (4, .int (nn i))]) dl_446 rfl ?_
    refine GR.pu dl_447 rfl ?_
    refine lw_l0 dl_448 ?_
    refine GR.pu (ls' := [(6, .int b), (5, .int rv), (0, .ref lx_S), (1, .ref 0), (2, .ref 92), (3, .ref 119), (4, .int (nn i))]) dl_449 rfl ?_
    refine GR.pu dl_451 rfl ?_
    refine GR.pu dl_452 rfl ?_
    refine GR.i1t dl_453 (t := 458) rfl (lw_cmp (q6 e)) ?_
    refine GR.go dl_458 (t := 623) rfl ?_
    exact GR.wk [2, 3, 4, 5, 6] rfl (K I2 J2 q7)
  · refine GR.i1t dl_443 (t := 458) rfl (lw_ne1 e) ?_
    refine GR.go dl_458 (t := 623) rfl ?_
    exact GR.wk [2, 3, 4, 5, 6] rfl (K I2 J2 q7)
theorem lk_ask (hd : 129 ≤ d + 1) (hQ : ∀ j, j < 8 → Q j = some (20 + 9 * j)) (hL : L ≤ 1536) (hi : i + 3 ≤ L) (hN : N < 80000) (h : Inv2 N I J I J) (K : ∀ I' J', Inv2 (N + 9) I' J' I' J' → GR (d + 2) (lx_xt xs L) (fun F => lx_xc F d orc_) code 8 ret Q R C S 623 [(0, .ref lx_S), (1, .ref 0), (2, .ref 92), (3, .ref 119), (4, .int (nn i))] [] I' J') : GR (d + 2) (lx_xt xs L) (fun F => lx_xc F d orc_) code 8 ret Q R (C + 1) (S + 6) 461 [(0, .ref lx_S), (1, .ref 0), (2, .ref 92), (3, .ref 119), (4, .int (nn i))] [] I J := by
  obtain ⟨rv, c, s, I1, J1, b, I2, J2, q1, q2, q3, q4, q5, q6, q7⟩ := po_ask hN hd hQ (xs (i + 1)) h
  have hd2 : 129 ≤ d + 2 := by omega
  refine GR.pu (ls' := [(0, .ref lx_S), (1, .ref 0), (2, .ref 92), (3, .ref 119), (4, .int (nn i))]) dl_461 rfl ?_
  refine lw_rd (fun _ => rfl) (fun _ => rfl) dl_462 dl_463 dl_465 dl_466 dl_467 (show Int32.ofInt 1 = nn 1 from rfl) hL (by omega) ?_
  refine GR.pu (ls' := [(0, .ref lx_S), (1, .ref 0), (2, .ref 92), (3, .ref 119), (4, .int (nn i))]) dl_468 rfl ?_
  refine lw_hx (na := 3) dl_469 rfl lh_79 rfl q1 q2 q3 ?_
  refine GR.pu (ls' := [(5, .int rv), (0, .ref lx_S), (1, .ref 0), (2, .ref 92), (3, .ref 119), (4, .int (nn i))]) dl_472 rfl ?_
  refine GR.pu (ls' := [(5, .int rv), (0, .ref lx_S), (1, .ref 0), (2, .ref 92), (3, .ref 119), (4, .int (nn i))]) dl_474 rfl ?_
  refine lw_rd (fun _ => rfl) (fun _ => rfl) dl_475 dl_476 dl_478 dl_479 dl_480 (show Int32.ofInt 1 = nn 1 from rfl) hL (by omega) ?_
  refine GR.cv (p := 92) (As := [.int (xs (i + 1))]) dl_481 lc_81.choose_spec rfl sk_92 rfl (y_118 q4) (Nat.le_trans (by decide) hd2) ?_
  refine GR.pu (ls' := [(6, .int b), (5, .int rv), (0, .ref lx_S), (1, .ref 0), (2, .ref 92), (3, .ref 119), (4, .int (nn i))]) dl_484 rfl ?_
  refine GR.pu (ls' := [(6, .int b), (5, .int rv), (0, .ref lx_S), (1, .ref 0), (2, .ref 92), (3, .ref 119), (4, .int (nn i))]) dl_486 rfl ?_
  refine GR.cv (p := 92) (As := []) dl_487 lc_54.choose_spec rfl sk_92 rfl (y_95) (Nat.le_trans (by decide) hd2) ?_
  refine GR.pu (ls' := [(6, .int b), (5, .int rv), (0, .ref lx_S), (1, .ref 0), (2, .ref 92), (3, .ref 119), (4, .int (nn i))]) dl_490 rfl ?_
  refine GR.i2t dl_492 (t := 497) rfl (lw_eq q5) ?_
  refine GR.pu (ls' := [(6, .int b), (5, .int rv), (0, .ref lx_S), (1, .ref 0), (2, .ref 92), (3, .ref 119), (4, .int (nn i))]) dl_497 rfl ?_
  by_cases e : rv = 0
  · refine GR.i1f dl_499 (t := 514) rfl (by rw [e]; exact lw_ne0) ?_
    refine GR.pu (ls' := [(6, .int b), (5, .int rv), (0, .ref lx_S), (1, .ref 0), (2, .ref 92), (3, .ref 119), (4, .int (nn i))]) dl_502 rfl ?_
    refine GR.pu dl_503 rfl ?_
    refine lw_l0 dl_504 ?_
    refine GR.pu (ls' := [(6, .int b), (5, .int rv), (0, .ref lx_S), (1, .ref 0), (2, .ref 92), (3, .ref 119), (4, .int (nn i))]) dl_505 rfl ?_
    refine GR.pu dl_507 rfl ?_
    refine GR.pu dl_508 rfl ?_
    refine GR.i1t dl_509 (t := 514) rfl (lw_cmp (q6 e)) ?_
    refine GR.go dl_514 (t := 623) rfl ?_
    exact GR.wk [2, 3, 4, 5, 6] rfl (K I2 J2 q7)
  · refine GR.i1t dl_499 (t := 514) rfl (lw_ne1 e) ?_
    refine GR.go dl_514 (t := 623) rfl ?_
    exact GR.wk [2, 3, 4, 5, 6] rfl (K I2 J2 q7)
theorem lk_all (hd : 129 ≤ d + 1) (hQ : ∀ j, j < 8 → Q j = some (20 + 9 * j)) (hL : L ≤ 1536) (hi : i + 3 ≤ L) (hN : N < 80000) (h : Inv2 N I J I J) (K : ∀ I' J', Inv2 (N + 9) I' J' I' J' → GR (d + 2) (lx_xt xs L) (fun F => lx_xc F d orc_) code 8 ret Q R C S 623 [(0, .ref lx_S), (1, .ref 0), (2, .ref 92), (3, .ref 119), (4, .int (nn i))] [] I' J') : GR (d + 2) (lx_xt xs L) (fun F => lx_xc F d orc_) code 8 ret Q R (C + 1) (S + 6) 517 [(0, .ref lx_S), (1, .ref 0), (2, .ref 92), (3, .ref 119), (4, .int (nn i))] [] I J := by
  obtain ⟨r, I1, J1, I2, J2, q1, q2, q7⟩ := po_all hN h
  have hd2 : 129 ≤ d + 2 := by omega
  refine GR.le (Nat.le_add_right C 1) (Nat.le_add_right S 6) ?_
  refine GR.pu (ls' := [(0, .ref lx_S), (1, .ref 0), (2, .ref 92), (3, .ref 119), (4, .int (nn i))]) dl_517 rfl ?_
  refine GR.cv (p := 0) (As := []) dl_518 lc_82.choose_spec rfl sk_0 rfl (y_12 hQ q1) (Nat.le_trans (by decide) hd2) ?_
  refine GR.pu (ls' := [(0, .ref lx_S), (1, .ref 0), (2, .ref 92), (3, .ref 119), (4, .int (nn i))]) dl_521 rfl ?_
  refine GR.cv (p := 92) (As := []) dl_522 lc_85.choose_spec rfl sk_92 rfl (y_133 q2) (Nat.le_trans (by decide) hd2) ?_
  refine GR.i2t dl_525 (t := 623) rfl (lw_eq rfl) ?_
  exact GR.wk [0, 1, 2, 3, 4] rfl (K I2 J2 q7)
theorem lk_abt (hd : 129 ≤ d + 1) (hQ : ∀ j, j < 8 → Q j = some (20 + 9 * j)) (hL : L ≤ 1536) (hi : i + 3 ≤ L) (hN : N < 80000) (h : Inv2 N I J I J) (K : ∀ I' J', Inv2 (N + 9) I' J' I' J' → GR (d + 2) (lx_xt xs L) (fun F => lx_xc F d orc_) code 8 ret Q R C S 623 [(0, .ref lx_S), (1, .ref 0), (2, .ref 92), (3, .ref 119), (4, .int (nn i))] [] I' J') : GR (d + 2) (lx_xt xs L) (fun F => lx_xc F d orc_) code 8 ret Q R (C + 1) (S + 6) 530 [(0, .ref lx_S), (1, .ref 0), (2, .ref 92), (3, .ref 119), (4, .int (nn i))] [] I J := by
  obtain ⟨rv, c, s, I1, J1, b, I2, J2, q1, q2, q3, q4, q5, q6, q7⟩ := po_abt hd hQ (xs (i + 1)) (xs (i + 2)) h
  have hd2 : 129 ≤ d + 2 := by omega
  refine GR.pu (ls' := [(0, .ref lx_S), (1, .ref 0), (2, .ref 92), (3, .ref 119), (4, .int (nn i))]) dl_530 rfl ?_
  refine lw_rd (fun _ => rfl) (fun _ => rfl) dl_531 dl_532 dl_534 dl_535 dl_536 (show Int32.ofInt 1 = nn 1 from rfl) hL (by omega) ?_
  refine lw_rd (fun _ => rfl) (fun _ => rfl) dl_537 dl_538 dl_540 dl_541 dl_542 (show Int32.ofInt 2 = nn 2 from rfl) hL (by omega) ?_
  refine GR.pu (ls' := [(0, .ref lx_S), (1, .ref 0), (2, .ref 92), (3, .ref 119), (4, .int (nn i))]) dl_543 rfl ?_
  refine lw_hx (na := 4) dl_544 rfl lh_86 rfl q1 q2 q3 ?_
  refine GR.pu (ls' := [(5, .int rv), (0, .ref lx_S), (1, .ref 0), (2, .ref 92), (3, .ref 119), (4, .int (nn i))]) dl_547 rfl ?_
  refine GR.pu (ls' := [(5, .int rv), (0, .ref lx_S), (1, .ref 0), (2, .ref 92), (3, .ref 119), (4, .int (nn i))]) dl_549 rfl ?_
  refine lw_rd (fun _ => rfl) (fun _ => rfl) dl_550 dl_551 dl_553 dl_554 dl_555 (show Int32.ofInt 1 = nn 1 from rfl) hL (by omega) ?_
  refine lw_rd (fun _ => rfl) (fun _ => rfl) dl_556 dl_557 dl_559 dl_560 dl_561 (show Int32.ofInt 2 = nn 2 from rfl) hL (by omega) ?_
  refine GR.cv (p := 92) (As := [.int (xs (i + 1)), .int (xs (i + 2))]) dl_562 lc_88.choose_spec rfl sk_92 rfl (y_134 q4) (Nat.le_trans (by decide) hd2) ?_
  refine GR.pu (ls' := [(6, .long b), (5, .int rv), (0, .ref lx_S), (1, .ref 0), (2, .ref 92), (3, .ref 119), (4, .int (nn i))]) dl_565 rfl ?_
  refine GR.pu (ls' := [(6, .long b), (5, .int rv), (0, .ref lx_S), (1, .ref 0), (2, .ref 92), (3, .ref 119), (4, .int (nn i))]) dl_567 rfl ?_
  refine GR.cv (p := 92) (As := []) dl_568 lc_54.choose_spec rfl sk_92 rfl (y_95) (Nat.le_trans (by decide) hd2) ?_
  refine GR.pu (ls' := [(6, .long b), (5, .int rv), (0, .ref lx_S), (1, .ref 0), (2, .ref 92), (3, .ref 119), (4, .int (nn i))]) dl_571 rfl ?_
  refine GR.i2t dl_573 (t := 578) rfl (lw_eq q5) ?_
  refine GR.pu (ls' := [(6, .long b), (5, .int rv), (0, .ref lx_S), (1, .ref 0), (2, .ref 92), (3, .ref 119), (4, .int (nn i))]) dl_578 rfl ?_
  by_cases e : rv = 0
  · refine GR.i1f dl_580 (t := 594) rfl (by rw [e]; exact lw_ne0) ?_
    refine GR.pu (ls' := [(6, .long b), (5, .int rv), (0, .ref lx_S), (1, .ref 0), (2, .ref 92), (3, .ref 119), (4, .int (nn i))]) dl_583 rfl ?_
    refine GR.pu dl_584 rfl ?_
    refine lw_l0 dl_585 ?_
    refine GR.pu (ls' := [(6, .long b), (5, .int rv), (0, .ref lx_S), (1, .ref 0), (2, .ref 92), (3, .ref 119), (4, .int (nn i))]) dl_586 rfl ?_
    refine GR.pu dl_588 rfl ?_
    refine GR.i1t dl_589 (t := 594) rfl (lw_cmp (q6 e)) ?_
    refine GR.go dl_594 (t := 623) rfl ?_
    exact GR.wk [2, 3, 4, 5, 6] rfl (K I2 J2 q7)
  · refine GR.i1t dl_580 (t := 594) rfl (lw_ne1 e) ?_
    refine GR.go dl_594 (t := 623) rfl ?_
    exact GR.wk [2, 3, 4, 5, 6] rfl (K I2 J2 q7)
theorem lk_cnt (hd : 129 ≤ d + 1) (hQ : ∀ j, j < 8 → Q j = some (20 + 9 * j)) (hL : L ≤ 1536) (hi : i + 3 ≤ L) (hN : N < 80000) (h : Inv2 N I J I J) (K : ∀ I' J', Inv2 (N + 9) I' J' I' J' → GR (d + 2) (lx_xt xs L) (fun F => lx_xc F d orc_) code 8 ret Q R C S 623 [(0, .ref lx_S), (1, .ref 0), (2, .ref 92), (3, .ref 119), (4, .int (nn i))] [] I' J') : GR (d + 2) (lx_xt xs L) (fun F => lx_xc F d orc_) code 8 ret Q R (C + 1) (S + 6) 597 [(0, .ref lx_S), (1, .ref 0), (2, .ref 92), (3, .ref 119), (4, .int (nn i))] [] I J := by
  obtain ⟨r, I2, J2, q1, q2, q7⟩ := po_count (xs (i + 1)) h
  have hd2 : 129 ≤ d + 2 := by omega
  refine GR.le (Nat.le_add_right C 1) (Nat.le_add_right S 6) ?_
  refine GR.pu (ls' := [(0, .ref lx_S), (1, .ref 0), (2, .ref 92), (3, .ref 119), (4, .int (nn i))]) dl_597 rfl ?_
  refine lw_rd (fun _ => rfl) (fun _ => rfl) dl_598 dl_599 dl_601 dl_602 dl_603 (show Int32.ofInt 1 = nn 1 from rfl) hL (by omega) ?_
  refine GR.cv (p := 0) (As := [.int (xs (i + 1))]) dl_604 lc_89.choose_spec rfl sk_0 rfl (y_37 hQ q1) (Nat.le_trans (by decide) hd2) ?_
  refine GR.pu (ls' := [(0, .ref lx_S), (1, .ref 0), (2, .ref 92), (3, .ref 119), (4, .int (nn i))]) dl_607 rfl ?_
  refine lw_rd (fun _ => rfl) (fun _ => rfl) dl_608 dl_609 dl_611 dl_612 dl_613 (show Int32.ofInt 1 = nn 1 from rfl) hL (by omega) ?_
  refine GR.cv (p := 92) (As := [.int (xs (i + 1))]) dl_614 lc_93.choose_spec rfl sk_92 rfl (y_135 q2) (Nat.le_trans (by decide) hd2) ?_
  refine GR.pu dl_617 rfl ?_
  refine GR.i1t dl_618 (t := 623) rfl (lw_cmp (rfl)) ?_
  exact GR.wk [0, 1, 2, 3, 4] rfl (K I2 J2 q7)
end LKA
