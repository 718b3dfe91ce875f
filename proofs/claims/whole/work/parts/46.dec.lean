/-! Printed by wip/whole/gen_dec.py: methods read back. -/
-- ConditionDesk$Tokens.kindOfSingle(C)I
theorem L_61 : tb_mL 61 = 1 := by decide +kernel
theorem R_61 : tb_mr 61 = some .int := by decide +kernel
theorem dk_61_0 : decode (tb_mb 61) 0 = .ok (.iload_n 0, 1) := by decide +kernel
theorem dk_61_1 : decode (tb_mb 61) 1 = .ok (.lookupswitch (187) #[(33, 169), (37, 166), (38, 151), (40, 175), (41, 178), (42, 160), (43, 154), (45, 157), (47, 163), (60, 139), (62, 142), (91, 181), (93, 184), (94, 148), (124, 145), (126, 172)], 139) := by decide +kernel
theorem dk_61_170 : decode (tb_mb 61) 170 = .ok (.bipush (14), 2) := by decide +kernel
theorem dk_61_172 : decode (tb_mb 61) 172 = .ok (.ireturn, 1) := by decide +kernel
theorem dk_61_167 : decode (tb_mb 61) 167 = .ok (.bipush (33), 2) := by decide +kernel
theorem dk_61_169 : decode (tb_mb 61) 169 = .ok (.ireturn, 1) := by decide +kernel
theorem dk_61_152 : decode (tb_mb 61) 152 = .ok (.bipush (26), 2) := by decide +kernel
theorem dk_61_154 : decode (tb_mb 61) 154 = .ok (.ireturn, 1) := by decide +kernel
theorem dk_61_176 : decode (tb_mb 61) 176 = .ok (.bipush (10), 2) := by decide +kernel
theorem dk_61_178 : decode (tb_mb 61) 178 = .ok (.ireturn, 1) := by decide +kernel
theorem dk_61_179 : decode (tb_mb 61) 179 = .ok (.bipush (11), 2) := by decide +kernel
theorem dk_61_181 : decode (tb_mb 61) 181 = .ok (.ireturn, 1) := by decide +kernel
theorem dk_61_161 : decode (tb_mb 61) 161 = .ok (.bipush (31), 2) := by decide +kernel
theorem dk_61_163 : decode (tb_mb 61) 163 = .ok (.ireturn, 1) := by decide +kernel
theorem dk_61_155 : decode (tb_mb 61) 155 = .ok (.bipush (29), 2) := by decide +kernel
theorem dk_61_157 : decode (tb_mb 61) 157 = .ok (.ireturn, 1) := by decide +kernel
theorem dk_61_158 : decode (tb_mb 61) 158 = .ok (.bipush (30), 2) := by decide +kernel
theorem dk_61_160 : decode (tb_mb 61) 160 = .ok (.ireturn, 1) := by decide +kernel
theorem dk_61_164 : decode (tb_mb 61) 164 = .ok (.bipush (32), 2) := by decide +kernel
theorem dk_61_166 : decode (tb_mb 61) 166 = .ok (.ireturn, 1) := by decide +kernel
theorem dk_61_140 : decode (tb_mb 61) 140 = .ok (.bipush (20), 2) := by decide +kernel
theorem dk_61_142 : decode (tb_mb 61) 142 = .ok (.ireturn, 1) := by decide +kernel
theorem dk_61_143 : decode (tb_mb 61) 143 = .ok (.bipush (22), 2) := by decide +kernel
theorem dk_61_145 : decode (tb_mb 61) 145 = .ok (.ireturn, 1) := by decide +kernel
theorem dk_61_182 : decode (tb_mb 61) 182 = .ok (.bipush (12), 2) := by decide +kernel
theorem dk_61_184 : decode (tb_mb 61) 184 = .ok (.ireturn, 1) := by decide +kernel
theorem dk_61_185 : decode (tb_mb 61) 185 = .ok (.bipush (13), 2) := by decide +kernel
theorem dk_61_187 : decode (tb_mb 61) 187 = .ok (.ireturn, 1) := by decide +kernel
theorem dk_61_149 : decode (tb_mb 61) 149 = .ok (.bipush (25), 2) := by decide +kernel
theorem dk_61_151 : decode (tb_mb 61) 151 = .ok (.ireturn, 1) := by decide +kernel
theorem dk_61_146 : decode (tb_mb 61) 146 = .ok (.bipush (24), 2) := by decide +kernel
theorem dk_61_148 : decode (tb_mb 61) 148 = .ok (.ireturn, 1) := by decide +kernel
theorem dk_61_173 : decode (tb_mb 61) 173 = .ok (.bipush (15), 2) := by decide +kernel
theorem dk_61_175 : decode (tb_mb 61) 175 = .ok (.ireturn, 1) := by decide +kernel
theorem dk_61_188 : decode (tb_mb 61) 188 = .ok (.iconst (1), 1) := by decide +kernel
theorem dk_61_189 : decode (tb_mb 61) 189 = .ok (.ireturn, 1) := by decide +kernel
def b_61_0 (x0 : Int32) (I : dI) (J : dJ) : Option Int32 := if x0 = 33 then (some 14) else if x0 = 37 then (some 33) else if x0 = 38 then (some 26) else if x0 = 40 then (some 10) else if x0 = 41 then (some 11) else if x0 = 42 then (some 31) else if x0 = 43 then (some 29) else if x0 = 45 then (some 30) else if x0 = 47 then (some 32) else if x0 = 60 then (some 20) else if x0 = 62 then (some 22) else if x0 = 91 then (some 12) else if x0 = 93 then (some 13) else if x0 = 94 then (some 25) else if x0 = 124 then (some 24) else if x0 = 126 then (some 15) else (some 1)
theorem p_61_0 {Q : Nat → Option Nat} {D : Nat} (hD : 1 ≤ D) (x0 : Int32) (I : dI) (J : dJ) (R : Int32) (h : b_61_0 x0 I J = some R) : Rn Q D 61 0 [(0, .int x0)] [] I J (some (.int R)) I J := by
  replace h : (if x0 = 33 then (some 14) else if x0 = 37 then (some 33) else if x0 = 38 then (some 26) else if x0 = 40 then (some 10) else if x0 = 41 then (some 11) else if x0 = 42 then (some 31) else if x0 = 43 then (some 29) else if x0 = 45 then (some 30) else if x0 = 47 then (some 32) else if x0 = 60 then (some 20) else if x0 = 62 then (some 22) else if x0 = 91 then (some 12) else if x0 = 93 then (some 13) else if x0 = 94 then (some 25) else if x0 = 124 then (some 24) else if x0 = 126 then (some 15) else (some 1)) = some R := h
  refine Rn.pu (st' := [.int x0]) dk_61_0 L_61 rfl ?_
  by_cases c1 : x0 = 33
  · rw [if_pos c1] at h
    refine Rn.sw (t := 170) (st' := []) dk_61_1 (fun _ _ => rfl) (by rw [c1]; rfl) ?_
    refine Rn.bp dk_61_170 cbp_14 ?_
    cases h
    exact Rn.ri dk_61_172 R_61 rfl
  · rw [if_neg c1] at h
    by_cases c2 : x0 = 37
    · rw [if_pos c2] at h
      refine Rn.sw (t := 167) (st' := []) dk_61_1 (fun _ _ => rfl) (by rw [c2]; rfl) ?_
      refine Rn.bp dk_61_167 cbp_33 ?_
      cases h
      exact Rn.ri dk_61_169 R_61 rfl
    · rw [if_neg c2] at h
      by_cases c3 : x0 = 38
      · rw [if_pos c3] at h
        refine Rn.sw (t := 152) (st' := []) dk_61_1 (fun _ _ => rfl) (by rw [c3]; rfl) ?_
        refine Rn.bp dk_61_152 cbp_26 ?_
        cases h
        exact Rn.ri dk_61_154 R_61 rfl
      · rw [if_neg c3] at h
        by_cases c4 : x0 = 40
        · rw [if_pos c4] at h
          refine Rn.sw (t := 176) (st' := []) dk_61_1 (fun _ _ => rfl) (by rw [c4]; rfl) ?_
          refine Rn.bp dk_61_176 cbp_10 ?_
          cases h
          exact Rn.ri dk_61_178 R_61 rfl
        · rw [if_neg c4] at h
          by_cases c5 : x0 = 41
          · rw [if_pos c5] at h
            refine Rn.sw (t := 179) (st' := []) dk_61_1 (fun _ _ => rfl) (by rw [c5]; rfl) ?_
            refine Rn.bp dk_61_179 cbp_11 ?_
            cases h
            exact Rn.ri dk_61_181 R_61 rfl
          · rw [if_neg c5] at h
            by_cases c6 : x0 = 42
            · rw [if_pos c6] at h
              refine Rn.sw (t := 161) (st' := []) dk_61_1 (fun _ _ => rfl) (by rw [c6]; rfl) ?_
              refine Rn.bp dk_61_161 cbp_31 ?_
              cases h
              exact Rn.ri dk_61_163 R_61 rfl
            · rw [if_neg c6] at h
              by_cases c7 : x0 = 43
              · rw [if_pos c7] at h
                refine Rn.sw (t := 155) (st' := []) dk_61_1 (fun _ _ => rfl) (by rw [c7]; rfl) ?_
                refine Rn.bp dk_61_155 cbp_29 ?_
                cases h
                exact Rn.ri dk_61_157 R_61 rfl
              · rw [if_neg c7] at h
                by_cases c8 : x0 = 45
                · rw [if_pos c8] at h
                  refine Rn.sw (t := 158) (st' := []) dk_61_1 (fun _ _ => rfl) (by rw [c8]; rfl) ?_
                  refine Rn.bp dk_61_158 cbp_30 ?_
                  cases h
                  exact Rn.ri dk_61_160 R_61 rfl
                · rw [if_neg c8] at h
                  by_cases c9 : x0 = 47
                  · rw [if_pos c9] at h
                    refine Rn.sw (t := 164) (st' := []) dk_61_1 (fun _ _ => rfl) (by rw [c9]; rfl) ?_
                    refine Rn.bp dk_61_164 cbp_32 ?_
                    cases h
                    exact Rn.ri dk_61_166 R_61 rfl
                  · rw [if_neg c9] at h
                    by_cases c10 : x0 = 60
                    · rw [if_pos c10] at h
                      refine Rn.sw (t := 140) (st' := []) dk_61_1 (fun _ _ => rfl) (by rw [c10]; rfl) ?_
                      refine Rn.bp dk_61_140 cbp_20 ?_
                      cases h
                      exact Rn.ri dk_61_142 R_61 rfl
                    · rw [if_neg c10] at h
                      by_cases c11 : x0 = 62
                      · rw [if_pos c11] at h
                        refine Rn.sw (t := 143) (st' := []) dk_61_1 (fun _ _ => rfl) (by rw [c11]; rfl) ?_
                        refine Rn.bp dk_61_143 cbp_22 ?_
                        cases h
                        exact Rn.ri dk_61_145 R_61 rfl
                      · rw [if_neg c11] at h
                        by_cases c12 : x0 = 91
                        · rw [if_pos c12] at h
                          refine Rn.sw (t := 182) (st' := []) dk_61_1 (fun _ _ => rfl) (by rw [c12]; rfl) ?_
                          refine Rn.bp dk_61_182 cbp_12 ?_
                          cases h
                          exact Rn.ri dk_61_184 R_61 rfl
                        · rw [if_neg c12] at h
                          by_cases c13 : x0 = 93
                          · rw [if_pos c13] at h
                            refine Rn.sw (t := 185) (st' := []) dk_61_1 (fun _ _ => rfl) (by rw [c13]; rfl) ?_
                            refine Rn.bp dk_61_185 cbp_13 ?_
                            cases h
                            exact Rn.ri dk_61_187 R_61 rfl
                          · rw [if_neg c13] at h
                            by_cases c14 : x0 = 94
                            · rw [if_pos c14] at h
                              refine Rn.sw (t := 149) (st' := []) dk_61_1 (fun _ _ => rfl) (by rw [c14]; rfl) ?_
                              refine Rn.bp dk_61_149 cbp_25 ?_
                              cases h
                              exact Rn.ri dk_61_151 R_61 rfl
                            · rw [if_neg c14] at h
                              by_cases c15 : x0 = 124
                              · rw [if_pos c15] at h
                                refine Rn.sw (t := 146) (st' := []) dk_61_1 (fun _ _ => rfl) (by rw [c15]; rfl) ?_
                                refine Rn.bp dk_61_146 cbp_24 ?_
                                cases h
                                exact Rn.ri dk_61_148 R_61 rfl
                              · rw [if_neg c15] at h
                                by_cases c16 : x0 = 126
                                · rw [if_pos c16] at h
                                  refine Rn.sw (t := 173) (st' := []) dk_61_1 (fun _ _ => rfl) (by rw [c16]; rfl) ?_
                                  refine Rn.bp dk_61_173 cbp_15 ?_
                                  cases h
                                  exact Rn.ri dk_61_175 R_61 rfl
                                · rw [if_neg c16] at h
                                  have q1 := (i_ne c1 (z := 33) rfl).symm
                                  have q2 := (i_ne c2 (z := 37) rfl).symm
                                  have q3 := (i_ne c3 (z := 38) rfl).symm
                                  have q4 := (i_ne c4 (z := 40) rfl).symm
                                  have q5 := (i_ne c5 (z := 41) rfl).symm
                                  have q6 := (i_ne c6 (z := 42) rfl).symm
                                  have q7 := (i_ne c7 (z := 43) rfl).symm
                                  have q8 := (i_ne c8 (z := 45) rfl).symm
                                  have q9 := (i_ne c9 (z := 47) rfl).symm
                                  have q10 := (i_ne c10 (z := 60) rfl).symm
                                  have q11 := (i_ne c11 (z := 62) rfl).symm
                                  have q12 := (i_ne c12 (z := 91) rfl).symm
                                  have q13 := (i_ne c13 (z := 93) rfl).symm
                                  have q14 := (i_ne c14 (z := 94) rfl).symm
                                  have q15 := (i_ne c15 (z := 124) rfl).symm
                                  have q16 := (i_ne c16 (z := 126) rfl).symm
                                  have q0 : xm_br (.lookupswitch (187) #[(33, 169), (37, 166), (38, 151), (40, 175), (41, 178), (42, 160), (43, 154), (45, 157), (47, 163), (60, 139), (62, 142), (91, 181), (93, 184), (94, 148), (124, 145), (126, 172)]) 139 1 (.int x0 :: []) = some (true, 188, []) := lk_def (by decide) (by simp [Op.lookupswitch.offset, q1, q2, q3, q4, q5, q6, q7, q8, q9, q10, q11, q12, q13, q14, q15, q16]) rfl
                                  refine Rn.sw dk_61_1 (fun _ _ => rfl) q0 ?_
                                  refine Rn.ic dk_61_188 cic_1 ?_
                                  cases h
                                  exact Rn.ri dk_61_189 R_61 rfl
def m_61 (x0 : Int32) (I : dI) (J : dJ) : Option Int32 := b_61_0 x0 I J
theorem x_61 {Q : Nat → Option Nat} {D : Nat} (hD : 2 ≤ D) {x0 : Int32} {I : dI} {J : dJ} {R : Int32} (h : m_61 x0 I J = some R) : Ex Q D 61 I J [.int x0] (some (.int R)) I J := by
  obtain ⟨D, rfl⟩ : ∃ D', D = D' + 1 := ⟨D - 1, by omega⟩
  exact Ex.of (by decide) (by rw [L_61]; exact Nat.le_of_ble_eq_true rfl) (show xm_sub [(0, .int x0)] [(0, .int x0)] from xm_sub_of [0] [0] rfl rfl (by decide)) (p_61_0 (Nat.le_of_succ_le_succ hD) _ _ _ _ h)
-- ConditionDesk$Tokens.readSign()V
theorem L_58 : tb_mL 58 = 3 := by decide +kernel
theorem R_58 : tb_mr 58 = none := by decide +kernel
theorem dk_58_0 : decode (tb_mb 58) 0 = .ok (.aload_n 0, 1) := by decide +kernel
theorem dk_58_1 : decode (tb_mb 58) 1 = .ok (.getfield 25, 3) := by decide +kernel
theorem f_58_1 : ∃ b, tb_fr (tb_oc 58) 25 = some (6, 0, b) := ⟨_, rfl⟩
theorem dk_58_4 : decode (tb_mb 58) 4 = .ok (.aload_n 0, 1) := by decide +kernel
theorem dk_58_5 : decode (tb_mb 58) 5 = .ok (.getfield 9, 3) := by decide +kernel
theorem f_58_5 : ∃ b, tb_fr (tb_oc 58) 9 = some (6, 1, b) := ⟨_, rfl⟩
theorem dk_58_8 : decode (tb_mb 58) 8 = .ok (.invokevirtual 32, 3) := by decide +kernel
theorem ck_58_8 : ∃ b, tb_cr (tb_oc 58) 32 = some (0, 48, b, 1) := ⟨_, rfl⟩
theorem dk_58_11 : decode (tb_mb 58) 11 = .ok (.istore_n 1, 1) := by decide +kernel
theorem dk_58_12 : decode (tb_mb 58) 12 = .ok (.aload_n 0, 1) := by decide +kernel
theorem dk_58_13 : decode (tb_mb 58) 13 = .ok (.getfield 25, 3) := by decide +kernel
theorem f_58_13 : ∃ b, tb_fr (tb_oc 58) 25 = some (6, 0, b) := ⟨_, rfl⟩
theorem dk_58_16 : decode (tb_mb 58) 16 = .ok (.aload_n 0, 1) := by decide +kernel
theorem dk_58_17 : decode (tb_mb 58) 17 = .ok (.getfield 9, 3) := by decide +kernel
theorem f_58_17 : ∃ b, tb_fr (tb_oc 58) 9 = some (6, 1, b) := ⟨_, rfl⟩
theorem dk_58_20 : decode (tb_mb 58) 20 = .ok (.iconst (1), 1) := by decide +kernel
theorem dk_58_21 : decode (tb_mb 58) 21 = .ok (.iadd, 1) := by decide +kernel
theorem dk_58_22 : decode (tb_mb 58) 22 = .ok (.invokevirtual 32, 3) := by decide +kernel
theorem ck_58_22 : ∃ b, tb_cr (tb_oc 58) 32 = some (0, 48, b, 1) := ⟨_, rfl⟩
theorem dk_58_25 : decode (tb_mb 58) 25 = .ok (.istore_n 2, 1) := by decide +kernel
theorem dk_58_26 : decode (tb_mb 58) 26 = .ok (.aload_n 0, 1) := by decide +kernel
theorem dk_58_27 : decode (tb_mb 58) 27 = .ok (.iload_n 1, 1) := by decide +kernel
theorem dk_58_28 : decode (tb_mb 58) 28 = .ok (.iload_n 2, 1) := by decide +kernel
theorem dk_58_29 : decode (tb_mb 58) 29 = .ok (.if_icmp .ne (10), 3) := by decide +kernel
theorem dk_58_39 : decode (tb_mb 58) 39 = .ok (.iload_n 2, 1) := by decide +kernel
theorem dk_58_40 : decode (tb_mb 58) 40 = .ok (.bipush (61), 2) := by decide +kernel
theorem dk_58_42 : decode (tb_mb 58) 42 = .ok (.if_icmp .ne (10), 3) := by decide +kernel
theorem dk_58_52 : decode (tb_mb 58) 52 = .ok (.iconst (1), 1) := by decide +kernel
theorem dk_58_53 : decode (tb_mb 58) 53 = .ok (.putfield 18, 3) := by decide +kernel
theorem f_58_53 : ∃ b, tb_fr (tb_oc 58) 18 = some (6, 3, b) ∧ xm_fin tb_cl (tb_ini 58) b 6 3 = true := ⟨_, rfl, rfl⟩
theorem dk_58_56 : decode (tb_mb 58) 56 = .ok (.aload_n 0, 1) := by decide +kernel
theorem dk_58_57 : decode (tb_mb 58) 57 = .ok (.aload_n 0, 1) := by decide +kernel
theorem dk_58_58 : decode (tb_mb 58) 58 = .ok (.getfield 9, 3) := by decide +kernel
theorem f_58_58 : ∃ b, tb_fr (tb_oc 58) 9 = some (6, 1, b) := ⟨_, rfl⟩
theorem dk_58_61 : decode (tb_mb 58) 61 = .ok (.iconst (2), 1) := by decide +kernel
theorem dk_58_62 : decode (tb_mb 58) 62 = .ok (.iadd, 1) := by decide +kernel
theorem dk_58_63 : decode (tb_mb 58) 63 = .ok (.putfield 15, 3) := by decide +kernel
theorem f_58_63 : ∃ b, tb_fr (tb_oc 58) 15 = some (6, 2, b) ∧ xm_fin tb_cl (tb_ini 58) b 6 2 = true := ⟨_, rfl, rfl⟩
theorem dk_58_66 : decode (tb_mb 58) 66 = .ok (.aload_n 0, 1) := by decide +kernel
theorem dk_58_67 : decode (tb_mb 58) 67 = .ok (.getfield 18, 3) := by decide +kernel
theorem f_58_67 : ∃ b, tb_fr (tb_oc 58) 18 = some (6, 3, b) := ⟨_, rfl⟩
theorem dk_58_70 : decode (tb_mb 58) 70 = .ok (.iconst (1), 1) := by decide +kernel
theorem dk_58_71 : decode (tb_mb 58) 71 = .ok (.if_icmp .ne (21), 3) := by decide +kernel
theorem dk_58_92 : decode (tb_mb 58) 92 = .ok (.return_, 1) := by decide +kernel
theorem dk_58_74 : decode (tb_mb 58) 74 = .ok (.aload_n 0, 1) := by decide +kernel
theorem dk_58_75 : decode (tb_mb 58) 75 = .ok (.iload_n 1, 1) := by decide +kernel
theorem dk_58_76 : decode (tb_mb 58) 76 = .ok (.invokestatic 110, 3) := by decide +kernel
theorem ck_58_76 : ∃ b, tb_cr (tb_oc 58) 110 = some (1, 61, b, 1) := ⟨_, rfl⟩
theorem dk_58_79 : decode (tb_mb 58) 79 = .ok (.putfield 18, 3) := by decide +kernel
theorem f_58_79 : ∃ b, tb_fr (tb_oc 58) 18 = some (6, 3, b) ∧ xm_fin tb_cl (tb_ini 58) b 6 3 = true := ⟨_, rfl, rfl⟩
theorem dk_58_82 : decode (tb_mb 58) 82 = .ok (.aload_n 0, 1) := by decide +kernel
theorem dk_58_83 : decode (tb_mb 58) 83 = .ok (.aload_n 0, 1) := by decide +kernel
theorem dk_58_84 : decode (tb_mb 58) 84 = .ok (.getfield 9, 3) := by decide +kernel
theorem f_58_84 : ∃ b, tb_fr (tb_oc 58) 9 = some (6, 1, b) := ⟨_, rfl⟩
theorem dk_58_87 : decode (tb_mb 58) 87 = .ok (.iconst (1), 1) := by decide +kernel
theorem dk_58_88 : decode (tb_mb 58) 88 = .ok (.iadd, 1) := by decide +kernel
theorem dk_58_89 : decode (tb_mb 58) 89 = .ok (.putfield 15, 3) := by decide +kernel
theorem f_58_89 : ∃ b, tb_fr (tb_oc 58) 15 = some (6, 2, b) ∧ xm_fin tb_cl (tb_ini 58) b 6 2 = true := ⟨_, rfl, rfl⟩
theorem dk_58_45 : decode (tb_mb 58) 45 = .ok (.iload_n 1, 1) := by decide +kernel
theorem dk_58_46 : decode (tb_mb 58) 46 = .ok (.invokestatic 107, 3) := by decide +kernel
theorem ck_58_46 : ∃ b, tb_cr (tb_oc 58) 107 = some (1, 60, b, 1) := ⟨_, rfl⟩
theorem dk_58_49 : decode (tb_mb 58) 49 = .ok (.goto (4), 3) := by decide +kernel
theorem dk_58_32 : decode (tb_mb 58) 32 = .ok (.iload_n 1, 1) := by decide +kernel
theorem dk_58_33 : decode (tb_mb 58) 33 = .ok (.invokestatic 104, 3) := by decide +kernel
theorem ck_58_33 : ∃ b, tb_cr (tb_oc 58) 104 = some (1, 59, b, 1) := ⟨_, rfl⟩
theorem dk_58_36 : decode (tb_mb 58) 36 = .ok (.goto (17), 3) := by decide +kernel
def b_58_53 (x1 : Int32) (s0 : Int32) (I : dI) (J : dJ) : Option (dI × dJ) := lt_ (sI I 18 3 s0) (fun I7 => lt_ (sI I7 18 2 ((I7 18 1) + 2)) (fun I8 => if ¬ (I8 18 3) = 1 then (some (I8, J)) else ((m_61 x1 I8 J).bind (fun r10 => lt_ (sI I8 18 3 r10) (fun I12 => lt_ (sI I12 18 2 ((I12 18 1) + 1)) (fun I13 => some (I13, J)))))))
theorem p_58_53 {Q : Nat → Option Nat} {D : Nat} (hD : 2 ≤ D) (x1 : Int32) (s0 : Int32) (I : dI) (J : dJ) (R : (dI × dJ)) (h : b_58_53 x1 s0 I J = some R) : Rn Q D 58 53 [(0, .ref 18), (1, .int x1)] [.int s0, .ref 18] I J (none) R.1 R.2 := by
  replace h : (lt_ (sI I 18 3 s0) (fun I7 => lt_ (sI I7 18 2 ((I7 18 1) + 2)) (fun I8 => if ¬ (I8 18 3) = 1 then (some (I8, J)) else ((m_61 x1 I8 J).bind (fun r10 => lt_ (sI I8 18 3 r10) (fun I12 => lt_ (sI I12 18 2 ((I12 18 1) + 1)) (fun I13 => some (I13, J)))))))) = some R := h
  obtain ⟨I7, eI7, h⟩ := letS h
  refine Rn.pI dk_58_53 f_58_53.choose_spec.1 sk_18 rfl f_58_53.choose_spec.2 rfl rfl ?_
  rw [← eI7]
  refine Rn.pu (st' := [.ref 18]) dk_58_56 L_58 rfl ?_
  refine Rn.pu (st' := [.ref 18, .ref 18]) dk_58_57 L_58 rfl ?_
  refine Rn.gI dk_58_58 f_58_58.choose_spec sk_18 rfl ?_
  refine Rn.ic dk_58_61 cic_2 ?_
  refine Rn.pu (st' := [.int ((I7 18 1) + 2), .ref 18]) dk_58_62 L_58 rfl ?_
  obtain ⟨I8, eI8, h⟩ := letS h
  refine Rn.pI dk_58_63 f_58_63.choose_spec.1 sk_18 rfl f_58_63.choose_spec.2 rfl rfl ?_
  rw [← eI8]
  refine Rn.pu (st' := [.ref 18]) dk_58_66 L_58 rfl ?_
  refine Rn.gI dk_58_67 f_58_67.choose_spec sk_18 rfl ?_
  refine Rn.ic dk_58_70 cic_1 ?_
  by_cases c9 : ¬ (I8 18 3) = 1
  · rw [if_pos c9] at h
    refine Rn.i2t (t := 92) dk_58_71 rfl (decide_eq_true c9) ?_
    cases h
    exact Rn.rv dk_58_92 R_58
  · rw [if_neg c9] at h
    refine Rn.i2f (t := 92) dk_58_71 rfl (decide_eq_false c9) ?_
    refine Rn.pu (st' := [.ref 18]) dk_58_74 L_58 rfl ?_
    refine Rn.pu (st' := [.int x1, .ref 18]) dk_58_75 L_58 rfl ?_
    obtain ⟨r10, e11, h⟩ := bindS h
    refine Rn.csI (As := [.int x1]) (rest := [.ref 18]) dk_58_76 ck_58_76.choose_spec rfl (x_61 (Nat.le_trans (Nat.le_of_ble_eq_true rfl) hD) e11) ?_
    obtain ⟨I12, eI12, h⟩ := letS h
    refine Rn.pI dk_58_79 f_58_79.choose_spec.1 sk_18 rfl f_58_79.choose_spec.2 rfl rfl ?_
    rw [← eI12]
    refine Rn.pu (st' := [.ref 18]) dk_58_82 L_58 rfl ?_
    refine Rn.pu (st' := [.ref 18, .ref 18]) dk_58_83 L_58 rfl ?_
    refine Rn.gI dk_58_84 f_58_84.choose_spec sk_18 rfl ?_
    refine Rn.ic dk_58_87 cic_1 ?_
    refine Rn.pu (st' := [.int ((I12 18 1) + 1), .ref 18]) dk_58_88 L_58 rfl ?_
    obtain ⟨I13, eI13, h⟩ := letS h
    refine Rn.pI dk_58_89 f_58_89.choose_spec.1 sk_18 rfl f_58_89.choose_spec.2 rfl rfl ?_
    rw [← eI13]
    cases h
    exact Rn.rv dk_58_92 R_58
def b_58_0 (I : dI) (J : dJ) : Option (dI × dJ) := (m_48 (I 18 1) I J).bind (fun r1 => (m_48 ((I 18 1) + 1) I J).bind (fun r3 => if ¬ r1 = r3 then (if ¬ r3 = 61 then (b_58_53 r1 1 I J) else ((m_60 r1 I J).bind (fun r7 => b_58_53 r1 r7 I J))) else ((m_59 r1 I J).bind (fun r9 => b_58_53 r1 r9 I J))))
theorem p_58_0 {Q : Nat → Option Nat} {D : Nat} (hD : 2 ≤ D) (I : dI) (J : dJ) (R : (dI × dJ)) (h : b_58_0 I J = some R) : Rn Q D 58 0 [(0, .ref 18)] [] I J (none) R.1 R.2 := by
  replace h : ((m_48 (I 18 1) I J).bind (fun r1 => (m_48 ((I 18 1) + 1) I J).bind (fun r3 => if ¬ r1 = r3 then (if ¬ r3 = 61 then (b_58_53 r1 1 I J) else ((m_60 r1 I J).bind (fun r7 => b_58_53 r1 r7 I J))) else ((m_59 r1 I J).bind (fun r9 => b_58_53 r1 r9 I J))))) = some R := h
  refine Rn.pu (st' := [.ref 18]) dk_58_0 L_58 rfl ?_
  refine Rn.gR (r := 1) dk_58_1 f_58_1.choose_spec sk_18 rfl ?_
  refine Rn.pu (st' := [.ref 18, .ref 1]) dk_58_4 L_58 rfl ?_
  refine Rn.gI dk_58_5 f_58_5.choose_spec sk_18 rfl ?_
  obtain ⟨r1, e2, h⟩ := bindS h
  refine Rn.cvI (p := 1) (As := [.int (I 18 1)]) (rest := []) dk_58_8 ck_58_8.choose_spec rfl sk_1 rfl (x_48 (Nat.le_trans (Nat.le_of_ble_eq_true rfl) hD) e2) ?_
  refine Rn.pu (ls' := [(1, .int r1), (0, .ref 18)]) (st' := []) dk_58_11 L_58 rfl ?_
  refine Rn.pu (st' := [.ref 18]) dk_58_12 L_58 rfl ?_
  refine Rn.gR (r := 1) dk_58_13 f_58_13.choose_spec sk_18 rfl ?_
  refine Rn.pu (st' := [.ref 18, .ref 1]) dk_58_16 L_58 rfl ?_
  refine Rn.gI dk_58_17 f_58_17.choose_spec sk_18 rfl ?_
  refine Rn.ic dk_58_20 cic_1 ?_
  refine Rn.pu (st' := [.int ((I 18 1) + 1), .ref 1]) dk_58_21 L_58 rfl ?_
  obtain ⟨r3, e4, h⟩ := bindS h
  refine Rn.cvI (p := 1) (As := [.int ((I 18 1) + 1)]) (rest := []) dk_58_22 ck_58_22.choose_spec rfl sk_1 rfl (x_48 (Nat.le_trans (Nat.le_of_ble_eq_true rfl) hD) e4) ?_
  refine Rn.pu (ls' := [(2, .int r3), (1, .int r1), (0, .ref 18)]) (st' := []) dk_58_25 L_58 rfl ?_
  refine Rn.pu (st' := [.ref 18]) dk_58_26 L_58 rfl ?_
  refine Rn.pu (st' := [.int r1, .ref 18]) dk_58_27 L_58 rfl ?_
  refine Rn.pu (st' := [.int r3, .int r1, .ref 18]) dk_58_28 L_58 rfl ?_
  by_cases c5 : ¬ r1 = r3
  · rw [if_pos c5] at h
    refine Rn.i2t (t := 39) dk_58_29 rfl (decide_eq_true c5) ?_
    refine Rn.pu (st' := [.int r3, .ref 18]) dk_58_39 L_58 rfl ?_
    refine Rn.bp dk_58_40 cbp_61 ?_
    by_cases c6 : ¬ r3 = 61
    · rw [if_pos c6] at h
      refine Rn.i2t (t := 52) dk_58_42 rfl (decide_eq_true c6) ?_
      refine Rn.ic dk_58_52 cic_1 ?_
      exact Rn.wk [2, 1] rfl (p_58_53 hD _ _ _ _ _ h)
    · rw [if_neg c6] at h
      refine Rn.i2f (t := 52) dk_58_42 rfl (decide_eq_false c6) ?_
      refine Rn.pu (st' := [.int r1, .ref 18]) dk_58_45 L_58 rfl ?_
      obtain ⟨r7, e8, h⟩ := bindS h
      refine Rn.csI (As := [.int r1]) (rest := [.ref 18]) dk_58_46 ck_58_46.choose_spec rfl (x_60 (Nat.le_trans (Nat.le_of_ble_eq_true rfl) hD) e8) ?_
      refine Rn.gt (t := 53) dk_58_49 rfl ?_
      exact Rn.wk [2, 1] rfl (p_58_53 hD _ _ _ _ _ h)
  · rw [if_neg c5] at h
    refine Rn.i2f (t := 39) dk_58_29 rfl (decide_eq_false c5) ?_
    refine Rn.pu (st' := [.int r1, .ref 18]) dk_58_32 L_58 rfl ?_
    obtain ⟨r9, e10, h⟩ := bindS h
    refine Rn.csI (As := [.int r1]) (rest := [.ref 18]) dk_58_33 ck_58_33.choose_spec rfl (x_59 (Nat.le_trans (Nat.le_of_ble_eq_true rfl) hD) e10) ?_
    refine Rn.gt (t := 53) dk_58_36 rfl ?_
    exact Rn.wk [2, 1] rfl (p_58_53 hD _ _ _ _ _ h)
def m_58 (I : dI) (J : dJ) : Option (dI × dJ) := b_58_0 I J
theorem x_58 {Q : Nat → Option Nat} {D : Nat} (hD : 3 ≤ D) {I : dI} {J : dJ} {R : (dI × dJ)} (h : m_58 I J = some R) : Ex Q D 58 I J [.ref 18] (none) R.1 R.2 := by
  obtain ⟨D, rfl⟩ : ∃ D', D = D' + 1 := ⟨D - 1, by omega⟩
  exact Ex.of (by decide) (by rw [L_58]; exact Nat.le_of_ble_eq_true rfl) (show xm_sub [(0, .ref 18)] [(0, .ref 18)] from xm_sub_of [0] [0] rfl rfl (by decide)) (p_58_0 (Nat.le_of_succ_le_succ hD) _ _ _ h)
-- ConditionDesk$Tokens.next()V
theorem L_46 : tb_mL 46 = 2 := by decide +kernel
theorem R_46 : tb_mr 46 = none := by decide +kernel
theorem dk_46_0 : decode (tb_mb 46) 0 = .ok (.aload_n 0, 1) := by decide +kernel
theorem dk_46_1 : decode (tb_mb 46) 1 = .ok (.invokevirtual 29, 3) := by decide +kernel
theorem ck_46_1 : ∃ b, tb_cr (tb_oc 46) 29 = some (0, 47, b, 0) := ⟨_, rfl⟩
theorem dk_46_4 : decode (tb_mb 46) 4 = .ok (.aload_n 0, 1) := by decide +kernel
theorem dk_46_5 : decode (tb_mb 46) 5 = .ok (.aload_n 0, 1) := by decide +kernel
theorem dk_46_6 : decode (tb_mb 46) 6 = .ok (.getfield 15, 3) := by decide +kernel
theorem f_46_6 : ∃ b, tb_fr (tb_oc 46) 15 = some (6, 2, b) := ⟨_, rfl⟩
theorem dk_46_9 : decode (tb_mb 46) 9 = .ok (.putfield 9, 3) := by decide +kernel
theorem f_46_9 : ∃ b, tb_fr (tb_oc 46) 9 = some (6, 1, b) ∧ xm_fin tb_cl (tb_ini 46) b 6 1 = true := ⟨_, rfl, rfl⟩
theorem dk_46_12 : decode (tb_mb 46) 12 = .ok (.aload_n 0, 1) := by decide +kernel
theorem dk_46_13 : decode (tb_mb 46) 13 = .ok (.lconst 0, 1) := by decide +kernel
theorem dk_46_14 : decode (tb_mb 46) 14 = .ok (.putfield 21, 3) := by decide +kernel
theorem f_46_14 : ∃ b, tb_fr (tb_oc 46) 21 = some (6, 4, b) ∧ xm_fin tb_cl (tb_ini 46) b 6 4 = true := ⟨_, rfl, rfl⟩
theorem dk_46_17 : decode (tb_mb 46) 17 = .ok (.aload_n 0, 1) := by decide +kernel
theorem dk_46_18 : decode (tb_mb 46) 18 = .ok (.getfield 25, 3) := by decide +kernel
theorem f_46_18 : ∃ b, tb_fr (tb_oc 46) 25 = some (6, 0, b) := ⟨_, rfl⟩
theorem dk_46_21 : decode (tb_mb 46) 21 = .ok (.aload_n 0, 1) := by decide +kernel
theorem dk_46_22 : decode (tb_mb 46) 22 = .ok (.getfield 9, 3) := by decide +kernel
theorem f_46_22 : ∃ b, tb_fr (tb_oc 46) 9 = some (6, 1, b) := ⟨_, rfl⟩
theorem dk_46_25 : decode (tb_mb 46) 25 = .ok (.invokevirtual 32, 3) := by decide +kernel
theorem ck_46_25 : ∃ b, tb_cr (tb_oc 46) 32 = some (0, 48, b, 1) := ⟨_, rfl⟩
theorem dk_46_28 : decode (tb_mb 46) 28 = .ok (.istore_n 1, 1) := by decide +kernel
theorem dk_46_29 : decode (tb_mb 46) 29 = .ok (.aload_n 0, 1) := by decide +kernel
theorem dk_46_30 : decode (tb_mb 46) 30 = .ok (.getfield 9, 3) := by decide +kernel
theorem f_46_30 : ∃ b, tb_fr (tb_oc 46) 9 = some (6, 1, b) := ⟨_, rfl⟩
theorem dk_46_33 : decode (tb_mb 46) 33 = .ok (.aload_n 0, 1) := by decide +kernel
theorem dk_46_34 : decode (tb_mb 46) 34 = .ok (.getfield 25, 3) := by decide +kernel
theorem f_46_34 : ∃ b, tb_fr (tb_oc 46) 25 = some (6, 0, b) := ⟨_, rfl⟩
theorem dk_46_37 : decode (tb_mb 46) 37 = .ok (.getfield 38, 3) := by decide +kernel
theorem f_46_37 : ∃ b, tb_fr (tb_oc 46) 38 = some (5, 1, b) := ⟨_, rfl⟩
theorem dk_46_40 : decode (tb_mb 46) 40 = .ok (.if_icmp .lt (11), 3) := by decide +kernel
theorem dk_46_51 : decode (tb_mb 46) 51 = .ok (.iload_n 1, 1) := by decide +kernel
theorem dk_46_52 : decode (tb_mb 46) 52 = .ok (.invokestatic 41, 3) := by decide +kernel
theorem ck_46_52 : ∃ b, tb_cr (tb_oc 46) 41 = some (1, 49, b, 1) := ⟨_, rfl⟩
theorem dk_46_55 : decode (tb_mb 46) 55 = .ok (.ifCond .eq (10), 3) := by decide +kernel
theorem dk_46_65 : decode (tb_mb 46) 65 = .ok (.iload_n 1, 1) := by decide +kernel
theorem dk_46_66 : decode (tb_mb 46) 66 = .ok (.invokestatic 48, 3) := by decide +kernel
theorem ck_46_66 : ∃ b, tb_cr (tb_oc 46) 48 = some (1, 53, b, 1) := ⟨_, rfl⟩
theorem dk_46_69 : decode (tb_mb 46) 69 = .ok (.ifCond .eq (10), 3) := by decide +kernel
theorem dk_46_79 : decode (tb_mb 46) 79 = .ok (.aload_n 0, 1) := by decide +kernel
theorem dk_46_80 : decode (tb_mb 46) 80 = .ok (.invokevirtual 54, 3) := by decide +kernel
theorem ck_46_80 : ∃ b, tb_cr (tb_oc 46) 54 = some (0, 58, b, 0) := ⟨_, rfl⟩
theorem dk_46_83 : decode (tb_mb 46) 83 = .ok (.return_, 1) := by decide +kernel
theorem dk_46_72 : decode (tb_mb 46) 72 = .ok (.aload_n 0, 1) := by decide +kernel
theorem dk_46_73 : decode (tb_mb 46) 73 = .ok (.invokevirtual 51, 3) := by decide +kernel
theorem ck_46_73 : ∃ b, tb_cr (tb_oc 46) 51 = some (0, 54, b, 0) := ⟨_, rfl⟩
theorem dk_46_76 : decode (tb_mb 46) 76 = .ok (.goto (7), 3) := by decide +kernel
theorem dk_46_58 : decode (tb_mb 46) 58 = .ok (.aload_n 0, 1) := by decide +kernel
theorem dk_46_59 : decode (tb_mb 46) 59 = .ok (.invokevirtual 45, 3) := by decide +kernel
theorem ck_46_59 : ∃ b, tb_cr (tb_oc 46) 45 = some (0, 50, b, 0) := ⟨_, rfl⟩
theorem dk_46_62 : decode (tb_mb 46) 62 = .ok (.goto (21), 3) := by decide +kernel
theorem dk_46_43 : decode (tb_mb 46) 43 = .ok (.aload_n 0, 1) := by decide +kernel
theorem dk_46_44 : decode (tb_mb 46) 44 = .ok (.iconst (0), 1) := by decide +kernel
theorem dk_46_45 : decode (tb_mb 46) 45 = .ok (.putfield 18, 3) := by decide +kernel
theorem f_46_45 : ∃ b, tb_fr (tb_oc 46) 18 = some (6, 3, b) ∧ xm_fin tb_cl (tb_ini 46) b 6 3 = true := ⟨_, rfl, rfl⟩
theorem dk_46_48 : decode (tb_mb 46) 48 = .ok (.goto (35), 3) := by decide +kernel
def b_46_0 (I : dI) (J : dJ) : Option (dI × dJ) := (m_47 I J).bind (fun r1 => lt_ (sI r1.1 18 1 (r1.1 18 2)) (fun I3 => lt_ (sJ r1.2 18 4 0) (fun J4 => (m_48 (I3 18 1) I3 J4).bind (fun r5 => if (I3 18 1) < (I3 1 1) then ((m_49 r5 I3 J4).bind (fun r8 => if r8 = 0 then ((m_53 r5 I3 J4).bind (fun r11 => if r11 = 0 then ((m_58 I3 J4).bind (fun r14 => some (r14.1, r14.2))) else ((m_54 I3 J4).bind (fun r16 => some (r16.1, r16.2))))) else ((m_50 I3 J4).bind (fun r18 => some (r18.1, r18.2))))) else (lt_ (sI I3 18 3 0) (fun I20 => some (I20, J4)))))))
theorem p_46_0 {Q : Nat → Option Nat} {D : Nat} (hD : 5 ≤ D) (I : dI) (J : dJ) (R : (dI × dJ)) (h : b_46_0 I J = some R) : Rn Q D 46 0 [(0, .ref 18)] [] I J (none) R.1 R.2 := by
  replace h : ((m_47 I J).bind (fun r1 => lt_ (sI r1.1 18 1 (r1.1 18 2)) (fun I3 => lt_ (sJ r1.2 18 4 0) (fun J4 => (m_48 (I3 18 1) I3 J4).bind (fun r5 => if (I3 18 1) < (I3 1 1) then ((m_49 r5 I3 J4).bind (fun r8 => if r8 = 0 then ((m_53 r5 I3 J4).bind (fun r11 => if r11 = 0 then ((m_58 I3 J4).bind (fun r14 => some (r14.1, r14.2))) else ((m_54 I3 J4).bind (fun r16 => some (r16.1, r16.2))))) else ((m_50 I3 J4).bind (fun r18 => some (r18.1, r18.2))))) else (lt_ (sI I3 18 3 0) (fun I20 => some (I20, J4)))))))) = some R := h
  refine Rn.pu (st' := [.ref 18]) dk_46_0 L_46 rfl ?_
  obtain ⟨r1, e2, h⟩ := bindS h
  refine Rn.cvV (p := 18) (As := []) (rest := []) dk_46_1 ck_46_1.choose_spec rfl sk_18 rfl (x_47 (Nat.le_trans (Nat.le_of_ble_eq_true rfl) hD) e2) ?_
  refine Rn.pu (st' := [.ref 18]) dk_46_4 L_46 rfl ?_
  refine Rn.pu (st' := [.ref 18, .ref 18]) dk_46_5 L_46 rfl ?_
  refine Rn.gI dk_46_6 f_46_6.choose_spec sk_18 rfl ?_
  obtain ⟨I3, eI3, h⟩ := letS h
  refine Rn.pI dk_46_9 f_46_9.choose_spec.1 sk_18 rfl f_46_9.choose_spec.2 rfl rfl ?_
  rw [← eI3]
  refine Rn.pu (st' := [.ref 18]) dk_46_12 L_46 rfl ?_
  refine Rn.lc dk_46_13 clc_0 ?_
  obtain ⟨J4, eJ4, h⟩ := letS h
  refine Rn.pJ dk_46_14 f_46_14.choose_spec.1 sk_18 rfl f_46_14.choose_spec.2 rfl rfl ?_
  rw [← eJ4]
  refine Rn.pu (st' := [.ref 18]) dk_46_17 L_46 rfl ?_
  refine Rn.gR (r := 1) dk_46_18 f_46_18.choose_spec sk_18 rfl ?_
  refine Rn.pu (st' := [.ref 18, .ref 1]) dk_46_21 L_46 rfl ?_
  refine Rn.gI dk_46_22 f_46_22.choose_spec sk_18 rfl ?_
  obtain ⟨r5, e6, h⟩ := bindS h
  refine Rn.cvI (p := 1) (As := [.int (I3 18 1)]) (rest := []) dk_46_25 ck_46_25.choose_spec rfl sk_1 rfl (x_48 (Nat.le_trans (Nat.le_of_ble_eq_true rfl) hD) e6) ?_
  refine Rn.pu (ls' := [(1, .int r5), (0, .ref 18)]) (st' := []) dk_46_28 L_46 rfl ?_
  refine Rn.pu (st' := [.ref 18]) dk_46_29 L_46 rfl ?_
  refine Rn.gI dk_46_30 f_46_30.choose_spec sk_18 rfl ?_
  refine Rn.pu (st' := [.ref 18, .int (I3 18 1)]) dk_46_33 L_46 rfl ?_
  refine Rn.gR (r := 1) dk_46_34 f_46_34.choose_spec sk_18 rfl ?_
  refine Rn.gI dk_46_37 f_46_37.choose_spec sk_1 rfl ?_
  by_cases c7 : (I3 18 1) < (I3 1 1)
  · rw [if_pos c7] at h
    refine Rn.i2t (t := 51) dk_46_40 rfl (decide_eq_true c7) ?_
    refine Rn.pu (st' := [.int r5]) dk_46_51 L_46 rfl ?_
    obtain ⟨r8, e9, h⟩ := bindS h
    refine Rn.csI (As := [.int r5]) (rest := []) dk_46_52 ck_46_52.choose_spec rfl (x_49 (Nat.le_trans (Nat.le_of_ble_eq_true rfl) hD) e9) ?_
    by_cases c10 : r8 = 0
    · rw [if_pos c10] at h
      refine Rn.i1t (t := 65) dk_46_55 rfl (decide_eq_true c10) ?_
      refine Rn.pu (st' := [.int r5]) dk_46_65 L_46 rfl ?_
      obtain ⟨r11, e12, h⟩ := bindS h
      refine Rn.csI (As := [.int r5]) (rest := []) dk_46_66 ck_46_66.choose_spec rfl (x_53 (Nat.le_trans (Nat.le_of_ble_eq_true rfl) hD) e12) ?_
      by_cases c13 : r11 = 0
      · rw [if_pos c13] at h
        refine Rn.i1t (t := 79) dk_46_69 rfl (decide_eq_true c13) ?_
        refine Rn.pu (st' := [.ref 18]) dk_46_79 L_46 rfl ?_
        obtain ⟨r14, e15, h⟩ := bindS h
        refine Rn.cvV (p := 18) (As := []) (rest := []) dk_46_80 ck_46_80.choose_spec rfl sk_18 rfl (x_58 (Nat.le_trans (Nat.le_of_ble_eq_true rfl) hD) e15) ?_
        cases h
        exact Rn.rv dk_46_83 R_46
      · rw [if_neg c13] at h
        refine Rn.i1f (t := 79) dk_46_69 rfl (decide_eq_false c13) ?_
        refine Rn.pu (st' := [.ref 18]) dk_46_72 L_46 rfl ?_
        obtain ⟨r16, e17, h⟩ := bindS h
        refine Rn.cvV (p := 18) (As := []) (rest := []) dk_46_73 ck_46_73.choose_spec rfl sk_18 rfl (x_54 (Nat.le_trans (Nat.le_of_ble_eq_true rfl) hD) e17) ?_
        refine Rn.gt (t := 83) dk_46_76 rfl ?_
        cases h
        exact Rn.rv dk_46_83 R_46
    · rw [if_neg c10] at h
      refine Rn.i1f (t := 65) dk_46_55 rfl (decide_eq_false c10) ?_
      refine Rn.pu (st' := [.ref 18]) dk_46_58 L_46 rfl ?_
      obtain ⟨r18, e19, h⟩ := bindS h
      refine Rn.cvV (p := 18) (As := []) (rest := []) dk_46_59 ck_46_59.choose_spec rfl sk_18 rfl (x_50 (Nat.le_trans (Nat.le_of_ble_eq_true rfl) hD) e19) ?_
      refine Rn.gt (t := 83) dk_46_62 rfl ?_
      cases h
      exact Rn.rv dk_46_83 R_46
  · rw [if_neg c7] at h
    refine Rn.i2f (t := 51) dk_46_40 rfl (decide_eq_false c7) ?_
    refine Rn.pu (st' := [.ref 18]) dk_46_43 L_46 rfl ?_
    refine Rn.ic dk_46_44 cic_0 ?_
    obtain ⟨I20, eI20, h⟩ := letS h
    refine Rn.pI dk_46_45 f_46_45.choose_spec.1 sk_18 rfl f_46_45.choose_spec.2 rfl rfl ?_
    rw [← eI20]
    refine Rn.gt (t := 83) dk_46_48 rfl ?_
    cases h
    exact Rn.rv dk_46_83 R_46
def m_46 (I : dI) (J : dJ) : Option (dI × dJ) := b_46_0 I J
theorem x_46 {Q : Nat → Option Nat} {D : Nat} (hD : 6 ≤ D) {I : dI} {J : dJ} {R : (dI × dJ)} (h : m_46 I J = some R) : Ex Q D 46 I J [.ref 18] (none) R.1 R.2 := by
  obtain ⟨D, rfl⟩ : ∃ D', D = D' + 1 := ⟨D - 1, by omega⟩
  exact Ex.of (by decide) (by rw [L_46]; exact Nat.le_of_ble_eq_true rfl) (show xm_sub [(0, .ref 18)] [(0, .ref 18)] from xm_sub_of [0] [0] rfl rfl (by decide)) (p_46_0 (Nat.le_of_succ_le_succ hD) _ _ _ h)
-- ConditionDesk$Builder.beginsOperand(I)Z
theorem L_64 : tb_mL 64 = 1 := by decide +kernel
theorem R_64 : tb_mr 64 = some .boolean := by decide +kernel
theorem dk_64_0 : decode (tb_mb 64) 0 = .ok (.iload_n 0, 1) := by decide +kernel
theorem dk_64_1 : decode (tb_mb 64) 1 = .ok (.tableswitch (133) 2 30 #[131, 131, 131, 131, 131, 131, 131, 131, 131, 133, 131, 133, 131, 131, 133, 133, 133, 133, 133, 133, 133, 133, 133, 133, 133, 133, 133, 133, 131], 131) := by decide +kernel
theorem dk_64_132 : decode (tb_mb 64) 132 = .ok (.iconst (1), 1) := by decide +kernel
theorem dk_64_133 : decode (tb_mb 64) 133 = .ok (.ireturn, 1) := by decide +kernel
theorem dk_64_134 : decode (tb_mb 64) 134 = .ok (.iconst (0), 1) := by decide +kernel
theorem dk_64_135 : decode (tb_mb 64) 135 = .ok (.ireturn, 1) := by decide +kernel
def b_64_0 (x0 : Int32) (I : dI) (J : dJ) : Option Int32 := if x0 = 2 then (some 1) else if x0 = 3 then (some 1) else if x0 = 4 then (some 1) else if x0 = 5 then (some 1) else if x0 = 6 then (some 1) else if x0 = 7 then (some 1) else if x0 = 8 then (some 1) else if x0 = 9 then (some 1) else if x0 = 10 then (some 1) else if x0 = 12 then (some 1) else if x0 = 14 then (some 1) else if x0 = 15 then (some 1) else if x0 = 30 then (some 1) else (some 0)
theorem p_64_0 {Q : Nat → Option Nat} {D : Nat} (hD : 1 ≤ D) (x0 : Int32) (I : dI) (J : dJ) (R : Int32) (h : b_64_0 x0 I J = some R) : Rn Q D 64 0 [(0, .int x0)] [] I J (some (.int R)) I J := by
  replace h : (if x0 = 2 then (some 1) else if x0 = 3 then (some 1) else if x0 = 4 then (some 1) else if x0 = 5 then (some 1) else if x0 = 6 then (some 1) else if x0 = 7 then (some 1) else if x0 = 8 then (some 1) else if x0 = 9 then (some 1) else if x0 = 10 then (some 1) else if x0 = 12 then (some 1) else if x0 = 14 then (some 1) else if x0 = 15 then (some 1) else if x0 = 30 then (some 1) else (some 0)) = some R := h
  refine Rn.pu (st' := [.int x0]) dk_64_0 L_64 rfl ?_
  by_cases c1 : x0 = 2
  · rw [if_pos c1] at h
    refine Rn.sw (t := 132) (st' := []) dk_64_1 (fun _ _ => rfl) (by rw [c1]; rfl) ?_
    refine Rn.ic dk_64_132 cic_1 ?_
    cases h
    exact Rn.ri dk_64_133 R_64 rfl
  · rw [if_neg c1] at h
    by_cases c2 : x0 = 3
    · rw [if_pos c2] at h
      refine Rn.sw (t := 132) (st' := []) dk_64_1 (fun _ _ => rfl) (by rw [c2]; rfl) ?_
      refine Rn.ic dk_64_132 cic_1 ?_
      cases h
      exact Rn.ri dk_64_133 R_64 rfl
    · rw [if_neg c2] at h
      by_cases c3 : x0 = 4
      · rw [if_pos c3] at h
        refine Rn.sw (t := 132) (st' := []) dk_64_1 (fun _ _ => rfl) (by rw [c3]; rfl) ?_
        refine Rn.ic dk_64_132 cic_1 ?_
        cases h
        exact Rn.ri dk_64_133 R_64 rfl
      · rw [if_neg c3] at h
        by_cases c4 : x0 = 5
        · rw [if_pos c4] at h
          refine Rn.sw (t := 132) (st' := []) dk_64_1 (fun _ _ => rfl) (by rw [c4]; rfl) ?_
          refine Rn.ic dk_64_132 cic_1 ?_
          cases h
          exact Rn.ri dk_64_133 R_64 rfl
        · rw [if_neg c4] at h
          by_cases c5 : x0 = 6
          · rw [if_pos c5] at h
            refine Rn.sw (t := 132) (st' := []) dk_64_1 (fun _ _ => rfl) (by rw [c5]; rfl) ?_
            refine Rn.ic dk_64_132 cic_1 ?_
            cases h
            exact Rn.ri dk_64_133 R_64 rfl
          · rw [if_neg c5] at h
            by_cases c6 : x0 = 7
            · rw [if_pos c6] at h
              refine Rn.sw (t := 132) (st' := []) dk_64_1 (fun _ _ => rfl) (by rw [c6]; rfl) ?_
              refine Rn.ic dk_64_132 cic_1 ?_
              cases h
              exact Rn.ri dk_64_133 R_64 rfl
            · rw [if_neg c6] at h
              by_cases c7 : x0 = 8
              · rw [if_pos c7] at h
                refine Rn.sw (t := 132) (st' := []) dk_64_1 (fun _ _ => rfl) (by rw [c7]; rfl) ?_
                refine Rn.ic dk_64_132 cic_1 ?_
                cases h
                exact Rn.ri dk_64_133 R_64 rfl
              · rw [if_neg c7] at h
                by_cases c8 : x0 = 9
                · rw [if_pos c8] at h
                  refine Rn.sw (t := 132) (st' := []) dk_64_1 (fun _ _ => rfl) (by rw [c8]; rfl) ?_
                  refine Rn.ic dk_64_132 cic_1 ?_
                  cases h
                  exact Rn.ri dk_64_133 R_64 rfl
                · rw [if_neg c8] at h
                  by_cases c9 : x0 = 10
                  · rw [if_pos c9] at h
                    refine Rn.sw (t := 132) (st' := []) dk_64_1 (fun _ _ => rfl) (by rw [c9]; rfl) ?_
                    refine Rn.ic dk_64_132 cic_1 ?_
                    cases h
                    exact Rn.ri dk_64_133 R_64 rfl
                  · rw [if_neg c9] at h
                    by_cases c10 : x0 = 12
                    · rw [if_pos c10] at h
                      refine Rn.sw (t := 132) (st' := []) dk_64_1 (fun _ _ => rfl) (by rw [c10]; rfl) ?_
                      refine Rn.ic dk_64_132 cic_1 ?_
                      cases h
                      exact Rn.ri dk_64_133 R_64 rfl
                    · rw [if_neg c10] at h
                      by_cases c11 : x0 = 14
                      · rw [if_pos c11] at h
                        refine Rn.sw (t := 132) (st' := []) dk_64_1 (fun _ _ => rfl) (by rw [c11]; rfl) ?_
                        refine Rn.ic dk_64_132 cic_1 ?_
                        cases h
                        exact Rn.ri dk_64_133 R_64 rfl
                      · rw [if_neg c11] at h
                        by_cases c12 : x0 = 15
                        · rw [if_pos c12] at h
                          refine Rn.sw (t := 132) (st' := []) dk_64_1 (fun _ _ => rfl) (by rw [c12]; rfl) ?_
                          refine Rn.ic dk_64_132 cic_1 ?_
                          cases h
                          exact Rn.ri dk_64_133 R_64 rfl
                        · rw [if_neg c12] at h
                          by_cases c13 : x0 = 30
                          · rw [if_pos c13] at h
                            refine Rn.sw (t := 132) (st' := []) dk_64_1 (fun _ _ => rfl) (by rw [c13]; rfl) ?_
                            refine Rn.ic dk_64_132 cic_1 ?_
                            cases h
                            exact Rn.ri dk_64_133 R_64 rfl
                          · rw [if_neg c13] at h
                            have q0 : xm_br (.tableswitch (133) 2 30 #[131, 131, 131, 131, 131, 131, 131, 131, 131, 133, 131, 133, 131, 131, 133, 133, 133, 133, 133, 133, 133, 133, 133, 133, 133, 133, 133, 133, 131]) 131 1 (.int x0 :: []) = some (true, 134, []) := by
                              by_cases c14 : x0 = 11
                              · rw [c14]; rfl
                              ·
                                by_cases c15 : x0 = 13
                                · rw [c15]; rfl
                                ·
                                  by_cases c16 : x0 = 16
                                  · rw [c16]; rfl
                                  ·
                                    by_cases c17 : x0 = 17
                                    · rw [c17]; rfl
                                    ·
                                      by_cases c18 : x0 = 18
                                      · rw [c18]; rfl
                                      ·
                                        by_cases c19 : x0 = 19
                                        · rw [c19]; rfl
                                        ·
                                          by_cases c20 : x0 = 20
                                          · rw [c20]; rfl
                                          ·
                                            by_cases c21 : x0 = 21
                                            · rw [c21]; rfl
                                            ·
                                              by_cases c22 : x0 = 22
                                              · rw [c22]; rfl
                                              ·
                                                by_cases c23 : x0 = 23
                                                · rw [c23]; rfl
                                                ·
                                                  by_cases c24 : x0 = 24
                                                  · rw [c24]; rfl
                                                  ·
                                                    by_cases c25 : x0 = 25
                                                    · rw [c25]; rfl
                                                    ·
                                                      by_cases c26 : x0 = 26
                                                      · rw [c26]; rfl
                                                      ·
                                                        by_cases c27 : x0 = 27
                                                        · rw [c27]; rfl
                                                        ·
                                                          by_cases c28 : x0 = 28
                                                          · rw [c28]; rfl
                                                          ·
                                                            by_cases c29 : x0 = 29
                                                            · rw [c29]; rfl
                                                            ·
                                                              have q1 := i_ne c1 (z := 2) rfl
                                                              have q2 := i_ne c2 (z := 3) rfl
                                                              have q3 := i_ne c3 (z := 4) rfl
                                                              have q4 := i_ne c4 (z := 5) rfl
                                                              have q5 := i_ne c5 (z := 6) rfl
                                                              have q6 := i_ne c6 (z := 7) rfl
                                                              have q7 := i_ne c7 (z := 8) rfl
                                                              have q8 := i_ne c8 (z := 9) rfl
                                                              have q9 := i_ne c9 (z := 10) rfl
                                                              have q10 := i_ne c10 (z := 12) rfl
                                                              have q11 := i_ne c11 (z := 14) rfl
                                                              have q12 := i_ne c12 (z := 15) rfl
                                                              have q13 := i_ne c13 (z := 30) rfl
                                                              have q14 := i_ne c14 (z := 11) rfl
                                                              have q15 := i_ne c15 (z := 13) rfl
                                                              have q16 := i_ne c16 (z := 16) rfl
                                                              have q17 := i_ne c17 (z := 17) rfl
                                                              have q18 := i_ne c18 (z := 18) rfl
                                                              have q19 := i_ne c19 (z := 19) rfl
                                                              have q20 := i_ne c20 (z := 20) rfl
                                                              have q21 := i_ne c21 (z := 21) rfl
                                                              have q22 := i_ne c22 (z := 22) rfl
                                                              have q23 := i_ne c23 (z := 23) rfl
                                                              have q24 := i_ne c24 (z := 24) rfl
                                                              have q25 := i_ne c25 (z := 25) rfl
                                                              have q26 := i_ne c26 (z := 26) rfl
                                                              have q27 := i_ne c27 (z := 27) rfl
                                                              have q28 := i_ne c28 (z := 28) rfl
                                                              have q29 := i_ne c29 (z := 29) rfl
                                                              exact ts_def (by omega) rfl
                            refine Rn.sw dk_64_1 (fun _ _ => rfl) q0 ?_
                            refine Rn.ic dk_64_134 cic_0 ?_
                            cases h
                            exact Rn.ri dk_64_135 R_64 rfl
def m_64 (x0 : Int32) (I : dI) (J : dJ) : Option Int32 := b_64_0 x0 I J
theorem x_64 {Q : Nat → Option Nat} {D : Nat} (hD : 2 ≤ D) {x0 : Int32} {I : dI} {J : dJ} {R : Int32} (h : m_64 x0 I J = some R) : Ex Q D 64 I J [.int x0] (some (.int R)) I J := by
  obtain ⟨D, rfl⟩ : ∃ D', D = D' + 1 := ⟨D - 1, by omega⟩
  exact Ex.of (by decide) (by rw [L_64]; exact Nat.le_of_ble_eq_true rfl) (show xm_sub [(0, .int x0)] [(0, .int x0)] from xm_sub_of [0] [0] rfl rfl (by decide)) (p_64_0 (Nat.le_of_succ_le_succ hD) _ _ _ _ h)
-- ConditionDesk$Pile.top()I
theorem L_66 : tb_mL 66 = 1 := by decide +kernel
theorem R_66 : tb_mr 66 = some .int := by decide +kernel
theorem dk_66_0 : decode (tb_mb 66) 0 = .ok (.aload_n 0, 1) := by decide +kernel
theorem dk_66_1 : decode (tb_mb 66) 1 = .ok (.getfield 7, 3) := by decide +kernel
theorem f_66_1 : ∃ b, tb_fr (tb_oc 66) 7 = some (3, 1, b) := ⟨_, rfl⟩
theorem dk_66_4 : decode (tb_mb 66) 4 = .ok (.ifCond .le (29), 3) := by decide +kernel
theorem dk_66_33 : decode (tb_mb 66) 33 = .ok (.iconst (-1), 1) := by decide +kernel
theorem dk_66_34 : decode (tb_mb 66) 34 = .ok (.ireturn, 1) := by decide +kernel
theorem dk_66_7 : decode (tb_mb 66) 7 = .ok (.aload_n 0, 1) := by decide +kernel
theorem dk_66_8 : decode (tb_mb 66) 8 = .ok (.getfield 7, 3) := by decide +kernel
theorem f_66_8 : ∃ b, tb_fr (tb_oc 66) 7 = some (3, 1, b) := ⟨_, rfl⟩
theorem dk_66_11 : decode (tb_mb 66) 11 = .ok (.aload_n 0, 1) := by decide +kernel
theorem dk_66_12 : decode (tb_mb 66) 12 = .ok (.getfield 13, 3) := by decide +kernel
theorem f_66_12 : ∃ b, tb_fr (tb_oc 66) 13 = some (3, 0, b) := ⟨_, rfl⟩
theorem dk_66_15 : decode (tb_mb 66) 15 = .ok (.arraylength, 1) := by decide +kernel
theorem dk_66_16 : decode (tb_mb 66) 16 = .ok (.if_icmp .gt (17), 3) := by decide +kernel
theorem dk_66_19 : decode (tb_mb 66) 19 = .ok (.aload_n 0, 1) := by decide +kernel
theorem dk_66_20 : decode (tb_mb 66) 20 = .ok (.getfield 13, 3) := by decide +kernel
theorem f_66_20 : ∃ b, tb_fr (tb_oc 66) 13 = some (3, 0, b) := ⟨_, rfl⟩
theorem dk_66_23 : decode (tb_mb 66) 23 = .ok (.aload_n 0, 1) := by decide +kernel
theorem dk_66_24 : decode (tb_mb 66) 24 = .ok (.getfield 7, 3) := by decide +kernel
theorem f_66_24 : ∃ b, tb_fr (tb_oc 66) 7 = some (3, 1, b) := ⟨_, rfl⟩
theorem dk_66_27 : decode (tb_mb 66) 27 = .ok (.iconst (1), 1) := by decide +kernel
theorem dk_66_28 : decode (tb_mb 66) 28 = .ok (.isub, 1) := by decide +kernel
theorem dk_66_29 : decode (tb_mb 66) 29 = .ok (.iaload, 1) := by decide +kernel
theorem dk_66_30 : decode (tb_mb 66) 30 = .ok (.goto (4), 3) := by decide +kernel
def b_66_0 (p : Nat) (np : Nat) (I : dI) (J : dJ) : Option Int32 := if (I p 1) ≤ 0 then (some (-1)) else (if (Int32.ofNat np) < (I p 1) then (some (-1)) else (if ¬ (((I p 1) - 1) < 0 ∨ np ≤ Int32.toNatClampNeg ((I p 1) - 1)) then (some (I (p + 1) (Int32.toNatClampNeg ((I p 1) - 1)))) else none))
theorem p_66_0 {Q : Nat → Option Nat} {D : Nat} {p : Nat} {np : Nat} (hD : 1 ≤ D) (okp : okPi p np) (I : dI) (J : dJ) (R : Int32) (h : b_66_0 p np I J = some R) : Rn Q D 66 0 [(0, .ref p)] [] I J (some (.int R)) I J := by
  replace h : (if (I p 1) ≤ 0 then (some (-1)) else (if (Int32.ofNat np) < (I p 1) then (some (-1)) else (if ¬ (((I p 1) - 1) < 0 ∨ np ≤ Int32.toNatClampNeg ((I p 1) - 1)) then (some (I (p + 1) (Int32.toNatClampNeg ((I p 1) - 1)))) else none))) = some R := h
  refine Rn.pu (st' := [.ref p]) dk_66_0 L_66 rfl ?_
  refine Rn.gI dk_66_1 f_66_1.choose_spec okp.1 rfl ?_
  by_cases c1 : (I p 1) ≤ 0
  · rw [if_pos c1] at h
    refine Rn.i1t (t := 33) dk_66_4 rfl (decide_eq_true c1) ?_
    refine Rn.ic dk_66_33 cic_m1 ?_
    cases h
    exact Rn.ri dk_66_34 R_66 rfl
  · rw [if_neg c1] at h
    refine Rn.i1f (t := 33) dk_66_4 rfl (decide_eq_false c1) ?_
    refine Rn.pu (st' := [.ref p]) dk_66_7 L_66 rfl ?_
    refine Rn.gI dk_66_8 f_66_8.choose_spec okp.1 rfl ?_
    refine Rn.pu (st' := [.ref p, .int (I p 1)]) dk_66_11 L_66 rfl ?_
    refine Rn.gR (r := (p + 1)) dk_66_12 f_66_12.choose_spec okp.1 rfl ?_
    refine Rn.alen dk_66_15 okp.2 (by decide) ?_
    by_cases c2 : (Int32.ofNat np) < (I p 1)
    · rw [if_pos c2] at h
      refine Rn.i2t (t := 33) dk_66_16 rfl (decide_eq_true c2) ?_
      refine Rn.ic dk_66_33 cic_m1 ?_
      cases h
      exact Rn.ri dk_66_34 R_66 rfl
    · rw [if_neg c2] at h
      refine Rn.i2f (t := 33) dk_66_16 rfl (decide_eq_false c2) ?_
      refine Rn.pu (st' := [.ref p]) dk_66_19 L_66 rfl ?_
      refine Rn.gR (r := (p + 1)) dk_66_20 f_66_20.choose_spec okp.1 rfl ?_
      refine Rn.pu (st' := [.ref p, .ref (p + 1)]) dk_66_23 L_66 rfl ?_
      refine Rn.gI dk_66_24 f_66_24.choose_spec okp.1 rfl ?_
      refine Rn.ic dk_66_27 cic_1 ?_
      refine Rn.pu (st' := [.int ((I p 1) - 1), .ref (p + 1)]) dk_66_28 L_66 rfl ?_
      obtain ⟨c3, h⟩ := xm_if h
      refine Rn.iald dk_66_29 okp.2 c3 ?_
      refine Rn.gt (t := 34) dk_66_30 rfl ?_
      cases h
      exact Rn.ri dk_66_34 R_66 rfl
def m_66 (p : Nat) (np : Nat) (I : dI) (J : dJ) : Option Int32 := b_66_0 p np I J
theorem x_66 {Q : Nat → Option Nat} {D : Nat} {p : Nat} {np : Nat} (hD : 2 ≤ D) (okp : okPi p np) {I : dI} {J : dJ} {R : Int32} (h : m_66 p np I J = some R) : Ex Q D 66 I J [.ref p] (some (.int R)) I J := by
  obtain ⟨D, rfl⟩ : ∃ D', D = D' + 1 := ⟨D - 1, by omega⟩
  exact Ex.of (by decide) (by rw [L_66]; exact Nat.le_of_ble_eq_true rfl) (show xm_sub [(0, .ref p)] [(0, .ref p)] from xm_sub_of [0] [0] rfl rfl (by decide)) (p_66_0 (Nat.le_of_succ_le_succ hD) okp _ _ _ h)
-- ConditionDesk.standsBetween(I)Z
theorem L_67 : tb_mL 67 = 1 := by decide +kernel
theorem R_67 : tb_mr 67 = some .boolean := by decide +kernel
theorem dk_67_0 : decode (tb_mb 67) 0 = .ok (.iload_n 0, 1) := by decide +kernel
theorem dk_67_1 : decode (tb_mb 67) 1 = .ok (.bipush (16), 2) := by decide +kernel
theorem dk_67_3 : decode (tb_mb 67) 3 = .ok (.if_icmp .lt (13), 3) := by decide +kernel
theorem dk_67_16 : decode (tb_mb 67) 16 = .ok (.iconst (0), 1) := by decide +kernel
theorem dk_67_17 : decode (tb_mb 67) 17 = .ok (.ireturn, 1) := by decide +kernel
theorem dk_67_6 : decode (tb_mb 67) 6 = .ok (.iload_n 0, 1) := by decide +kernel
theorem dk_67_7 : decode (tb_mb 67) 7 = .ok (.bipush (33), 2) := by decide +kernel
theorem dk_67_9 : decode (tb_mb 67) 9 = .ok (.if_icmp .gt (7), 3) := by decide +kernel
theorem dk_67_12 : decode (tb_mb 67) 12 = .ok (.iconst (1), 1) := by decide +kernel
theorem dk_67_13 : decode (tb_mb 67) 13 = .ok (.goto (4), 3) := by decide +kernel
def b_67_0 (x0 : Int32) (I : dI) (J : dJ) : Option Int32 := if x0 < 16 then (some 0) else (if 33 < x0 then (some 0) else (some 1))
theorem p_67_0 {Q : Nat → Option Nat} {D : Nat} (hD : 1 ≤ D) (x0 : Int32) (I : dI) (J : dJ) (R : Int32) (h : b_67_0 x0 I J = some R) : Rn Q D 67 0 [(0, .int x0)] [] I J (some (.int R)) I J := by
  replace h : (if x0 < 16 then (some 0) else (if 33 < x0 then (some 0) else (some 1))) = some R := h
  refine Rn.pu (st' := [.int x0]) dk_67_0 L_67 rfl ?_
  refine Rn.bp dk_67_1 cbp_16 ?_
  by_cases c1 : x0 < 16
  · rw [if_pos c1] at h
    refine Rn.i2t (t := 16) dk_67_3 rfl (decide_eq_true c1) ?_
    refine Rn.ic dk_67_16 cic_0 ?_
    cases h
    exact Rn.ri dk_67_17 R_67 rfl
  · rw [if_neg c1] at h
    refine Rn.i2f (t := 16) dk_67_3 rfl (decide_eq_false c1) ?_
    refine Rn.pu (st' := [.int x0]) dk_67_6 L_67 rfl ?_
    refine Rn.bp dk_67_7 cbp_33 ?_
    by_cases c2 : 33 < x0
    · rw [if_pos c2] at h
      refine Rn.i2t (t := 16) dk_67_9 rfl (decide_eq_true c2) ?_
      refine Rn.ic dk_67_16 cic_0 ?_
      cases h
      exact Rn.ri dk_67_17 R_67 rfl
    · rw [if_neg c2] at h
      refine Rn.i2f (t := 16) dk_67_9 rfl (decide_eq_false c2) ?_
      refine Rn.ic dk_67_12 cic_1 ?_
      refine Rn.gt (t := 17) dk_67_13 rfl ?_
      cases h
      exact Rn.ri dk_67_17 R_67 rfl
def m_67 (x0 : Int32) (I : dI) (J : dJ) : Option Int32 := b_67_0 x0 I J
theorem x_67 {Q : Nat → Option Nat} {D : Nat} (hD : 2 ≤ D) {x0 : Int32} {I : dI} {J : dJ} {R : Int32} (h : m_67 x0 I J = some R) : Ex Q D 67 I J [.int x0] (some (.int R)) I J := by
  obtain ⟨D, rfl⟩ : ∃ D', D = D' + 1 := ⟨D - 1, by omega⟩
  exact Ex.of (by decide) (by rw [L_67]; exact Nat.le_of_ble_eq_true rfl) (show xm_sub [(0, .int x0)] [(0, .int x0)] from xm_sub_of [0] [0] rfl rfl (by decide)) (p_67_0 (Nat.le_of_succ_le_succ hD) _ _ _ _ h)
-- ConditionDesk$Builder.followsOperand(I)Z
theorem L_65 : tb_mL 65 = 2 := by decide +kernel
theorem R_65 : tb_mr 65 = some .boolean := by decide +kernel
theorem dk_65_0 : decode (tb_mb 65) 0 = .ok (.iload_n 1, 1) := by decide +kernel
theorem dk_65_1 : decode (tb_mb 65) 1 = .ok (.lookupswitch (87) #[(0, 35), (11, 51), (13, 69)], 35) := by decide +kernel
theorem dk_65_36 : decode (tb_mb 65) 36 = .ok (.aload_n 0, 1) := by decide +kernel
theorem dk_65_37 : decode (tb_mb 65) 37 = .ok (.getfield 30, 3) := by decide +kernel
theorem f_65_37 : ∃ b, tb_fr (tb_oc 65) 30 = some (0, 5, b) := ⟨_, rfl⟩
theorem dk_65_40 : decode (tb_mb 65) 40 = .ok (.getfield 95, 3) := by decide +kernel
theorem f_65_40 : ∃ b, tb_fr (tb_oc 65) 95 = some (3, 1, b) := ⟨_, rfl⟩
theorem dk_65_43 : decode (tb_mb 65) 43 = .ok (.ifCond .ne (7), 3) := by decide +kernel
theorem dk_65_50 : decode (tb_mb 65) 50 = .ok (.iconst (0), 1) := by decide +kernel
theorem dk_65_51 : decode (tb_mb 65) 51 = .ok (.ireturn, 1) := by decide +kernel
theorem dk_65_46 : decode (tb_mb 65) 46 = .ok (.iconst (1), 1) := by decide +kernel
theorem dk_65_47 : decode (tb_mb 65) 47 = .ok (.goto (4), 3) := by decide +kernel
theorem dk_65_52 : decode (tb_mb 65) 52 = .ok (.aload_n 0, 1) := by decide +kernel
theorem dk_65_53 : decode (tb_mb 65) 53 = .ok (.getfield 30, 3) := by decide +kernel
theorem f_65_53 : ∃ b, tb_fr (tb_oc 65) 30 = some (0, 5, b) := ⟨_, rfl⟩
theorem dk_65_56 : decode (tb_mb 65) 56 = .ok (.invokevirtual 104, 3) := by decide +kernel
theorem ck_65_56 : ∃ b, tb_cr (tb_oc 65) 104 = some (0, 66, b, 0) := ⟨_, rfl⟩
theorem dk_65_59 : decode (tb_mb 65) 59 = .ok (.bipush (10), 2) := by decide +kernel
theorem dk_65_61 : decode (tb_mb 65) 61 = .ok (.if_icmp .ne (7), 3) := by decide +kernel
theorem dk_65_68 : decode (tb_mb 65) 68 = .ok (.iconst (0), 1) := by decide +kernel
theorem dk_65_69 : decode (tb_mb 65) 69 = .ok (.ireturn, 1) := by decide +kernel
theorem dk_65_64 : decode (tb_mb 65) 64 = .ok (.iconst (1), 1) := by decide +kernel
theorem dk_65_65 : decode (tb_mb 65) 65 = .ok (.goto (4), 3) := by decide +kernel
theorem dk_65_70 : decode (tb_mb 65) 70 = .ok (.aload_n 0, 1) := by decide +kernel
theorem dk_65_71 : decode (tb_mb 65) 71 = .ok (.getfield 30, 3) := by decide +kernel
theorem f_65_71 : ∃ b, tb_fr (tb_oc 65) 30 = some (0, 5, b) := ⟨_, rfl⟩
theorem dk_65_74 : decode (tb_mb 65) 74 = .ok (.invokevirtual 104, 3) := by decide +kernel
theorem ck_65_74 : ∃ b, tb_cr (tb_oc 65) 104 = some (0, 66, b, 0) := ⟨_, rfl⟩
theorem dk_65_77 : decode (tb_mb 65) 77 = .ok (.bipush (12), 2) := by decide +kernel
theorem dk_65_79 : decode (tb_mb 65) 79 = .ok (.if_icmp .ne (7), 3) := by decide +kernel
theorem dk_65_86 : decode (tb_mb 65) 86 = .ok (.iconst (0), 1) := by decide +kernel
theorem dk_65_87 : decode (tb_mb 65) 87 = .ok (.ireturn, 1) := by decide +kernel
theorem dk_65_82 : decode (tb_mb 65) 82 = .ok (.iconst (1), 1) := by decide +kernel
theorem dk_65_83 : decode (tb_mb 65) 83 = .ok (.goto (4), 3) := by decide +kernel
theorem dk_65_88 : decode (tb_mb 65) 88 = .ok (.iload_n 1, 1) := by decide +kernel
theorem dk_65_89 : decode (tb_mb 65) 89 = .ok (.invokestatic 108, 3) := by decide +kernel
theorem ck_65_89 : ∃ b, tb_cr (tb_oc 65) 108 = some (1, 67, b, 1) := ⟨_, rfl⟩
theorem dk_65_92 : decode (tb_mb 65) 92 = .ok (.ireturn, 1) := by decide +kernel
def b_65_0 (x1 : Int32) (I : dI) (J : dJ) : Option Int32 := if x1 = 0 then (if ¬ (I 16 1) = 0 then (some 0) else (some 1)) else if x1 = 11 then ((m_66 16 8 I J).bind (fun r4 => if ¬ r4 = 10 then (some 0) else (some 1))) else if x1 = 13 then ((m_66 16 8 I J).bind (fun r8 => if ¬ r8 = 12 then (some 0) else (some 1))) else ((m_67 x1 I J).bind (fun r11 => if r11 = 0 ∨ r11 = 1 then (some r11) else none))
theorem p_65_0 {Q : Nat → Option Nat} {D : Nat} (hD : 2 ≤ D) (x1 : Int32) (I : dI) (J : dJ) (R : Int32) (h : b_65_0 x1 I J = some R) : Rn Q D 65 0 [(0, .ref 6), (1, .int x1)] [] I J (some (.int R)) I J := by
  replace h : (if x1 = 0 then (if ¬ (I 16 1) = 0 then (some 0) else (some 1)) else if x1 = 11 then ((m_66 16 8 I J).bind (fun r4 => if ¬ r4 = 10 then (some 0) else (some 1))) else if x1 = 13 then ((m_66 16 8 I J).bind (fun r8 => if ¬ r8 = 12 then (some 0) else (some 1))) else ((m_67 x1 I J).bind (fun r11 => if r11 = 0 ∨ r11 = 1 then (some r11) else none))) = some R := h
  refine Rn.pu (st' := [.int x1]) dk_65_0 L_65 rfl ?_
  by_cases c1 : x1 = 0
  · rw [if_pos c1] at h
    refine Rn.sw (t := 36) (st' := []) dk_65_1 (fun _ _ => rfl) (by rw [c1]; rfl) ?_
    refine Rn.pu (st' := [.ref 6]) dk_65_36 L_65 rfl ?_
    refine Rn.gR (r := 16) dk_65_37 f_65_37.choose_spec sk_6 rfl ?_
    refine Rn.gI dk_65_40 f_65_40.choose_spec sk_16 rfl ?_
    by_cases c2 : ¬ (I 16 1) = 0
    · rw [if_pos c2] at h
      refine Rn.i1t (t := 50) dk_65_43 rfl (decide_eq_true c2) ?_
      refine Rn.ic dk_65_50 cic_0 ?_
      cases h
      exact Rn.ri dk_65_51 R_65 rfl
    · rw [if_neg c2] at h
      refine Rn.i1f (t := 50) dk_65_43 rfl (decide_eq_false c2) ?_
      refine Rn.ic dk_65_46 cic_1 ?_
      refine Rn.gt (t := 51) dk_65_47 rfl ?_
      cases h
      exact Rn.ri dk_65_51 R_65 rfl
  · rw [if_neg c1] at h
    by_cases c3 : x1 = 11
    · rw [if_pos c3] at h
      refine Rn.sw (t := 52) (st' := []) dk_65_1 (fun _ _ => rfl) (by rw [c3]; rfl) ?_
      refine Rn.pu (st' := [.ref 6]) dk_65_52 L_65 rfl ?_
      refine Rn.gR (r := 16) dk_65_53 f_65_53.choose_spec sk_6 rfl ?_
      obtain ⟨r4, e5, h⟩ := bindS h
      refine Rn.cvI (p := 16) (As := []) (rest := []) dk_65_56 ck_65_56.choose_spec rfl sk_16 rfl (x_66 (Nat.le_trans (Nat.le_of_ble_eq_true rfl) hD) ok_16 e5) ?_
      refine Rn.bp dk_65_59 cbp_10 ?_
      by_cases c6 : ¬ r4 = 10
      · rw [if_pos c6] at h
        refine Rn.i2t (t := 68) dk_65_61 rfl (decide_eq_true c6) ?_
        refine Rn.ic dk_65_68 cic_0 ?_
        cases h
        exact Rn.ri dk_65_69 R_65 rfl
      · rw [if_neg c6] at h
        refine Rn.i2f (t := 68) dk_65_61 rfl (decide_eq_false c6) ?_
        refine Rn.ic dk_65_64 cic_1 ?_
        refine Rn.gt (t := 69) dk_65_65 rfl ?_
        cases h
        exact Rn.ri dk_65_69 R_65 rfl
    · rw [if_neg c3] at h
      by_cases c7 : x1 = 13
      · rw [if_pos c7] at h
        refine Rn.sw (t := 70) (st' := []) dk_65_1 (fun _ _ => rfl) (by rw [c7]; rfl) ?_
        refine Rn.pu (st' := [.ref 6]) dk_65_70 L_65 rfl ?_
        refine Rn.gR (r := 16) dk_65_71 f_65_71.choose_spec sk_6 rfl ?_
        obtain ⟨r8, e9, h⟩ := bindS h
        refine Rn.cvI (p := 16) (As := []) (rest := []) dk_65_74 ck_65_74.choose_spec rfl sk_16 rfl (x_66 (Nat.le_trans (Nat.le_of_ble_eq_true rfl) hD) ok_16 e9) ?_
        refine Rn.bp dk_65_77 cbp_12 ?_
        by_cases c10 : ¬ r8 = 12
        · rw [if_pos c10] at h
          refine Rn.i2t (t := 86) dk_65_79 rfl (decide_eq_true c10) ?_
          refine Rn.ic dk_65_86 cic_0 ?_
          cases h
          exact Rn.ri dk_65_87 R_65 rfl
        · rw [if_neg c10] at h
          refine Rn.i2f (t := 86) dk_65_79 rfl (decide_eq_false c10) ?_
          refine Rn.ic dk_65_82 cic_1 ?_
          refine Rn.gt (t := 87) dk_65_83 rfl ?_
          cases h
          exact Rn.ri dk_65_87 R_65 rfl
      · rw [if_neg c7] at h
        have q1 := (i_ne c1 (z := 0) rfl).symm
        have q2 := (i_ne c3 (z := 11) rfl).symm
        have q3 := (i_ne c7 (z := 13) rfl).symm
        have q0 : xm_br (.lookupswitch (87) #[(0, 35), (11, 51), (13, 69)]) 35 1 (.int x1 :: []) = some (true, 88, []) := lk_def (by decide) (by simp [Op.lookupswitch.offset, q1, q2, q3]) rfl
        refine Rn.sw dk_65_1 (fun _ _ => rfl) q0 ?_
        refine Rn.pu (st' := [.int x1]) dk_65_88 L_65 rfl ?_
        obtain ⟨r11, e12, h⟩ := bindS h
        refine Rn.csI (As := [.int x1]) (rest := []) dk_65_89 ck_65_89.choose_spec rfl (x_67 (Nat.le_trans (Nat.le_of_ble_eq_true rfl) hD) e12) ?_
        obtain ⟨c13, h⟩ := xm_if h
        cases h
        exact Rn.ri dk_65_92 R_65 (nar_b c13)
def m_65 (x1 : Int32) (I : dI) (J : dJ) : Option Int32 := b_65_0 x1 I J
theorem x_65 {Q : Nat → Option Nat} {D : Nat} (hD : 3 ≤ D) {x1 : Int32} {I : dI} {J : dJ} {R : Int32} (h : m_65 x1 I J = some R) : Ex Q D 65 I J [.ref 6, .int x1] (some (.int R)) I J := by
  obtain ⟨D, rfl⟩ : ∃ D', D = D' + 1 := ⟨D - 1, by omega⟩
  exact Ex.of (by decide) (by rw [L_65]; exact Nat.le_of_ble_eq_true rfl) (show xm_sub [(0, .ref 6), (1, .int x1)] [(0, .ref 6), (1, .int x1)] from xm_sub_of [0, 1] [0, 1] rfl rfl (by decide)) (p_65_0 (Nat.le_of_succ_le_succ hD) _ _ _ _ h)
