/-! The law from its first instruction. -/
section ZLA
variable {call : Nat → xm_H → List Value → Option xm_R} {xt : gXT} {xc : gXC} {f pc n nc ns : Nat} {ls ls' : xm_L} {st st' : List Value} {A A' : xm_H} {i : Jvm.ClassFile.Instr}
theorem gs_pu (hd : decode code pc = .ok (i, n)) (hp : xm_pu 8 i n ls st = some (ls', st')) {R : Option xm_R} (h : gx call xt xc code 8 ret f (pc + n) ls' st' A nc ns = R) : gx call xt xc code 8 ret (f + 1) pc ls st A nc ns = R := by
  unfold gx at h ⊢
  rw [xm_rn, hd]
  dsimp only
  rw [hp]
  exact h
theorem gs_nw {e : va_E} {m : Nat} (hd : decode code pc = .ok (i, n)) (hp : xm_pu 8 i n ls st = none) (hb : xm_br i n pc st = none) (hh : xm_hp tb_cl tb_tt tb_ft (tb_fr 10) none i n st A = none) (hr : xm_re ret i n st = none) (hc : xm_ca tb_oc (tb_cr 10) i n st A = none) (hw : xm_nw tb_cl tb_tt tb_ft (tb_nr 10) (tb_qr 10) tb_ta i n st = some (st', e, m)) (ho : xm_okS A ls st' = true) {R : Option xm_R} (h : gx call xt xc code 8 ret f (pc + n) ls (.ref A.length :: st') (A ++ [e]) (nc + 1) (ns + m) = R) : gx call xt xc code 8 ret (f + 1) pc ls st A nc ns = R := by
  unfold gx at h ⊢
  rw [xm_rn, hd]
  dsimp only
  rw [hp]
  dsimp only
  rw [hb]
  dsimp only
  rw [hh]
  dsimp only
  rw [hr]
  dsimp only
  rw [hc]
  dsimp only
  rw [hw]
  dsimp only
  rw [if_pos ho]
  exact h
theorem gs_ca {k c1 s1 : Nat} {As rest : List Value} {v : Option Value} (hd : decode code pc = .ok (i, n)) (hp : xm_pu 8 i n ls st = none) (hb : xm_br i n pc st = none) (hh : xm_hp tb_cl tb_tt tb_ft (tb_fr 10) none i n st A = none) (hr : xm_re ret i n st = none) (hc : xm_ca tb_oc (tb_cr 10) i n st A = some (k, As, rest)) (he : call k A As = some (A', .inl v, c1, s1)) (ho : xm_okS A ls rest = true) {R : Option xm_R} (h : gx call xt xc code 8 ret f (pc + 3) ls (v.toList ++ rest) A' (nc + c1) (ns + s1) = R) : gx call xt xc code 8 ret (f + 1) pc ls st A nc ns = R := by
  unfold gx at h ⊢
  rw [xm_rn, hd]
  dsimp only
  rw [hp]
  dsimp only
  rw [hb]
  dsimp only
  rw [hh]
  dsimp only
  rw [hr]
  dsimp only
  rw [hc]
  dsimp only
  rw [he]
  dsimp only
  rw [if_pos (Or.inr ho)]
  exact h
end ZLA
theorem zc_39 : ∃ b, tb_cr 10 39 = some (2, 0, b, 0) := ⟨_, rfl⟩
theorem zc_42 : ∃ b, tb_cr 10 42 = some (2, 94, b, 0) := ⟨_, rfl⟩
theorem zca {x k p : Nat} {b : Bool} {st As rest : List Value} {A : xm_H} (h : tb_cr 10 x = some (2, k, b, 0)) (hs : xm_sv 0 st = some (p, As, rest)) : xm_ca tb_oc (tb_cr 10) (.invokespecial x) 3 st A = some (k, .ref p :: As, rest) := by
  simp only [xm_ca, h, if_true, hs]
theorem zH_ : zA zo_1 ++ [z_2] = zH := by
  unfold zH
  rfl
theorem zn_8 : xm_nw tb_cl tb_tt tb_ft (tb_nr 10) (tb_qr 10) tb_ta (.new 8) 3 [] = some ([], z_0, 5) := rfl
theorem zn_40 : xm_nw tb_cl tb_tt tb_ft (tb_nr 10) (tb_qr 10) tb_ta (.new 40) 3 [] = some ([], z_1, 41) := rfl
theorem zn_l : xm_nw tb_cl tb_tt tb_ft (tb_nr 10) (tb_qr 10) tb_ta (.newarray .long) 2 [.int (Int32.ofInt 1)] = some ([], z_2, 1) := rfl
theorem pu_all (xs : Nat → Int32) (L : Nat) (hL : L ≤ 1536) : ∃ (F f d : Nat) (orc : Nat → xm_H → List Value → Option Int32) (A' : xm_H) (c1 s1 : Nat), d ≤ 1000 ∧ c1 ≤ 601024 ∧ s1 ≤ 7293034 ∧ lx_run F d orc xs L f 0 [(0, .ref lx_S)] [] [] 0 0 = some (A', .inl (some (.int 1)), c1, s1) := by
  have g := lw_loop (d := 200) (xs := xs) (L := L) (Q := zQ zH) (by omega) (z_Q ze_) hL 512 0 0 (fun _ _ => 0) (fun _ _ => 0) (by omega) (by omega) (by omega) z_inv
  obtain ⟨F0, f, g⟩ := g [(4, .int (nn 0)), (3, .ref 119), (2, .ref 92), (1, .ref 0), (0, .ref lx_S)] (xm_sub_of [4, 3, 2, 1, 0] [4, 3, 2, 1, 0] rfl rfl (by decide))
  obtain ⟨c, s, I', J', v, hc, hs, hv, g⟩ := g (F0 + 400) (by omega) (0 + 1 + (zK zo_0).1 + 1 + (zK zo_1).1 + 1) (0 + 5 + (zK zo_0).2 + 41 + (zK zo_1).2 + 1)
  subst hv
  have k0 := zk_0
  have k1 := zk_1
  have e0 := tb_ex_up (F' := F0 + 400) (by omega) _ 202 _ _ _ _ (by omega) (tb_zx_ok _ _ _ _ _ _ _ _ zx_0).1
  have e1 := tb_ex_up (F' := F0 + 400) (by omega) _ 202 _ _ _ _ (by omega) (tb_zx_ok _ _ _ _ _ _ _ _ zx_1).1
  rw [← z_bld ze_ z_zz] at g
  refine ⟨F0 + 400, f + 13, 200, orc_, bld (zQ zH) I' J', 0 + 1 + (zK zo_0).1 + 1 + (zK zo_1).1 + 1 + c, 0 + 5 + (zK zo_0).2 + 41 + (zK zo_1).2 + 1 + s, by omega, by omega, by omega, ?_⟩
  show gx (tb_ex (F0 + 400) 202) (lx_xt xs L) (lx_xc (F0 + 400) 200 orc_) code 8 ret (f + 13) 0 [(0, .ref lx_S)] [] [] 0 0 = _
  refine gs_nw dl_0 rfl rfl rfl rfl rfl zn_8 (by decide +kernel) ?_
  refine gs_pu dl_3 rfl ?_
  refine gs_ca (k := 0) (As := [.ref 0]) (rest := [.ref 0]) dl_4 rfl rfl rfl rfl (zca zc_39.choose_spec rfl) e0 (by decide +kernel) ?_
  refine gs_pu (ls' := [(1, .ref 0), (0, .ref lx_S)]) dl_7 rfl ?_
  refine gs_nw dl_8 rfl rfl rfl rfl rfl zn_40 zs_0 ?_
  rw [zl_0]
  refine gs_pu dl_11 rfl ?_
  refine gs_ca (k := 94) (As := [.ref 92]) (rest := [.ref 92]) dl_12 rfl rfl rfl rfl (zca zc_42.choose_spec rfl) e1 zs_1 ?_
  refine gs_pu (ls' := [(2, .ref 92), (1, .ref 0), (0, .ref lx_S)]) dl_15 rfl ?_
  refine gs_pu dl_16 rfl ?_
  refine gs_nw dl_17 rfl rfl rfl rfl rfl zn_l zs_2 ?_
  rw [zl_1, zH_]
  refine gs_pu (ls' := [(3, .ref 119), (2, .ref 92), (1, .ref 0), (0, .ref lx_S)]) dl_19 rfl ?_
  refine gs_pu dl_20 rfl ?_
  refine gs_pu (ls' := [(4, .int (nn 0)), (3, .ref 119), (2, .ref 92), (1, .ref 0), (0, .ref lx_S)]) dl_21 rfl ?_
  exact g
