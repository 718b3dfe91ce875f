/-! The law's own rules: the script, the helpers, the switch; its numbers. -/
theorem lw_big {Q : Nat → Option Nat} {I : dI} {J : dJ} : (bld Q I J)[lx_S]? = none := List.getElem?_eq_none (by rw [bld_len]; decide)
theorem lw_a {i c : Nat} {k : Int} (hk : Int32.ofInt k = nn c) : nn i + Int32.ofInt k = nn (i + c) := by rw [hk, nn_add]
theorem lw_l3 {L : Nat} (hL : L ≤ 1536) : (Int32.ofNat L - Int32.ofInt 3).toInt = (L : Int) - 3 := by
  have e1 : (Int32.ofNat L).toInt = (L : Int) := nn_i (by omega)
  have e2 : (Int32.ofInt 3).toInt = 3 := by decide
  rw [Int32.toInt_sub, e1, e2]
  apply Int.bmod_eq_of_le <;> omega
theorem lw_15 (x : Int32) : ∃ m, m ≤ 15 ∧ x &&& (Int8.ofInt 15).toInt32 = nn m := by
  have e : (Int8.ofInt 15).toInt32 = nn 15 := by decide
  rw [e]
  refine ⟨(x &&& nn 15).toBitVec.toNat, ?_, ?_⟩
  · rw [Int32.toBitVec_and, BitVec.toNat_and]
    exact Nat.and_le_right
  · apply Int32.toBitVec_inj.mp
    unfold nn
    rw [Int32.toBitVec_ofNat', BitVec.ofNat_toNat, BitVec.setWidth_eq]
theorem lw_eq {x y : Int32} (h : x = y) : xm_cd .eq x y = true := by subst h; simp [xm_cd]
theorem lw_ne0 : xm_cd .ne 0 0 = false := by decide
theorem lw_ne1 {x : Int32} (h : ¬ x = 0) : xm_cd .ne x 0 = true := by simp [xm_cd, h]
theorem lw_cmp {x y : Int64} (h : x = y) : xm_cd .eq (lg_cmp x y) 0 = true := by subst h; simp [xm_cd, lg_cmp]
theorem lw_gt {i L : Nat} (hL : L ≤ 1536) (hi : i ≤ 1536) (h : i + 3 ≤ L) : xm_cd .gt (nn i) (Int32.ofNat L - Int32.ofInt 3) = false := by
  have e : ¬ (Int32.ofNat L - Int32.ofInt 3) < nn i := by
    rw [Int32.lt_iff_toInt_lt, lw_l3 hL, nn_i (by omega)]
    omega
  exact decide_eq_false e
theorem lw_gt2 {i L : Nat} (hL : L ≤ 1536) (hi : i ≤ 1536) (h : ¬ i + 3 ≤ L) : xm_cd .gt (nn i) (Int32.ofNat L - Int32.ofInt 3) = true := by
  have e : (Int32.ofNat L - Int32.ofInt 3) < nn i := by
    rw [Int32.lt_iff_toInt_lt, lw_l3 hL, nn_i (by omega)]
    omega
  exact decide_eq_true e
section LWA
variable {d : Nat} {xs : Nat → Int32} {L : Nat} {Q : Nat → Option Nat} {R : dI → dJ → Option Value → Prop} {C S pc n : Nat} {ls ls' : xm_L} {st st' : List Value} {I I1 : dI} {J J1 : dJ}
theorem lw_ia {j : Nat} {z : Int32} (hd : decode code pc = .ok (.iaload, 1)) (hz : z = nn j) (hL : L ≤ 1536) (hj : j < L) (h : GR (d + 2) (lx_xt xs L) (fun F => lx_xc F d orc_) code 8 ret Q R C S (pc + 1) ls (.int (xs j) :: st) I J) : GR (d + 2) (lx_xt xs L) (fun F => lx_xc F d orc_) code 8 ret Q R C S pc ls (.int z :: .ref lx_S :: st) I J := by
  refine GR.xtt hd (fun _ _ => rfl) rfl ?_ (fun _ => rfl) rfl rfl ?_ h
  · simp only [xm_hp, if_true, xm_ai, lw_big]
  · have e : xm_ix z L = some j := by
      unfold xm_ix
      rw [hz, nn_cl (by omega), if_pos]
      rw [show (0 : Int32) = nn 0 from rfl, nn_lt (by omega) (by omega)]
      omega
    simp only [lx_xt, if_true, e, Option.map_some]
theorem lw_al (hd : decode code pc = .ok (.arraylength, 1)) (h : GR (d + 2) (lx_xt xs L) (fun F => lx_xc F d orc_) code 8 ret Q R C S (pc + 1) ls (.int (Int32.ofNat L) :: st) I J) : GR (d + 2) (lx_xt xs L) (fun F => lx_xc F d orc_) code 8 ret Q R C S pc ls (.ref lx_S :: st) I J := by
  refine GR.xtt hd (fun _ _ => rfl) rfl ?_ (fun _ => rfl) rfl rfl ?_ h
  · simp only [xm_hp, if_true, xm_an, lw_big]
  · simp only [lx_xt, if_true]
theorem lw_k (hd : decode code pc = .ok (.ldc2_w 65, 3)) (h : GR (d + 2) (lx_xt xs L) (fun F => lx_xc F d orc_) code 8 ret Q R C S (pc + 3) ls (.long 4294967295 :: st) I J) : GR (d + 2) (lx_xt xs L) (fun F => lx_xc F d orc_) code 8 ret Q R C S pc ls st I J := by
  refine GR.xtt hd (fun _ _ => rfl) rfl rfl (fun _ => rfl) rfl rfl ?_ h
  simp only [lx_xt, and_self, if_true]
theorem lw_rd {i c : Nat} {k : Int} (p0 : ∀ st, xm_pu 8 (.aload_n 0) 1 ls st = some (ls, .ref lx_S :: st)) (p4 : ∀ st, xm_pu 8 (.iload 4) 2 ls st = some (ls, .int (nn i) :: st)) (h0 : decode code pc = .ok (.aload_n 0, 1)) (h1 : decode code (pc + 1) = .ok (.iload 4, 2)) (h2 : decode code (pc + 3) = .ok (.iconst k, 1)) (h3 : decode code (pc + 4) = .ok (.iadd, 1)) (h4 : decode code (pc + 5) = .ok (.iaload, 1)) (hk : Int32.ofInt k = nn c) (hL : L ≤ 1536) (hj : i + c < L) (h : GR (d + 2) (lx_xt xs L) (fun F => lx_xc F d orc_) code 8 ret Q R C S (pc + 6) ls (.int (xs (i + c)) :: st) I J) : GR (d + 2) (lx_xt xs L) (fun F => lx_xc F d orc_) code 8 ret Q R C S pc ls st I J :=
  GR.pu h0 (p0 _) (GR.pu h1 (p4 _) (GR.pu h2 rfl (GR.pu h3 rfl (lw_ia h4 (lw_a hk) hL hj h))))
theorem lw_hx {x j na i1 i2 c s : Nat} {As rest : List Value} {rv : Int32} (hd : decode code pc = .ok (.invokestatic x, 3)) (hf : hl_x.find? (fun q => q.1 == x) = some (x, j, na, i1, i2)) (hn : tb_cr 10 x = none) (hs : xm_ss na st = some (As, rest)) (hx : HX d Q j I J As rv c s I1 J1) (hc1 : c ≤ 1) (hs1 : s ≤ 6) (h : GR (d + 2) (lx_xt xs L) (fun F => lx_xc F d orc_) code 8 ret Q R C S (pc + 3) ls (.int rv :: rest) I1 J1) : GR (d + 2) (lx_xt xs L) (fun F => lx_xc F d orc_) code 8 ret Q R (C + 1) (S + 6) pc ls st I J := by
  refine GR.le (C := C + c) (S := S + s) (by omega) (by omega) ?_
  refine GR.xcc hd (fun _ _ => rfl) rfl rfl (fun _ => rfl) ?_ rfl rfl ?_ h
  · simp only [xm_ca, hn, if_true]
  · obtain ⟨F1, hx⟩ := hx
    refine ⟨F1, fun F hF => ?_⟩
    simp only [lx_xc, if_true, hf, hs, hx F hF, Option.map_some]
theorem lw_sw {t : Nat} {df lo hi : Int} {offs : Array Int} (hd : decode code pc = .ok (.tableswitch df lo hi offs, n)) (hb : xm_br (.tableswitch df lo hi offs) n pc st = some (true, t, st')) (h : GR (d + 2) (lx_xt xs L) (fun F => lx_xc F d orc_) code 8 ret Q R C S t ls st' I J) : GR (d + 2) (lx_xt xs L) (fun F => lx_xc F d orc_) code 8 ret Q R C S pc ls st I J := GR.br hd (fun _ _ => rfl) hb (by rw [if_pos rfl]; exact h)
end LWA
section LWB
variable {d : Nat} {xs : Nat → Int32} {L : Nat} {Q : Nat → Option Nat} {R : dI → dJ → Option Value → Prop} {C S pc n : Nat} {ls ls' : xm_L} {st st' : List Value} {I I1 : dI} {J J1 : dJ}
theorem lw_l0 (hd : decode code pc = .ok (.laload, 1)) (h : GR (d + 2) (lx_xt xs L) (fun F => lx_xc F d orc_) code 8 ret Q R C S (pc + 1) ls (.long (J 119 0) :: st) I J) : GR (d + 2) (lx_xt xs L) (fun F => lx_xc F d orc_) code 8 ret Q R C S pc ls (.int (Int32.ofInt 0) :: .ref 119 :: st) I J := by
  have e : (Int32.ofInt 0).toNatClampNeg = 0 := by decide
  refine GR.lald hd sk_119 (by decide) ?_
  rw [e]
  exact h
end LWB
