/-! Printed by wip/whole/gen_loop.py: the loop of the law. -/
section LLA
variable {d : Nat} {xs : Nat → Int32} {L : Nat} {Q : Nat → Option Nat}
theorem ls_0 : xm_br (.tableswitch (584) 0 10 #[57, 84, 140, 203, 251, 306, 354, 422, 478, 491, 558]) 57 39 [.int (nn 0)] = some (true, 96, []) := rfl
theorem ls_1 : xm_br (.tableswitch (584) 0 10 #[57, 84, 140, 203, 251, 306, 354, 422, 478, 491, 558]) 57 39 [.int (nn 1)] = some (true, 123, []) := rfl
theorem ls_2 : xm_br (.tableswitch (584) 0 10 #[57, 84, 140, 203, 251, 306, 354, 422, 478, 491, 558]) 57 39 [.int (nn 2)] = some (true, 179, []) := rfl
theorem ls_3 : xm_br (.tableswitch (584) 0 10 #[57, 84, 140, 203, 251, 306, 354, 422, 478, 491, 558]) 57 39 [.int (nn 3)] = some (true, 242, []) := rfl
theorem ls_4 : xm_br (.tableswitch (584) 0 10 #[57, 84, 140, 203, 251, 306, 354, 422, 478, 491, 558]) 57 39 [.int (nn 4)] = some (true, 290, []) := rfl
theorem ls_5 : xm_br (.tableswitch (584) 0 10 #[57, 84, 140, 203, 251, 306, 354, 422, 478, 491, 558]) 57 39 [.int (nn 5)] = some (true, 345, []) := rfl
theorem ls_6 : xm_br (.tableswitch (584) 0 10 #[57, 84, 140, 203, 251, 306, 354, 422, 478, 491, 558]) 57 39 [.int (nn 6)] = some (true, 393, []) := rfl
theorem ls_7 : xm_br (.tableswitch (584) 0 10 #[57, 84, 140, 203, 251, 306, 354, 422, 478, 491, 558]) 57 39 [.int (nn 7)] = some (true, 461, []) := rfl
theorem ls_8 : xm_br (.tableswitch (584) 0 10 #[57, 84, 140, 203, 251, 306, 354, 422, 478, 491, 558]) 57 39 [.int (nn 8)] = some (true, 517, []) := rfl
theorem ls_9 : xm_br (.tableswitch (584) 0 10 #[57, 84, 140, 203, 251, 306, 354, 422, 478, 491, 558]) 57 39 [.int (nn 9)] = some (true, 530, []) := rfl
theorem ls_10 : xm_br (.tableswitch (584) 0 10 #[57, 84, 140, 203, 251, 306, 354, 422, 478, 491, 558]) 57 39 [.int (nn 10)] = some (true, 597, []) := rfl
theorem ls_11 : xm_br (.tableswitch (584) 0 10 #[57, 84, 140, 203, 251, 306, 354, 422, 478, 491, 558]) 57 39 [.int (nn 11)] = some (true, 623, []) := rfl
theorem ls_12 : xm_br (.tableswitch (584) 0 10 #[57, 84, 140, 203, 251, 306, 354, 422, 478, 491, 558]) 57 39 [.int (nn 12)] = some (true, 623, []) := rfl
theorem ls_13 : xm_br (.tableswitch (584) 0 10 #[57, 84, 140, 203, 251, 306, 354, 422, 478, 491, 558]) 57 39 [.int (nn 13)] = some (true, 623, []) := rfl
theorem ls_14 : xm_br (.tableswitch (584) 0 10 #[57, 84, 140, 203, 251, 306, 354, 422, 478, 491, 558]) 57 39 [.int (nn 14)] = some (true, 623, []) := rfl
theorem ls_15 : xm_br (.tableswitch (584) 0 10 #[57, 84, 140, 203, 251, 306, 354, 422, 478, 491, 558]) 57 39 [.int (nn 15)] = some (true, 623, []) := rfl
theorem lw_body {i N C S : Nat} {I : dI} {J : dJ} (hd : 129 ≤ d + 1) (hQ : ∀ j, j < 8 → Q j = some (20 + 9 * j)) (hL : L ≤ 1536) (hi : i + 3 ≤ L) (hN : N < 80000) (h : Inv2 N I J I J) (K : ∀ I' J', Inv2 (N + 9) I' J' I' J' → GR (d + 2) (lx_xt xs L) (fun F => lx_xc F d orc_) code 8 ret Q (fun _ _ v => v = some (.int 1)) C S 623 [(0, .ref lx_S), (1, .ref 0), (2, .ref 92), (3, .ref 119), (4, .int (nn i))] [] I' J') : GR (d + 2) (lx_xt xs L) (fun F => lx_xc F d orc_) code 8 ret Q (fun _ _ v => v = some (.int 1)) (C + 1) (S + 6) 32 [(0, .ref lx_S), (1, .ref 0), (2, .ref 92), (3, .ref 119), (4, .int (nn i))] [] I J := by
  obtain ⟨m, hm, em⟩ := lw_15 (xs i)
  refine GR.pu (ls' := [(0, .ref lx_S), (1, .ref 0), (2, .ref 92), (3, .ref 119), (4, .int (nn i))]) dl_32 rfl ?_
  refine GR.pu (ls' := [(0, .ref lx_S), (1, .ref 0), (2, .ref 92), (3, .ref 119), (4, .int (nn i))]) dl_33 rfl ?_
  refine lw_ia dl_35 rfl hL (by omega) ?_
  refine GR.pu dl_36 rfl ?_
  refine GR.pu (st' := [.int (nn m)]) dl_38 (by rw [← em]; rfl) ?_
  have KD : GR (d + 2) (lx_xt xs L) (fun F => lx_xc F d orc_) code 8 ret Q (fun _ _ v => v = some (.int 1)) (C + 1) (S + 6) 623 [(0, .ref lx_S), (1, .ref 0), (2, .ref 92), (3, .ref 119), (4, .int (nn i))] [] I J := GR.le (Nat.le_add_right C 1) (Nat.le_add_right S 6) (K I J (inv2_fr (by omega) (fun _ _ => ⟨rfl, rfl⟩) (fun _ _ _ => ⟨rfl, rfl⟩) h))
  have hm2 : m = 0 ∨ m = 1 ∨ m = 2 ∨ m = 3 ∨ m = 4 ∨ m = 5 ∨ m = 6 ∨ m = 7 ∨ m = 8 ∨ m = 9 ∨ m = 10 ∨ m = 11 ∨ m = 12 ∨ m = 13 ∨ m = 14 ∨ m = 15 := by omega
  clear em hm
  rcases hm2 with rfl | rfl | rfl | rfl | rfl | rfl | rfl | rfl | rfl | rfl | rfl | rfl | rfl | rfl | rfl | rfl
  · exact lw_sw dl_39 ls_0 (lk_type hd hQ hL hi hN h K)
  · exact lw_sw dl_39 ls_1 (lk_comp hd hQ hL hi hN h K)
  · exact lw_sw dl_39 ls_2 (lk_drop hd hQ hL hi hN h K)
  · exact lw_sw dl_39 ls_3 (lk_set hd hQ hL hi hN h K)
  · exact lw_sw dl_39 ls_4 (lk_go hd hQ hL hi hN h K)
  · exact lw_sw dl_39 ls_5 (lk_poke hd hQ hL hi hN h K)
  · exact lw_sw dl_39 ls_6 (lk_ign hd hQ hL hi hN h K)
  · exact lw_sw dl_39 ls_7 (lk_ask hd hQ hL hi hN h K)
  · exact lw_sw dl_39 ls_8 (lk_all hd hQ hL hi hN h K)
  · exact lw_sw dl_39 ls_9 (lk_abt hd hQ hL hi hN h K)
  · exact lw_sw dl_39 ls_10 (lk_cnt hd hQ hL hi hN h K)
  · exact lw_sw dl_39 ls_11 KD
  · exact lw_sw dl_39 ls_12 KD
  · exact lw_sw dl_39 ls_13 KD
  · exact lw_sw dl_39 ls_14 KD
  · exact lw_sw dl_39 ls_15 KD
theorem lw_loop (hd : 129 ≤ d + 1) (hQ : ∀ j, j < 8 → Q j = some (20 + 9 * j)) (hL : L ≤ 1536) : ∀ n i N I J, i ≤ L → L < i + 3 * n + 3 → N + 9 * n < 80000 → Inv2 N I J I J → GR (d + 2) (lx_xt xs L) (fun F => lx_xc F d orc_) code 8 ret Q (fun _ _ v => v = some (.int 1)) n (6 * n) 23 [(0, .ref lx_S), (1, .ref 0), (2, .ref 92), (3, .ref 119), (4, .int (nn i))] [] I J := by
  intro n
  induction n with
  | zero =>
    intro i N I J h1 h2 h3 h
    refine GR.pu (ls' := [(0, .ref lx_S), (1, .ref 0), (2, .ref 92), (3, .ref 119), (4, .int (nn i))]) dl_23 rfl ?_
    refine GR.pu (ls' := [(0, .ref lx_S), (1, .ref 0), (2, .ref 92), (3, .ref 119), (4, .int (nn i))]) dl_25 rfl ?_
    refine lw_al dl_26 ?_
    refine GR.pu dl_27 rfl ?_
    refine GR.pu dl_28 rfl ?_
    refine GR.i2t dl_29 (t := 629) rfl (lw_gt2 hL (by omega) (by omega)) ?_
    refine GR.pu dl_629 rfl ?_
    exact GR.ri dl_630 rfl rfl rfl
  | succ n ih =>
    intro i N I J h1 h2 h3 h
    refine GR.le (C := n + 1) (S := 6 * n + 6) (Nat.le_refl _) (by omega) ?_
    refine GR.pu (ls' := [(0, .ref lx_S), (1, .ref 0), (2, .ref 92), (3, .ref 119), (4, .int (nn i))]) dl_23 rfl ?_
    refine GR.pu (ls' := [(0, .ref lx_S), (1, .ref 0), (2, .ref 92), (3, .ref 119), (4, .int (nn i))]) dl_25 rfl ?_
    refine lw_al dl_26 ?_
    refine GR.pu dl_27 rfl ?_
    refine GR.pu dl_28 rfl ?_
    by_cases hi : i + 3 ≤ L
    · refine GR.i2f dl_29 (t := 629) rfl (lw_gt hL (by omega) hi) ?_
      refine lw_body (C := n) (S := 6 * n) hd hQ hL hi (by omega) h (fun I' J' h' => ?_)
      have e : nn i + Int32.ofInt 3 = nn (i + 3) := lw_a rfl
      refine GR.pu (ls' := [(4, .int (nn (i + 3))), (0, .ref lx_S), (1, .ref 0), (2, .ref 92), (3, .ref 119)]) dl_623 (by rw [← e]; rfl) ?_
      refine GR.go dl_626 (t := 23) rfl ?_
      exact GR.wk [1, 2, 3, 4, 0] rfl (ih (i + 3) (N + 9) I' J' hi (by omega) (by omega) h')
    · refine GR.i2t dl_29 (t := 629) rfl (lw_gt2 hL (by omega) hi) ?_
      refine GR.pu dl_629 rfl ?_
      exact GR.ri dl_630 rfl rfl rfl
end LLA
