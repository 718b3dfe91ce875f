/-! Printed by wip/whole/gen_hn.py: the helpers where nothing is thrown. -/
theorem hc_7 : ∃ b, tb_cr 10 7 = some (0, 39, b, 1) := ⟨_, rfl⟩
theorem hn_0 {Q : Nat → Option Nat} {d : Nat} {x : Int32} {I : dI} {J : dJ} {R : Int32 × dI × dJ} (hD : 8 ≤ d + 1) (hQ : ∀ j, j < 8 → Q j = some (20 + 9 * j)) (h : m_39 x I J = some R) : ∃ F1, ∀ F, F1 ≤ F → hl_rn F (d + 1) 0 (bld Q I J) [.ref 0, .int x, .ref 119] = some (bld Q (R.2.1) (sJ R.2.2 119 0 (Int32.toInt64 R.1)), .inl (some (.int 0)), 0, 0) := by
  have g : GR (d + 1) xm_t0 (fun _ => xm_x0) (hl_b 0) (hl_L 0) (some .int) Q (fun I' J' v => I' = R.2.1 ∧ J' = sJ R.2.2 119 0 (Int32.toInt64 R.1) ∧ v = some (.int 0)) 0 0 0 [(0, .ref 0), (1, .int x), (2, .ref 119)] [] I J := by
    refine GR.pu dh_0_0 rfl ?_
    refine GR.pu dh_0_1 rfl ?_
    refine GR.pu dh_0_2 rfl ?_
    refine GR.pu dh_0_3 rfl ?_
    refine GR.cv (p := 0) (As := [.int x]) dh_0_4 hc_7.choose_spec rfl sk_0 rfl (x_39 (D := 8) (Nat.le_refl _) hQ h) hD ?_
    refine GR.pu dh_0_7 rfl ?_
    refine GR.last dh_0_8 (show SK[119]? = some (.inr (1, 1, 1)) from rfl) (by decide) ?_
    refine GR.go dh_0_9 (t := 15) rfl ?_
    refine GR.pu dh_0_15 rfl ?_
    exact GR.ri dh_0_16 rfl rfl ⟨rfl, rfl, rfl⟩
  obtain ⟨F0, f, h2⟩ := g (lv_args 0 [.ref 0, .int x, .ref 119]) (show xm_sub [(0, .ref 0), (1, .int x), (2, .ref 119)] [(0, .ref 0), (1, .int x), (2, .ref 119)] from xm_sub_of [0, 1, 2] [0, 1, 2] rfl rfl (by decide))
  exact ⟨F0 + f, hl_of (Nat.le_of_ble_eq_true rfl) h2⟩
theorem hc_15 : ∃ b, tb_cr 10 15 = some (0, 85, b, 1) := ⟨_, rfl⟩
theorem hn_1a {Q : Nat → Option Nat} {d : Nat} {x : Int32} {I : dI} {J : dJ} {R : Int32 × dI × dJ} (hD : 3 ≤ d + 1) (hQ : ∀ j, j < 8 → Q j = some (20 + 9 * j)) (h : m_85 x I J = some R) (hr : R.1 = nn 0) : ∃ F1, ∀ F, F1 ≤ F → hl_rn F (d + 1) 1 (bld Q I J) [.ref 0, .int x, .ref 119] = some (bld Q (R.2.1) (sJ R.2.2 119 0 0), .inl (some (.int 0)), 0, 0) := by
  have g : GR (d + 1) xm_t0 (fun _ => xm_x0) (hl_b 1) (hl_L 1) (some .int) Q (fun I' J' v => I' = R.2.1 ∧ J' = sJ R.2.2 119 0 0 ∧ v = some (.int 0)) 0 0 0 [(0, .ref 0), (1, .int x), (2, .ref 119)] [] I J := by
    refine GR.pu dh_1_0 rfl ?_
    refine GR.pu dh_1_1 rfl ?_
    refine GR.pu dh_1_2 rfl ?_
    refine GR.pu dh_1_3 rfl ?_
    refine GR.cv (p := 0) (As := [.int x]) dh_1_4 hc_15.choose_spec rfl sk_0 rfl (x_85 (D := 3) (Nat.le_refl _) hQ h) hD ?_
    refine GR.i1t dh_1_7 (t := 14) rfl (by rw [hr]; decide) ?_
    refine GR.pu dh_1_14 rfl ?_
    refine GR.last dh_1_15 (show SK[119]? = some (.inr (1, 1, 1)) from rfl) (by decide) ?_
    refine GR.go dh_1_16 (t := 22) rfl ?_
    refine GR.pu dh_1_22 rfl ?_
    exact GR.ri dh_1_23 rfl rfl ⟨rfl, rfl, rfl⟩
  obtain ⟨F0, f, h2⟩ := g (lv_args 0 [.ref 0, .int x, .ref 119]) (show xm_sub [(0, .ref 0), (1, .int x), (2, .ref 119)] [(0, .ref 0), (1, .int x), (2, .ref 119)] from xm_sub_of [0, 1, 2] [0, 1, 2] rfl rfl (by decide))
  exact ⟨F0 + f, hl_of (Nat.le_of_ble_eq_true rfl) h2⟩
theorem hn_1b {Q : Nat → Option Nat} {d : Nat} {x : Int32} {I : dI} {J : dJ} {R : Int32 × dI × dJ} (hD : 3 ≤ d + 1) (hQ : ∀ j, j < 8 → Q j = some (20 + 9 * j)) (h : m_85 x I J = some R) (hr : R.1 = nn 1) : ∃ F1, ∀ F, F1 ≤ F → hl_rn F (d + 1) 1 (bld Q I J) [.ref 0, .int x, .ref 119] = some (bld Q (R.2.1) (sJ R.2.2 119 0 1), .inl (some (.int 0)), 0, 0) := by
  have g : GR (d + 1) xm_t0 (fun _ => xm_x0) (hl_b 1) (hl_L 1) (some .int) Q (fun I' J' v => I' = R.2.1 ∧ J' = sJ R.2.2 119 0 1 ∧ v = some (.int 0)) 0 0 0 [(0, .ref 0), (1, .int x), (2, .ref 119)] [] I J := by
    refine GR.pu dh_1_0 rfl ?_
    refine GR.pu dh_1_1 rfl ?_
    refine GR.pu dh_1_2 rfl ?_
    refine GR.pu dh_1_3 rfl ?_
    refine GR.cv (p := 0) (As := [.int x]) dh_1_4 hc_15.choose_spec rfl sk_0 rfl (x_85 (D := 3) (Nat.le_refl _) hQ h) hD ?_
    refine GR.i1f dh_1_7 (t := 14) rfl (by rw [hr]; decide) ?_
    refine GR.pu dh_1_10 rfl ?_
    refine GR.go dh_1_11 (t := 15) rfl ?_
    refine GR.last dh_1_15 (show SK[119]? = some (.inr (1, 1, 1)) from rfl) (by decide) ?_
    refine GR.go dh_1_16 (t := 22) rfl ?_
    refine GR.pu dh_1_22 rfl ?_
    exact GR.ri dh_1_23 rfl rfl ⟨rfl, rfl, rfl⟩
  obtain ⟨F0, f, h2⟩ := g (lv_args 0 [.ref 0, .int x, .ref 119]) (show xm_sub [(0, .ref 0), (1, .int x), (2, .ref 119)] [(0, .ref 0), (1, .int x), (2, .ref 119)] from xm_sub_of [0, 1, 2] [0, 1, 2] rfl rfl (by decide))
  exact ⟨F0 + f, hl_of (Nat.le_of_ble_eq_true rfl) h2⟩
theorem hc_19 : ∃ b, tb_cr 10 19 = some (0, 86, b, 2) := ⟨_, rfl⟩
theorem hn_2 {Q : Nat → Option Nat} {d : Nat} {x y : Int32} {I : dI} {J : dJ} {R : dI × dJ} (hD : 3 ≤ d + 1) (h : m_86 x y I J = some R) : ∃ F1, ∀ F, F1 ≤ F → hl_rn F (d + 1) 2 (bld Q I J) [.ref 0, .int x, .int y] = some (bld Q (R.1) (R.2), .inl (some (.int 0)), 0, 0) := by
  have g : GR (d + 1) xm_t0 (fun _ => xm_x0) (hl_b 2) (hl_L 2) (some .int) Q (fun I' J' v => I' = R.1 ∧ J' = R.2 ∧ v = some (.int 0)) 0 0 0 [(0, .ref 0), (1, .int x), (2, .int y)] [] I J := by
    refine GR.pu dh_2_0 rfl ?_
    refine GR.pu dh_2_1 rfl ?_
    refine GR.pu dh_2_2 rfl ?_
    refine GR.cv (p := 0) (As := [.int x, .int y]) dh_2_3 hc_19.choose_spec rfl sk_0 rfl (x_86 (D := 3) (Nat.le_refl _) h) hD ?_
    refine GR.go dh_2_6 (t := 12) rfl ?_
    refine GR.pu dh_2_12 rfl ?_
    exact GR.ri dh_2_13 rfl rfl ⟨rfl, rfl, rfl⟩
  obtain ⟨F0, f, h2⟩ := g (lv_args 0 [.ref 0, .int x, .int y]) (show xm_sub [(0, .ref 0), (1, .int x), (2, .int y)] [(0, .ref 0), (1, .int x), (2, .int y)] from xm_sub_of [0, 1, 2] [0, 1, 2] rfl rfl (by decide))
  exact ⟨F0 + f, hl_of (Nat.le_of_ble_eq_true rfl) h2⟩
theorem hc_23 : ∃ b, tb_cr 10 23 = some (0, 88, b, 2) := ⟨_, rfl⟩
theorem hn_3 {Q : Nat → Option Nat} {d : Nat} {x y : Int32} {I : dI} {J : dJ} {R : dI × dJ} (hD : 3 ≤ d + 1) (h : m_88 x y I J = some R) : ∃ F1, ∀ F, F1 ≤ F → hl_rn F (d + 1) 3 (bld Q I J) [.ref 0, .int x, .int y] = some (bld Q (R.1) (R.2), .inl (some (.int 0)), 0, 0) := by
  have g : GR (d + 1) xm_t0 (fun _ => xm_x0) (hl_b 3) (hl_L 3) (some .int) Q (fun I' J' v => I' = R.1 ∧ J' = R.2 ∧ v = some (.int 0)) 0 0 0 [(0, .ref 0), (1, .int x), (2, .int y)] [] I J := by
    refine GR.pu dh_3_0 rfl ?_
    refine GR.pu dh_3_1 rfl ?_
    refine GR.pu dh_3_2 rfl ?_
    refine GR.cv (p := 0) (As := [.int x, .int y]) dh_3_3 hc_23.choose_spec rfl sk_0 rfl (x_88 (D := 3) (Nat.le_refl _) h) hD ?_
    refine GR.go dh_3_6 (t := 12) rfl ?_
    refine GR.pu dh_3_12 rfl ?_
    exact GR.ri dh_3_13 rfl rfl ⟨rfl, rfl, rfl⟩
  obtain ⟨F0, f, h2⟩ := g (lv_args 0 [.ref 0, .int x, .int y]) (show xm_sub [(0, .ref 0), (1, .int x), (2, .int y)] [(0, .ref 0), (1, .int x), (2, .int y)] from xm_sub_of [0, 1, 2] [0, 1, 2] rfl rfl (by decide))
  exact ⟨F0 + f, hl_of (Nat.le_of_ble_eq_true rfl) h2⟩
theorem hc_26 : ∃ b, tb_cr 10 26 = some (0, 90, b, 2) := ⟨_, rfl⟩
theorem hn_4 {Q : Nat → Option Nat} {d : Nat} {x y : Int32} {I : dI} {J : dJ} {R : Int32 × dI × dJ} (hD : 3 ≤ d + 1) (hQ : ∀ j, j < 8 → Q j = some (20 + 9 * j)) (h : m_90 x y I J = some R) : ∃ F1, ∀ F, F1 ≤ F → hl_rn F (d + 1) 4 (bld Q I J) [.ref 0, .int x, .int y, .ref 119] = some (bld Q (R.2.1) (sJ R.2.2 119 0 (Int32.toInt64 R.1)), .inl (some (.int 0)), 0, 0) := by
  have g : GR (d + 1) xm_t0 (fun _ => xm_x0) (hl_b 4) (hl_L 4) (some .int) Q (fun I' J' v => I' = R.2.1 ∧ J' = sJ R.2.2 119 0 (Int32.toInt64 R.1) ∧ v = some (.int 0)) 0 0 0 [(0, .ref 0), (1, .int x), (2, .int y), (3, .ref 119)] [] I J := by
    refine GR.pu dh_4_0 rfl ?_
    refine GR.pu dh_4_1 rfl ?_
    refine GR.pu dh_4_2 rfl ?_
    refine GR.pu dh_4_3 rfl ?_
    refine GR.pu dh_4_4 rfl ?_
    refine GR.cv (p := 0) (As := [.int x, .int y]) dh_4_5 hc_26.choose_spec rfl sk_0 rfl (x_90 (D := 3) (Nat.le_refl _) hQ h) hD ?_
    refine GR.pu dh_4_8 rfl ?_
    refine GR.last dh_4_9 (show SK[119]? = some (.inr (1, 1, 1)) from rfl) (by decide) ?_
    refine GR.go dh_4_10 (t := 21) rfl ?_
    refine GR.pu dh_4_21 rfl ?_
    exact GR.ri dh_4_22 rfl rfl ⟨rfl, rfl, rfl⟩
  obtain ⟨F0, f, h2⟩ := g (lv_args 0 [.ref 0, .int x, .int y, .ref 119]) (show xm_sub [(0, .ref 0), (1, .int x), (2, .int y), (3, .ref 119)] [(0, .ref 0), (1, .int x), (2, .int y), (3, .ref 119)] from xm_sub_of [0, 1, 2, 3] [0, 1, 2, 3] rfl rfl (by decide))
  exact ⟨F0 + f, hl_of (Nat.le_of_ble_eq_true rfl) h2⟩
theorem hc_32 : ∃ b, tb_cr 10 32 = some (0, 91, b, 1) := ⟨_, rfl⟩
theorem hn_5 {Q : Nat → Option Nat} {d : Nat} {x : Int32} {I : dI} {J : dJ} {R : Int32 × dI × dJ} (hD : 129 ≤ d + 1) (hQ : ∀ j, j < 8 → Q j = some (20 + 9 * j)) (h : m_91 x I J = some R) : ∃ F1, ∀ F, F1 ≤ F → hl_rn F (d + 1) 5 (bld Q I J) [.ref 0, .int x, .ref 119] = some (bld Q (R.2.1) (sJ R.2.2 119 0 (Int32.toInt64 R.1)), .inl (some (.int 0)), 0, 0) := by
  have g : GR (d + 1) xm_t0 (fun _ => xm_x0) (hl_b 5) (hl_L 5) (some .int) Q (fun I' J' v => I' = R.2.1 ∧ J' = sJ R.2.2 119 0 (Int32.toInt64 R.1) ∧ v = some (.int 0)) 0 0 0 [(0, .ref 0), (1, .int x), (2, .ref 119)] [] I J := by
    refine GR.pu dh_5_0 rfl ?_
    refine GR.pu dh_5_1 rfl ?_
    refine GR.pu dh_5_2 rfl ?_
    refine GR.pu dh_5_3 rfl ?_
    refine GR.cv (p := 0) (As := [.int x]) dh_5_4 hc_32.choose_spec rfl sk_0 rfl (x_91 (D := 129) (Nat.le_refl _) hQ h) hD ?_
    refine GR.pu dh_5_7 rfl ?_
    refine GR.last dh_5_8 (show SK[119]? = some (.inr (1, 1, 1)) from rfl) (by decide) ?_
    refine GR.go dh_5_9 (t := 18) rfl ?_
    refine GR.pu dh_5_18 rfl ?_
    exact GR.ri dh_5_19 rfl rfl ⟨rfl, rfl, rfl⟩
  obtain ⟨F0, f, h2⟩ := g (lv_args 0 [.ref 0, .int x, .ref 119]) (show xm_sub [(0, .ref 0), (1, .int x), (2, .ref 119)] [(0, .ref 0), (1, .int x), (2, .ref 119)] from xm_sub_of [0, 1, 2] [0, 1, 2] rfl rfl (by decide))
  exact ⟨F0 + f, hl_of (Nat.le_of_ble_eq_true rfl) h2⟩
theorem hc_35 : ∃ b, tb_cr 10 35 = some (0, 92, b, 2) := ⟨_, rfl⟩
theorem hn_6 {Q : Nat → Option Nat} {d : Nat} {x y : Int32} {I : dI} {J : dJ} {R : Int64 × dI × dJ} (hD : 3 ≤ d + 1) (hQ : ∀ j, j < 8 → Q j = some (20 + 9 * j)) (h : m_92 x y I J = some R) : ∃ F1, ∀ F, F1 ≤ F → hl_rn F (d + 1) 6 (bld Q I J) [.ref 0, .int x, .int y, .ref 119] = some (bld Q (R.2.1) (sJ R.2.2 119 0 R.1), .inl (some (.int 0)), 0, 0) := by
  have g : GR (d + 1) xm_t0 (fun _ => xm_x0) (hl_b 6) (hl_L 6) (some .int) Q (fun I' J' v => I' = R.2.1 ∧ J' = sJ R.2.2 119 0 R.1 ∧ v = some (.int 0)) 0 0 0 [(0, .ref 0), (1, .int x), (2, .int y), (3, .ref 119)] [] I J := by
    refine GR.pu dh_6_0 rfl ?_
    refine GR.pu dh_6_1 rfl ?_
    refine GR.pu dh_6_2 rfl ?_
    refine GR.pu dh_6_3 rfl ?_
    refine GR.pu dh_6_4 rfl ?_
    refine GR.cv (p := 0) (As := [.int x, .int y]) dh_6_5 hc_35.choose_spec rfl sk_0 rfl (x_92 (D := 3) (Nat.le_refl _) hQ h) hD ?_
    refine GR.last dh_6_8 (show SK[119]? = some (.inr (1, 1, 1)) from rfl) (by decide) ?_
    refine GR.go dh_6_9 (t := 20) rfl ?_
    refine GR.pu dh_6_20 rfl ?_
    exact GR.ri dh_6_21 rfl rfl ⟨rfl, rfl, rfl⟩
  obtain ⟨F0, f, h2⟩ := g (lv_args 0 [.ref 0, .int x, .int y, .ref 119]) (show xm_sub [(0, .ref 0), (1, .int x), (2, .int y), (3, .ref 119)] [(0, .ref 0), (1, .int x), (2, .int y), (3, .ref 119)] from xm_sub_of [0, 1, 2, 3] [0, 1, 2, 3] rfl rfl (by decide))
  exact ⟨F0 + f, hl_of (Nat.le_of_ble_eq_true rfl) h2⟩
