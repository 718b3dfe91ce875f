/-! Each call of the class beside the reference's. -/
section POB
variable {N N' d : Nat} {Q : Nat → Option Nat} {I I1 I2 : dI} {J J1 J1' J2 : dJ}
set_option maxHeartbeats 400000 in
theorem po_comp (hd : 129 ≤ d + 1) (hQ : ∀ j, j < 8 → Q j = some (20 + 9 * j)) (x : Int32) (h : Inv2 N I J I J) : ∃ rv c s I1 J1 b I2 J2, HX d Q 0 I J [.ref 0, .int x, .ref 119] rv c s I1 J1 ∧ c ≤ 1 ∧ s ≤ 6 ∧ m_97 x I1 J1 = some (b, I2, J2) ∧ I2 92 0 = rv ∧ (rv = 0 → J2 119 0 = Int32.toInt64 b) ∧ Inv2 (N + 9) I2 J2 I2 J2 := by
  rcases nq 7 (by omega) x with ⟨q1, q2⟩ | ⟨k, hk, rfl, q1⟩
  · obtain ⟨D, rfl⟩ : ∃ D, d = D + 1 := ⟨d - 1, by omega⟩
    exact ⟨1, 1, 6, I, J, _, _, _, HX.th (by rw [orc_0, q1]; rfl) (hT_0_1 (t_39 hQ (m40_out q2))), Nat.le_refl _, Nat.le_refl _, comp_out q2, sI_eq, fun e => absurd e (by decide), out2 h⟩
  · obtain ⟨F, I1, J1', _, _, a1, _, _, a4, _⟩ := comp_2 (show k < 8 by omega) h
    have hj : ∀ q, q ≠ 119 → sJ J1' 119 0 (Int32.toInt64 (nn F)) q = J1' q := fun q hq => sJ_ne hq
    obtain ⟨F', I1', J1'', I2, J2, b1, b2, b3, b4, b5, b6, b7⟩ := comp_2 (show k < 8 by omega) (dbl2 h a4 hj)
    rw [a1] at b1
    simp only [Option.some.injEq, Prod.mk.injEq] at b1
    obtain ⟨e1, rfl, rfl⟩ := b1
    have ho : orc_ 0 (bld Q I J) [.ref 0, .int (nn k), .ref 119] = none := by rw [orc_0, q1]; rfl
    have hd8 : 8 ≤ d + 1 := by omega
    have hw := HX.no ho (hm_0 hd8 hQ a1)
    refine ⟨0, 0, 0, I1, sJ J1' 119 0 (Int32.toInt64 (nn F)), nn F', I2, J2, hw, by omega, by omega, b2, b6, fun _ => ?_, fin2 (by omega) b5 hj b7⟩
    rw [(b5 119 (Or.inr (Nat.le_refl _))).2, sJ_eq, e1]
set_option maxHeartbeats 400000 in
theorem po_drop (hd : 129 ≤ d + 1) (hQ : ∀ j, j < 8 → Q j = some (20 + 9 * j)) (x : Int32) (h : Inv2 N I J I J) : ∃ rv c s I1 J1 r I2 J2, HX d Q 1 I J [.ref 0, .int x, .ref 119] rv c s I1 J1 ∧ c ≤ 1 ∧ s ≤ 6 ∧ m_113 x I1 J1 = some (nn r, I2, J2) ∧ I2 92 0 = rv ∧ (rv = 0 → (r = 0 ∧ J2 119 0 = 0 ∨ r = 1 ∧ J2 119 0 = 1)) ∧ Inv2 (N + 9) I2 J2 I2 J2 := by
  rcases nq 7 (by omega) x with ⟨q1, q2⟩ | ⟨k, hk, rfl, q1⟩
  · obtain ⟨D, rfl⟩ : ∃ D, d = D + 1 := ⟨d - 1, by omega⟩
    exact ⟨1, 1, 6, I, J, 0, _, _, HX.th (by rw [orc_1, q1]; rfl) (hT_1_1 (t_85 hQ (m40_out q2))), Nat.le_refl _, Nat.le_refl _, drop_out q2, sI_eq, fun e => absurd e (by decide), out2 h⟩
  · obtain ⟨r, I1, _, a1, _, a3, a4, _⟩ := drop_2 (show k < 8 by omega) h
    have key : ∀ w : Int64, (∃ F1, ∀ F, F1 ≤ F → hl_rn F (d + 1) 1 (bld Q I J) [.ref 0, .int (nn k), .ref 119] = some (bld Q I1 (sJ J 119 0 w), .inl (some (.int 0)), 0, 0)) → (r = 0 ∧ w = 0 ∨ r = 1 ∧ w = 1) → ∃ rv c s I1 J1 r I2 J2, HX d Q 1 I J [.ref 0, .int (nn k), .ref 119] rv c s I1 J1 ∧ c ≤ 1 ∧ s ≤ 6 ∧ m_113 (nn k) I1 J1 = some (nn r, I2, J2) ∧ I2 92 0 = rv ∧ (rv = 0 → (r = 0 ∧ J2 119 0 = 0 ∨ r = 1 ∧ J2 119 0 = 1)) ∧ Inv2 (N + 9) I2 J2 I2 J2 := by
      intro w hw hr
      have hj : ∀ q, q ≠ 119 → sJ J 119 0 w q = J q := fun q hq => sJ_ne hq
      obtain ⟨r', I1', I2, b1, b2, b3, b4, b5, b6, b7⟩ := drop_2 (show k < 8 by omega) (dbl2 h a4 hj)
      rw [a1] at b1
      simp only [Option.some.injEq, Prod.mk.injEq, and_true] at b1
      obtain ⟨e1, rfl⟩ := b1
      rw [nn_eq (by omega) (by omega)] at e1
      subst e1
      have ho : orc_ 1 (bld Q I J) [.ref 0, .int (nn k), .ref 119] = none := by rw [orc_1, q1]; rfl
      have hw2 := HX.no ho hw
      refine ⟨0, 0, 0, I1, sJ J 119 0 w, r, I2, sJ J 119 0 w, hw2, by omega, by omega, b2, b6, fun _ => ?_, fin2 (by omega) b5 hj b7⟩
      rw [sJ_eq]
      exact hr
    have hd8 : 3 ≤ d + 1 := by omega
    rcases (show r = 0 ∨ r = 1 by omega) with rfl | rfl
    · exact key 0 (hm_1a hd8 hQ a1 rfl) (Or.inl ⟨rfl, rfl⟩)
    · exact key 1 (hm_1b hd8 hQ a1 rfl) (Or.inr ⟨rfl, rfl⟩)
set_option maxHeartbeats 400000 in
theorem po_set (hd : 129 ≤ d + 1) (x y : Int32) (h : Inv2 N I J I J) : ∃ rv c s I1 J1 I2 J2, HX d Q 2 I J [.ref 0, .int x, .int y] rv c s I1 J1 ∧ c ≤ 1 ∧ s ≤ 6 ∧ m_114 x y I1 J1 = some (I2, J2) ∧ I2 92 0 = rv ∧ Inv2 (N + 9) I2 J2 I2 J2 := by
  rcases nq 33 (by omega) x with ⟨q1, q2⟩ | ⟨k, hk, rfl, q1⟩
  · exact ⟨1, 1, 6, I, J, _, _, HX.th (by rw [orc_2, q1]; rfl) (hT_2_1 (t_86 (nq_lt (n := 33) (by omega) q2))), Nat.le_refl _, Nat.le_refl _, set_out q2, sI_eq, out2 h⟩
  · obtain ⟨I1, _, a1, _, a4, _⟩ := set_2 y (show k < 34 by omega) h
    obtain ⟨I1', I2, b1, b2, b4, b5, b6, b7⟩ := set_2 y (show k < 34 by omega) (dbl2 (J1 := J) h a4 (fun _ _ => rfl))
    rw [a1] at b1
    simp only [Option.some.injEq, Prod.mk.injEq, and_true] at b1
    subst b1
    have ho : orc_ 2 (bld Q I J) [.ref 0, .int (nn k), .int y] = none := by rw [orc_2, q1]; rfl
    have hd8 : 3 ≤ d + 1 := by omega
    have hw := HX.no ho (hm_2 hd8 a1)
    exact ⟨0, 0, 0, I1, J, I2, J, hw, by omega, by omega, b2, b6, fin2 (by omega) b5 (fun _ _ => rfl) b7⟩
set_option maxHeartbeats 400000 in
theorem po_poke (hd : 129 ≤ d + 1) (x y : Int32) (h : Inv2 N I J I J) : ∃ rv c s I1 J1 I2 J2, HX d Q 3 I J [.ref 0, .int x, .int y] rv c s I1 J1 ∧ c ≤ 1 ∧ s ≤ 6 ∧ m_116 x y I1 J1 = some (I2, J2) ∧ I2 92 0 = rv ∧ Inv2 (N + 9) I2 J2 I2 J2 := by
  rcases nq 255 (by omega) x with ⟨q1, q2⟩ | ⟨k, hk, rfl, q1⟩
  · exact ⟨1, 1, 6, I, J, _, _, HX.th (by rw [orc_3, q1]; rfl) (hT_3_1 (t_88 (nq_lt (n := 255) (by omega) q2))), Nat.le_refl _, Nat.le_refl _, poke_out q2, sI_eq, out2 h⟩
  · obtain ⟨I1, _, a1, _, a4, _⟩ := poke_2 y (show k < 256 by omega) h
    obtain ⟨I1', I2, b1, b2, b4, b5, b6, b7⟩ := poke_2 y (show k < 256 by omega) (dbl2 (J1 := J) h a4 (fun _ _ => rfl))
    rw [a1] at b1
    simp only [Option.some.injEq, Prod.mk.injEq, and_true] at b1
    subst b1
    have ho : orc_ 3 (bld Q I J) [.ref 0, .int (nn k), .int y] = none := by rw [orc_3, q1]; rfl
    have hd8 : 3 ≤ d + 1 := by omega
    have hw := HX.no ho (hm_3 hd8 a1)
    exact ⟨0, 0, 0, I1, J, I2, J, hw, by omega, by omega, b2, b6, fin2 (by omega) b5 (fun _ _ => rfl) b7⟩
set_option maxHeartbeats 400000 in
theorem po_ign (hd : 129 ≤ d + 1) (hQ : ∀ j, j < 8 → Q j = some (20 + 9 * j)) (x y : Int32) (h : Inv2 N I J I J) : ∃ rv c s I1 J1 b I2 J2, HX d Q 4 I J [.ref 0, .int x, .int y, .ref 119] rv c s I1 J1 ∧ c ≤ 1 ∧ s ≤ 6 ∧ m_117 x y I1 J1 = some (b, I2, J2) ∧ I2 92 0 = rv ∧ (rv = 0 → J2 119 0 = Int32.toInt64 b) ∧ Inv2 (N + 9) I2 J2 I2 J2 := by
  obtain ⟨D, rfl⟩ : ∃ D, d = D + 1 := ⟨d - 1, by omega⟩
  rcases nq 7 (by omega) x with ⟨q1, q2⟩ | ⟨k, hk, rfl, q1⟩
  · exact ⟨1, 1, 6, I, J, _, _, _, HX.th (by rw [orc_4, q1]; rfl) (hT_4_1 (t_90a hQ (m40_out q2))), Nat.le_refl _, Nat.le_refl _, ign_o1 q2, sI_eq, fun e => absurd e (by decide), out2 h⟩
  · have hk8 : k < 8 := by omega
    rcases nq 1000 (by omega) y with ⟨r1, r2⟩ | ⟨n, hn, rfl, r1⟩
    · exact ⟨1, 1, 6, I, J, _, _, _, HX.th (by rw [orc_4, q1, r1]; rfl) (hT_4_1 (t_90b hQ (m40_eq hk8 I J) (nq_le r2))), Nat.le_refl _, Nat.le_refl _, ign_o2 hk8 r2, sI_eq, fun e => absurd e (by decide), out2 h⟩
    · obtain ⟨t1, t2, -⟩ := h.2.2.2 k hk8
      rcases t2 with t2 | t2
      · have h0 : I (20 + 9 * k) 1 = 0 := t1.trans t2
        exact ⟨2, 1, 6, I, J, _, _, _, HX.th (by rw [orc_4, q1, r1, oc_k hk8, decide_eq_true h0]; rfl) (hT_4_2 (t_90c hQ (m40_eq hk8 I J) (fun e => by rw [show (0 : Int32) = nn 0 from rfl, nn_lt (by omega) (by omega)] at e; omega) (by rw [show (1000 : Int32) = nn 1000 from rfl, nn_le (by omega) (by omega)]; exact hn) h0)), Nat.le_refl _, Nat.le_refl _, ign_o3 hk8 hn t2, sI_eq, fun e => absurd e (by decide), out2 h⟩
      · have h0 : ¬ I (20 + 9 * k) 1 = 0 := fun e => absurd (e.symm.trans (t1.trans t2)) (by decide)
        obtain ⟨r, I1, _, a1, _, a4, _⟩ := ign_2 hk8 hn t2 h
        have hj : ∀ q, q ≠ 119 → sJ J 119 0 (Int32.toInt64 r) q = J q := fun q hq => sJ_ne hq
        obtain ⟨r', I1', I2, b1, b2, b4, b5, b6, b7⟩ := ign_2 hk8 hn (by rw [(a4 96 (by omega)).1]; exact t2) (dbl2 h a4 hj)
        rw [a1] at b1
        simp only [Option.some.injEq, Prod.mk.injEq, and_true] at b1
        obtain ⟨rfl, rfl⟩ := b1
        have ho : orc_ 4 (bld Q I J) [.ref 0, .int (nn k), .int (nn n), .ref 119] = none := by rw [orc_4, q1, r1, oc_k hk8, decide_eq_false h0]; rfl
        have hd8 : 3 ≤ D + 1 + 1 := by omega
        have hw := HX.no ho (hm_4 hd8 hQ a1)
        refine ⟨0, 0, 0, I1, sJ J 119 0 (Int32.toInt64 r), r, I2, sJ J 119 0 (Int32.toInt64 r), hw, by omega, by omega, b2, b6, fun _ => ?_, fin2 (by omega) b5 hj b7⟩
        rw [sJ_eq]
set_option maxHeartbeats 400000 in
theorem po_ask (hN : N < 80000) (hd : 129 ≤ d + 1) (hQ : ∀ j, j < 8 → Q j = some (20 + 9 * j)) (x : Int32) (h : Inv2 N I J I J) : ∃ rv c s I1 J1 b I2 J2, HX d Q 5 I J [.ref 0, .int x, .ref 119] rv c s I1 J1 ∧ c ≤ 1 ∧ s ≤ 6 ∧ m_118 x I1 J1 = some (b, I2, J2) ∧ I2 92 0 = rv ∧ (rv = 0 → J2 119 0 = Int32.toInt64 b) ∧ Inv2 (N + 9) I2 J2 I2 J2 := by
  obtain ⟨D, rfl⟩ : ∃ D, d = D + 1 := ⟨d - 1, by omega⟩
  rcases nq 7 (by omega) x with ⟨q1, q2⟩ | ⟨k, hk, rfl, q1⟩
  · exact ⟨1, 1, 6, I, J, _, _, _, HX.th (by rw [orc_5, q1]; rfl) (hT_5_1 (t_91 hQ (m40_out q2))), Nat.le_refl _, Nat.le_refl _, ask_o1 q2, sI_eq, fun e => absurd e (by decide), out2 h⟩
  · have hk8 : k < 8 := by omega
    obtain ⟨t1, t2, -⟩ := h.2.2.2 k hk8
    rcases t2 with t2 | t2
    · have h0 : I (20 + 9 * k) 1 = 0 := t1.trans t2
      exact ⟨2, 1, 6, I, J, _, _, _, HX.th (by rw [orc_5, q1, oc_k hk8, decide_eq_true h0]; rfl) (hT_5_2 (t_91b hQ (m40_eq hk8 I J) h0)), Nat.le_refl _, Nat.le_refl _, ask_o3 hk8 t2, sI_eq, fun e => absurd e (by decide), out2 h⟩
    · have h0 : ¬ I (20 + 9 * k) 1 = 0 := fun e => absurd (e.symm.trans (t1.trans t2)) (by decide)
      obtain ⟨r, I1, J1', _, _, a1, _, a4, _⟩ := ask_2 hk8 (by omega) t2 h
      have hj : ∀ q, q ≠ 119 → sJ J1' 119 0 (Int32.toInt64 r) q = J1' q := fun q hq => sJ_ne hq
      obtain ⟨r', I1', J1'', I2, J2, b1, b2, b4, b5, b6, b7⟩ := ask_2 hk8 (by omega) (by rw [(a4 96 (by omega)).1]; exact t2) (dbl2 h a4 hj)
      rw [a1] at b1
      simp only [Option.some.injEq, Prod.mk.injEq] at b1
      obtain ⟨rfl, rfl, rfl⟩ := b1
      have ho : orc_ 5 (bld Q I J) [.ref 0, .int (nn k), .ref 119] = none := by rw [orc_5, q1, oc_k hk8, decide_eq_false h0]; rfl
      have hd8 : 129 ≤ D + 1 + 1 := by omega
      have hw := HX.no ho (hm_5 hd8 hQ a1)
      refine ⟨0, 0, 0, I1, sJ J1' 119 0 (Int32.toInt64 r), r, I2, J2, hw, by omega, by omega, b2, b6, fun _ => ?_, fin2 (by omega) b5 hj b7⟩
      rw [(b5 119 (Or.inr (Nat.le_refl _))).2, sJ_eq]
set_option maxHeartbeats 400000 in
theorem po_abt (hd : 129 ≤ d + 1) (hQ : ∀ j, j < 8 → Q j = some (20 + 9 * j)) (x y : Int32) (h : Inv2 N I J I J) : ∃ rv c s I1 J1 b I2 J2, HX d Q 6 I J [.ref 0, .int x, .int y, .ref 119] rv c s I1 J1 ∧ c ≤ 1 ∧ s ≤ 6 ∧ m_134 x y I1 J1 = some (b, I2, J2) ∧ I2 92 0 = rv ∧ (rv = 0 → J2 119 0 = b) ∧ Inv2 (N + 9) I2 J2 I2 J2 := by
  obtain ⟨D, rfl⟩ : ∃ D, d = D + 1 := ⟨d - 1, by omega⟩
  rcases nq 7 (by omega) x with ⟨q1, q2⟩ | ⟨k, hk, rfl, q1⟩
  · exact ⟨1, 1, 6, I, J, _, _, _, HX.th (by rw [orc_6, q1]; rfl) (hT_6_1 (t_92a hQ (m40_out q2))), Nat.le_refl _, Nat.le_refl _, abt_o1 q2, sI_eq, fun e => absurd e (by decide), out2 h⟩
  · have hk8 : k < 8 := by omega
    rcases nq 5 (by omega) y with ⟨r1, r2⟩ | ⟨n, hn, rfl, r1⟩
    · exact ⟨1, 1, 6, I, J, _, _, _, HX.th (by rw [orc_6, q1, r1]; rfl) (hT_6_1 (t_92b hQ (m40_eq hk8 I J) (nq_le r2))), Nat.le_refl _, Nat.le_refl _, abt_o2 hk8 r2, sI_eq, fun e => absurd e (by decide), out2 h⟩
    · obtain ⟨t1, t2, -⟩ := h.2.2.2 k hk8
      rcases t2 with t2 | t2
      · have h0 : I (20 + 9 * k) 1 = 0 := t1.trans t2
        exact ⟨2, 1, 6, I, J, _, _, _, HX.th (by rw [orc_6, q1, r1, oc_k hk8, decide_eq_true h0]; rfl) (hT_6_2 (t_92c hQ (m40_eq hk8 I J) (fun e => by rw [show (0 : Int32) = nn 0 from rfl, nn_lt (by omega) (by omega)] at e; omega) (by rw [show (5 : Int32) = nn 5 from rfl, nn_le (by omega) (by omega)]; exact hn) h0)), Nat.le_refl _, Nat.le_refl _, abt_o3 hk8 hn t2, sI_eq, fun e => absurd e (by decide), out2 h⟩
      · have h0 : ¬ I (20 + 9 * k) 1 = 0 := fun e => absurd (e.symm.trans (t1.trans t2)) (by decide)
        obtain ⟨r, a1, -, -⟩ := abt_2 hk8 hn t2 h
        have hj : ∀ q, q ≠ 119 → sJ J 119 0 r q = J q := fun q hq => sJ_ne hq
        obtain ⟨r', b1, b2, b7⟩ := abt_2 hk8 hn t2 (dbl2 (I1 := I) (J1' := J) h (fun q hq => ⟨rfl, rfl⟩) hj)
        rw [a1] at b1
        simp only [Option.some.injEq, Prod.mk.injEq, and_true] at b1
        subst b1
        have ho : orc_ 6 (bld Q I J) [.ref 0, .int (nn k), .int (nn n), .ref 119] = none := by rw [orc_6, q1, r1, oc_k hk8, decide_eq_false h0]; rfl
        have hd8 : 3 ≤ D + 1 + 1 := by omega
        have hw := HX.no ho (hm_6 hd8 hQ a1)
        refine ⟨0, 0, 0, I, sJ J 119 0 r, r, _, _, hw, by omega, by omega, b2, sI_eq, fun _ => ?_, fin2 (by omega) (mf_code (Im := I) (Jm := sJ J 119 0 r)) hj b7⟩
        rw [sJ_eq]
set_option maxHeartbeats 400000 in
theorem po_type (x : Int32) (h : Inv2 N I J I J) : ∃ r I1 J1 I2 J2, m_9 x I J = some (r, I1, J1) ∧ m_96 x I1 J1 = some (r, I2, J2) ∧ Inv2 (N + 9) I2 J2 I2 J2 := by
  obtain ⟨r, I1, J1, _, _, a1, _, a3, a4, _⟩ := type_2 x h
  obtain ⟨r', I1', J1', I2, J2, b1, b2, b3, b4, b5, b6, b7⟩ := type_2 x (dbl2 (J1 := J1) h a4 (fun _ _ => rfl))
  rw [a1] at b1
  simp only [Option.some.injEq, Prod.mk.injEq] at b1
  obtain ⟨e1, rfl, rfl⟩ := b1
  exact ⟨nn r, I1, J1, I2, J2, a1, by rw [e1]; exact b2, fin2 (by omega) b5 (fun _ _ => rfl) b7⟩
set_option maxHeartbeats 400000 in
theorem po_go (x : Int64) (h : Inv2 N I J I J) : ∃ I1 J1 I2 J2, m_11 x I J = some (I1, J1) ∧ m_115 x I1 J1 = some (I2, J2) ∧ Inv2 (N + 9) I2 J2 I2 J2 := by
  obtain ⟨a1, _, a4, _⟩ := go_2 x h
  obtain ⟨b1, b2, b4, b5, b7⟩ := go_2 x (dbl2 (J1 := sJ J 3 2 x) h a4 (fun _ _ => rfl))
  exact ⟨_, _, _, _, a1, b2, fin2 (by omega) b5 (fun _ _ => rfl) b7⟩
set_option maxHeartbeats 400000 in
theorem po_all (hN : N < 80000) (h : Inv2 N I J I J) : ∃ r I1 J1 I2 J2, m_12 I J = some (r, I1, J1) ∧ m_133 I1 J1 = some (r, I2, J2) ∧ Inv2 (N + 9) I2 J2 I2 J2 := by
  obtain ⟨r, I1, J1, _, _, a1, _, a4, _⟩ := askall_2 hN h
  obtain ⟨r', I1', J1', I2, J2, b1, b2, b4, b5, b7⟩ := askall_2 hN (dbl2 (J1 := J1) h a4 (fun _ _ => rfl))
  rw [a1] at b1
  simp only [Option.some.injEq, Prod.mk.injEq] at b1
  obtain ⟨rfl, rfl, rfl⟩ := b1
  exact ⟨r, I1, J1, I2, J2, a1, b2, fin2 (by omega) b5 (fun _ _ => rfl) b7⟩
set_option maxHeartbeats 400000 in
theorem po_count (x : Int32) (h : Inv2 N I J I J) : ∃ r I2 J2, m_37 x I J = some r ∧ m_135 x I J = some (r, I2, J2) ∧ Inv2 (N + 9) I2 J2 I2 J2 := by
  obtain ⟨r, a1, a2, a3⟩ := count_2 x h
  exact ⟨r, _, _, a1, a2, fin2 (by omega) (mf_code (Im := I) (Jm := J)) (fun _ _ => rfl) a3⟩
end POB
