/-! Asking one condition: both sides. -/
theorem ask_m {k mn g : Nat} {Im : dI} {Jm : dJ} {rv : Int64} {e : Int32} {Ir I7 : dI} {Jr J7 : dJ} (hk : k < 8) (hm : Im 98 k = nn mn) (hw : m_120 (nn k) (nn (120 * k)) (nn (120 * k + mn)) (sI Im 92 33 (nn 0)) Jm = some (rv, Ir, Jr)) (h33 : Ir 92 33 = nn g) (h34 : Ir 92 34 = e) (he3 : e = nn 0 ∨ e = nn 1 ∨ e = nn 2) (hv0 : e ≠ nn 0 → rv = 0) (hr : m_132 (nn k) (sI Ir 102 k (nn g)) (sJ (sJ Jr 92 20 (Jr 92 20 + Int32.toInt64 (nn g))) 103 k rv) = some (I7, J7)) : ∃ r i2 h4 f5, m_119 (nn k) Im Jm = some (r, sI (sI I7 100 k i2) 101 k f5, sJ J7 104 k h4) ∧ ((e ≠ nn 0 ∧ r = -e ∧ i2 = I7 100 k ∧ h4 = J7 104 k ∧ f5 = I7 101 k + nn 1) ∨ (e = nn 0 ∧ rv = 0 ∧ r = nn 0 ∧ i2 = I7 100 k ∧ h4 = J7 104 k ∧ f5 = I7 101 k) ∨ (e = nn 0 ∧ rv ≠ 0 ∧ I7 100 k ≤ nn 0 ∧ r = nn 1 ∧ i2 = I7 100 k ∧ h4 = J7 104 k + 1 ∧ f5 = I7 101 k) ∨ (e = nn 0 ∧ rv ≠ 0 ∧ ¬ I7 100 k ≤ nn 0 ∧ r = nn 0 ∧ i2 = I7 100 k - nn 1 ∧ h4 = J7 104 k ∧ f5 = I7 101 k)) := by
  have idI : ∀ (X : dI) (p j : Nat), sI X p j (X p j) = X := fun X p j => dI_ext fun q i => by
    rw [sI_get]
    split
    · rename_i hh; rw [hh.1, hh.2]
    · rfl
  have idJ : ∀ (X : dJ) (p j : Nat), sJ X p j (X p j) = X := fun X p j => dJ_ext fun q i => by
    rw [sJ_get]
    split
    · rename_i hh; rw [hh.1, hh.2]
    · rfl
  have i5 : ∀ x, sI (sI I7 100 k x) 101 k (I7 101 k) = sI I7 100 k x := fun x => by
    have := idI (sI I7 100 k x) 101 k
    rw [sI_ne (by omega)] at this
    exact this
  have neg0 : -(nn 0) = nn 0 := by decide
  by_cases he : e = nn 0
  · by_cases hv : rv = 0
    · refine ⟨nn 0, _, _, _, ?_, Or.inr (Or.inl ⟨he, hv, rfl, rfl, rfl, rfl⟩)⟩
      rw [i5, idI, idJ]
      simp (disch := omega) only [m_119, b_119_0, b_119_71, b_119_92, hm, hw, h33, h34, he, hv, nn_mul, sI_ne, lg_eq0, neg0, not_true_eq_false, ↓reduceIte, nn_l, nn_o, nn_lt, nn_le, nn_eq, nn_cl, nn_add, nn_sub, if_pos, if_neg, lt_, Option.bind_some, ↓reduceIte, not_true_eq_false, not_false_eq_true, Nat.add_sub_cancel, Nat.add_zero, Nat.reduceSub, Nat.reduceAdd, Nat.reduceMul, Nat.reduceEqDiff, Nat.reduceLT, Nat.reduceLeDiff, or_false, false_or, Nat.not_lt_zero]
      simp only [hv] at hr
      simp (disch := omega) only [hr, neg0, nn_l, nn_o, nn_lt, nn_le, nn_eq, nn_cl, nn_add, nn_sub, if_pos, if_neg, lt_, Option.bind_some, ↓reduceIte, not_true_eq_false, not_false_eq_true, Nat.add_sub_cancel, Nat.add_zero, Nat.reduceSub, Nat.reduceAdd, Nat.reduceMul, Nat.reduceEqDiff, Nat.reduceLT, Nat.reduceLeDiff, or_false, false_or, Nat.not_lt_zero]
    · by_cases hi : I7 100 k ≤ nn 0
      · refine ⟨nn 1, _, _, _, ?_, Or.inr (Or.inr (Or.inl ⟨he, hv, hi, rfl, rfl, rfl, rfl⟩))⟩
        rw [i5, idI]
        simp (disch := omega) only [m_119, b_119_0, b_119_71, b_119_92, hm, hw, h33, h34, he, hv, hi, hr, nn_mul, sI_ne, lg_eq0, neg0, not_false_eq_true, ↓reduceIte, nn_l, nn_o, nn_lt, nn_le, nn_eq, nn_cl, nn_add, nn_sub, if_pos, if_neg, lt_, Option.bind_some, ↓reduceIte, not_true_eq_false, not_false_eq_true, Nat.add_sub_cancel, Nat.add_zero, Nat.reduceSub, Nat.reduceAdd, Nat.reduceMul, Nat.reduceEqDiff, Nat.reduceLT, Nat.reduceLeDiff, or_false, false_or, Nat.not_lt_zero]
      · refine ⟨nn 0, _, _, _, ?_, Or.inr (Or.inr (Or.inr ⟨he, hv, hi, rfl, rfl, rfl, rfl⟩))⟩
        rw [i5, idJ]
        simp (disch := omega) only [m_119, b_119_0, b_119_71, b_119_92, hm, hw, h33, h34, he, hv, hi, hr, nn_mul, sI_ne, lg_eq0, neg0, not_false_eq_true, ↓reduceIte, nn_l, nn_o, nn_lt, nn_le, nn_eq, nn_cl, nn_add, nn_sub, if_pos, if_neg, lt_, Option.bind_some, ↓reduceIte, not_true_eq_false, not_false_eq_true, Nat.add_sub_cancel, Nat.add_zero, Nat.reduceSub, Nat.reduceAdd, Nat.reduceMul, Nat.reduceEqDiff, Nat.reduceLT, Nat.reduceLeDiff, or_false, false_or, Nat.not_lt_zero]
  · refine ⟨-e, _, _, _, ?_, Or.inl ⟨he, rfl, rfl, rfl, rfl⟩⟩
    rw [idI, idJ]
    have hv := hv0 he
    obtain ⟨z, z1, z2, z3⟩ : ∃ z, e = nn z ∧ 0 < z ∧ z ≤ 2 := by
      rcases he3 with h | h | h
      · exact absurd h he
      · exact ⟨1, h, by omega, by omega⟩
      · exact ⟨2, h, by omega, by omega⟩
    simp only [hv] at hr
    simp (disch := omega) only [m_119, b_119_0, b_119_71, b_119_92, hm, hw, h33, h34, z1, hr, nn_mul, sI_ne, nn_l, nn_o, nn_lt, nn_le, nn_eq, nn_cl, nn_add, nn_sub, if_pos, if_neg, lt_, Option.bind_some, ↓reduceIte, not_true_eq_false, not_false_eq_true, Nat.add_sub_cancel, Nat.add_zero, Nat.reduceSub, Nat.reduceAdd, Nat.reduceMul, Nat.reduceEqDiff, Nat.reduceLT, Nat.reduceLeDiff, or_false, false_or, Nat.not_lt_zero]
def CFr (k : Nat) (I : dI) (J : dJ) (I' : dI) (J' : dJ) : Prop := (∀ q, q < 20 + 9 * k ∨ 29 + 9 * k ≤ q → I' q = I q ∧ J' q = J q) ∧ I' (20 + 9 * k) 1 = I (20 + 9 * k) 1
def MFr (k : Nat) (I : dI) (J : dJ) (I' : dI) (J' : dJ) : Prop := (∀ q, q ≠ 92 → q ≠ 97 → q ≠ 100 → q ≠ 101 → q ≠ 102 → (q < 114 ∨ 118 < q) → I' q = I q) ∧ (∀ j, j < 32 → I' 92 j = I 92 j) ∧ (∀ i, i ≠ k → I' 97 i = I 97 i ∧ I' 100 i = I 100 i ∧ I' 101 i = I 101 i ∧ I' 102 i = I 102 i) ∧ (∀ q, q ≠ 92 → q ≠ 103 → q ≠ 104 → q ≠ 108 → q ≠ 109 → q ≠ 118 → J' q = J q) ∧ (∀ j, j ≠ 20 → j ≠ 35 → J' 92 j = J 92 j) ∧ (∀ i, i ≠ k → J' 103 i = J 103 i ∧ J' 104 i = J 104 i) ∧ (∀ i, i < 120 * k ∨ 120 * k + 120 ≤ i → J' 108 i = J 108 i)
theorem i64_inc {z : Nat} (h : z < 1000000) : Int32.toInt64 (nn z + nn 1) = Int32.toInt64 (nn z) + 1 := by
  rw [nn_add, nn_long (by omega), nn_long (by omega)]
  exact Int64.ofNat_add z 1
theorem ask_k {N k : Nat} {Ic : dI} {Jc : dJ} {Im : dI} {Jm : dJ} (hk : k < 8) (hN : N < 100000) (hM : Mac Ic Jc Im Jm) (hL : Live N k Ic Jc Im Jm) : ∃ r Ic' Jc' Im' Jm', m_13 (20 + 9 * k) Ic Jc = some (r, Ic', Jc') ∧ m_119 (nn k) Im Jm = some (r, Im', Jm') ∧ Live (N + 1) k Ic' Jc' Im' Jm' ∧ CFr k Ic Jc Ic' Jc' ∧ MFr k Im Jm Im' Jm' ∧ Jm' 92 20 = Jm 92 20 + Jc' (20 + 9 * k) 6 := by
  obtain ⟨l1, l2, l3, l4, l5, l6, ⟨zf, zf1, zf2⟩, l8, l9, sz, mn, hP, hR⟩ := hL
  have hP' := hP
  obtain ⟨p1, p2, p3, p4, p5, ⟨q0, m0, p6⟩, p7⟩ := hP
  have hsa : ∀ {J1 : dJ} {I2 : dI} {J2 : dJ}, AgP (20 + 9 * k + 1) Jc J1 → AgE k Im Jm I2 J2 → ∀ {q n a b m : Nat}, Od (20 + 9 * k + 1) Ic Jc Im Jm q n a b m → n < sz → 120 * k ≤ a → b ≤ 120 * k + mn → ∃ v e g, CR (20 + 9 * k + 1) Ic J1 n v e g ∧ MR (nn k) I2 J2 n a b v e g ∧ (e = nn 0 ∨ e = nn 1 ∨ e = nn 2) := fun {J1 I2 J2} h1 h2 {q n a b m} hO hn ha hb => sim_at (N := N) hk hM hP' l8 l9 hR h1 h2 hO hn ha hb
  have ag0 : AgE k Im Jm (sI Im 92 33 (nn 0)) Jm := ⟨sI_ne (by omega), sI_ne (by omega), by rw [sI_ne (by omega)], sI_ne (by omega), sI_ne (by omega), rfl, rfl, rfl⟩
  obtain ⟨v, e, g, y1, y2, y3⟩ := hsa (fun _ _ => rfl) ag0 p6 (by omega) (Nat.le_refl _) (Nat.le_refl _)
  have hHc : ∀ n J1, n < sz → AgP (20 + 9 * k + 1) Jc J1 → (Ic (20 + 9 * k + 1 + 1 + 1) n = nn 8 ∨ Ic (20 + 9 * k + 1 + 1 + 1) n = nn 9) → ∃ c v e g, Ic (20 + 9 * k + 1 + 1 + 2) n = nn c ∧ c < n ∧ CR (20 + 9 * k + 1) Ic J1 c v e g := by
    intro n J1 hn hA h89
    obtain ⟨q, a, b, m, x1, x2, x3⟩ := p7 n hn
    obtain ⟨κ, κ1, κ2⟩ : ∃ κ, (κ = 8 ∨ κ = 9) ∧ Ic (20 + 9 * k + 1 + 1 + 1) n = nn κ := by
      rcases h89 with h | h
      · exact ⟨8, Or.inl rfl, h⟩
      · exact ⟨9, Or.inr rfl, h⟩
    obtain ⟨q', c, a', b', m', o1, o2, o3, o4, o5, o6, o7, o8, o9⟩ := opd_old q n a b m κ x3 κ1 κ2
    obtain ⟨v', e', g', w1, w2, w3⟩ := hsa hA (show AgE k Im Jm Im Jm from ⟨rfl, rfl, rfl, rfl, rfl, rfl, rfl, rfl⟩) o8 (by omega) (by omega) (by omega)
    exact ⟨c, v', e', g', o3, o4, w1⟩
  obtain ⟨J1, wc1, wc2, wc3⟩ := wall_c p1 p2 p3 hHc y1
  obtain ⟨r, i2, h4, f5, ac1, ac2⟩ := ans_c wc1
  obtain ⟨Ir, Jr, wm1, wm2, wm3, wm4⟩ := work_m y2 (by omega) (by omega)
  rw [sI_eq, nn_add, Nat.zero_add] at wm3
  have wm2' : AgE k Im Jm Ir Jr := age_tr ag0 (age_n ⟨wm2.1, wm2.2.1, fun q a b _ => wm2.2.2.1 q a b, wm2.2.2.2⟩)
  have ag6 : AgE k Im Jm (sI Ir 102 k (nn g)) (sJ (sJ Jr 92 20 (Jr 92 20 + Int32.toInt64 (nn g))) 103 k (if e = nn 0 then v else 0)) := by
    obtain ⟨a1, a2, a3, a4, a5, a6, a7, a8⟩ := wm2'
    refine ⟨?_, ?_, ?_, ?_, ?_, ?_, ?_, ?_⟩
    · rw [sI_ne (by omega)]; exact a1
    · rw [sI_ne (by omega)]; exact a2
    · rw [sI_ne (by omega)]; exact a3
    · rw [sI_ne (by omega)]; exact a4
    · rw [sI_ne (by omega)]; exact a5
    · rw [sJ_ne (by omega), sJ_ne (by omega)]; exact a6
    · rw [sJ_ne (by omega), sJ_ne (by omega)]; exact a7
    · rw [sJ_ne (by omega), sJ_nk (by omega)]; exact a8
  have hm98 : (sI Ir 102 k (nn g)) 98 k = nn mn := by
    rw [sI_ne (by omega), wm2.1 98 (by omega) (by omega), sI_ne (by omega)]; exact p4
  have hHm : ∀ t I1 J1', t < mn → AgN (sI Ir 102 k (nn g)) (sJ (sJ Jr 92 20 (Jr 92 20 + Int32.toInt64 (nn g))) 103 k (if e = nn 0 then v else 0)) I1 J1' → ((sI Ir 102 k (nn g)) 105 (120 * k + t) = nn 8 ∨ (sI Ir 102 k (nn g)) 105 (120 * k + t) = nn 9) → ∃ n b v e g', (sI Ir 102 k (nn g)) 106 (120 * k + t + 1) = nn b ∧ t + 1 < mn ∧ b ≤ 120 * k + mn ∧ n ≤ 60 ∧ MR (nn k) I1 J1' n (120 * k + t + 2) b v e g' := by
    intro t I1 J1' ht hA h89
    rw [ag6.2.2.2.1] at h89
    rw [ag6.2.2.2.2.1]
    obtain ⟨κ, κ1, κ2⟩ : ∃ κ, (κ = 8 ∨ κ = 9) ∧ Im 105 (120 * k + t) = nn κ := by
      rcases h89 with h | h
      · exact ⟨8, Or.inl rfl, h⟩
      · exact ⟨9, Or.inr rfl, h⟩
    obtain ⟨q1, n1, b1, m1, c1, c2, c3, c4⟩ := opd_cov _ _ _ _ _ p6 (120 * k + t) κ (by omega) (by omega) κ1 κ2
    obtain ⟨q', c, a', b', m', o1, o2, o3, o4, o5, o6, o7, o8, o9⟩ := opd_old q1 n1 _ b1 m1 κ c1 κ1 c4
    obtain ⟨rfl, rfl⟩ := o9 κ2
    obtain ⟨v', e', g', w1, w2, w3⟩ := hsa (J1 := Jc) (fun _ _ => rfl) (age_tr ag6 (age_n hA)) o8 (by omega) (by omega) (by omega)
    exact ⟨c, b' - 1, v', e', g', o6, by omega, by omega, by omega, w2⟩
  obtain ⟨F, hF, hF2⟩ : ∃ F, FU = F ∧ 2000 < F := ⟨5000, rfl, by decide⟩
  obtain ⟨I2, J2, rm1, rm2, rm3, rm4⟩ := rem_m hk hm98 p5 hHm mn 0 F _ _ (by omega) (by omega) ⟨fun _ _ _ => rfl, fun _ _ => rfl, fun _ _ _ _ => rfl, fun _ _ => rfl⟩
  have hm98' : I2 98 k = nn mn := by rw [rm2.1 98 (by omega) (by omega)]; exact hm98
  obtain ⟨J7, cp1, cp2, cp3, cp4⟩ := rem_cp (I := I2) hk hm98' p5 mn 0 F J2 (by omega) (by omega)
  have hr : m_132 (nn k) (sI Ir 102 k (nn g)) (sJ (sJ Jr 92 20 (Jr 92 20 + Int32.toInt64 (nn g))) 103 k (if e = nn 0 then v else 0)) = some (sI I2 97 k (nn 1), J7) := by
    unfold m_132 b_132_0
    simp only [nn_l, nn_mul]
    rw [hF] at rm1 ⊢
    rw [rm1, cp1]
  obtain ⟨r', i2', h4', f5', am1, am2⟩ := ask_m hk p4 wm1 wm3 wm4 y3 (fun h => if_neg h) hr
  -- rows of the reference behind it
  have rI : ∀ q, q ≠ 92 → q ≠ 97 → q ≠ 100 → q ≠ 101 → q ≠ 102 → (q < 114 ∨ 118 < q) → (sI (sI (sI I2 97 k (nn 1)) 100 k i2') 101 k f5') q = Im q := by
    intro q a1 a2 a3 a4 a5 a6
    rw [sI_ne a4, sI_ne a3, sI_ne a2, rm2.1 q a1 a6, sI_ne a5, wm2.1 q a1 a6, sI_ne a1]
  have r100 : (sI I2 97 k (nn 1)) 100 = Im 100 := by
    rw [sI_ne (by omega), rm2.1 100 (by omega) (by omega), sI_ne (by omega), wm2.1 100 (by omega) (by omega), sI_ne (by omega)]
  have r101 : (sI I2 97 k (nn 1)) 101 = Im 101 := by
    rw [sI_ne (by omega), rm2.1 101 (by omega) (by omega), sI_ne (by omega), wm2.1 101 (by omega) (by omega), sI_ne (by omega)]
  have r102 : ∀ i, (sI I2 97 k (nn 1)) 102 i = if i = k then nn g else Im 102 i := by
    intro i
    rw [sI_ne (by omega), rm2.1 102 (by omega) (by omega), sI_get]
    by_cases h : i = k
    · rw [if_pos ⟨rfl, h⟩, if_pos h]
    · rw [if_neg (fun x => h x.2), if_neg h, wm2.1 102 (by omega) (by omega), sI_ne (by omega)]
  have r97 : I2 97 = Im 97 := by
    rw [rm2.1 97 (by omega) (by omega), sI_ne (by omega), wm2.1 97 (by omega) (by omega), sI_ne (by omega)]
  have j104 : J7 104 = Jm 104 := by
    rw [cp2 104 (by omega), rm2.2.2.1 104 (by omega) (by omega) (by omega), sJ_ne (by omega), sJ_ne (by omega), wm2.2.2.1 104 (by omega) (by omega)]
  have j103 : ∀ i, J7 103 i = if i = k then (if e = nn 0 then v else 0) else Jm 103 i := by
    intro i
    rw [cp2 103 (by omega), rm2.2.2.1 103 (by omega) (by omega) (by omega), sJ_get]
    by_cases h : i = k
    · rw [if_pos ⟨rfl, h⟩, if_pos h]
    · rw [if_neg (fun x => h x.2), if_neg h, sJ_ne (by omega), wm2.2.2.1 103 (by omega) (by omega)]
  have jJ : ∀ q, q ≠ 92 → q ≠ 103 → q ≠ 104 → q ≠ 108 → q ≠ 109 → q ≠ 118 → J7 q = Jm q := by
    intro q a1 a2 a3 a4 a5 a6
    rw [cp2 q a4, rm2.2.2.1 q a1 a6 a5, sJ_ne a2, sJ_ne a1, wm2.2.2.1 q a1 a6]
  have j92 : ∀ j, j ≠ 20 → j ≠ 35 → J7 92 j = Jm 92 j := by
    intro j a1 a2
    rw [cp2 92 (by omega), rm2.2.2.2 j a2, sJ_ne (by omega), sJ_nk a1, wm2.2.2.2 j a2]
  have j9220 : J7 92 20 = Jm 92 20 + Int32.toInt64 (nn g) := by
    rw [cp2 92 (by omega), rm2.2.2.2 20 (by omega), sJ_ne (by omega), sJ_eq, wm2.2.2.2 20 (by omega)]
  have j108 : J2 108 = Jm 108 := by
    rw [rm2.2.2.1 108 (by omega) (by omega) (by omega), sJ_ne (by omega), sJ_ne (by omega), wm2.2.2.1 108 (by omega) (by omega)]
  have jc45 : J1 (20 + 9 * k) = Jc (20 + 9 * k) := wc2 _ (by omega) (by omega)
  have hrr : r = r' ∧ i2 = i2' ∧ h4 = h4' ∧ f5 = Int32.toInt64 f5' ∧ (∃ z, z ≤ N + 1 ∧ f5' = nn z) := by
    rw [r100, r101, j104] at am2
    rw [jc45, l1, l3, l4] at ac2
    rcases ac2 with ⟨x1, x2, x3, x4, x5⟩ | ⟨x1, x0, x2, x3, x4, x5⟩ | ⟨x1, x0, x6, x2, x3, x4, x5⟩ | ⟨x1, x0, x6, x2, x3, x4, x5⟩ <;> rcases am2 with ⟨y1, y2, y3, y4, y5⟩ | ⟨y1, y0, y2, y3, y4, y5⟩ | ⟨y1, y0, y6, y2, y3, y4, y5⟩ | ⟨y1, y0, y6, y2, y3, y4, y5⟩
    · refine ⟨x2.trans y2.symm, x3.trans y3.symm, x4.trans y4.symm, ?_, zf + 1, by omega, ?_⟩
      · rw [x5, y5, zf2, i64_inc (by omega)]
      · rw [y5, zf2, nn_add]
    · exact absurd y1 x1
    · exact absurd y1 x1
    · exact absurd y1 x1
    · exact absurd x1 y1
    · refine ⟨x2.trans y2.symm, x3.trans y3.symm, x4.trans y4.symm, ?_, zf, by omega, ?_⟩
      · rw [x5, y5]
      · rw [y5, zf2]
    · exact absurd x0 y0
    · exact absurd x0 y0
    · exact absurd x1 y1
    · exact absurd y0 x0
    · refine ⟨x2.trans y2.symm, x3.trans y3.symm, x4.trans y4.symm, ?_, zf, by omega, ?_⟩
      · rw [x5, y5]
      · rw [y5, zf2]
    · exact absurd x6 y6
    · exact absurd x1 y1
    · exact absurd y0 x0
    · exact absurd y6 x6
    · refine ⟨x2.trans y2.symm, x3.trans y3.symm, x4.trans y4.symm, ?_, zf, by omega, ?_⟩
      · rw [x5, y5]
      · rw [y5, zf2]
  obtain ⟨g1, g2, g3, g4, g5⟩ := hrr
  refine ⟨r, _, _, _, _, ac1, by rw [am1, g1], ?_, ?_, ?_, ?_⟩
  · -- the class's program rows
    have cK : ∀ q, q ≠ 20 + 9 * k → q ≠ 20 + 9 * k + 1 → (sI (wI (sI Ic (20 + 9 * k + 1) 4 (nn 1)) (20 + 9 * k + 1) (nn g) e) (20 + 9 * k) 2 i2) q = Ic q := by
      intro q a1 a2
      rw [sI_ne a1, wI_ne a2, sI_ne a2]
    have cV : ∀ q, q ≠ 20 + 9 * k → q ≠ 20 + 9 * k + 1 + 6 → q ≠ 20 + 9 * k + 1 + 7 → (sJ (sJ (sJ (sJ J1 (20 + 9 * k) 3 (if e = nn 0 then v else 0)) (20 + 9 * k) 6 (Int32.toInt64 (nn g))) (20 + 9 * k) 4 h4) (20 + 9 * k) 5 f5) q = Jc q := by
      intro q a1 a2 a3
      rw [sJ_ne a1, sJ_ne a1, sJ_ne a1, sJ_ne a1]
      exact wc2 q a2 a3
    have od : ∀ q n a b m, Od (20 + 9 * k + 1) (sI (wI (sI Ic (20 + 9 * k + 1) 4 (nn 1)) (20 + 9 * k + 1) (nn g) e) (20 + 9 * k) 2 i2) (sJ (sJ (sJ (sJ J1 (20 + 9 * k) 3 (if e = nn 0 then v else 0)) (20 + 9 * k) 6 (Int32.toInt64 (nn g))) (20 + 9 * k) 4 h4) (20 + 9 * k) 5 f5) (sI (sI (sI I2 97 k (nn 1)) 100 k i2') 101 k f5') (sJ J7 104 k h4') q n a b m = Od (20 + 9 * k + 1) Ic Jc Im Jm q n a b m := by
      intro q n a b m
      unfold Od
      rw [cK _ (by omega) (by omega), cK _ (by omega) (by omega), cK _ (by omega) (by omega), cV _ (by omega) (by omega) (by omega), rI 105 (by omega) (by omega) (by omega) (by omega) (by omega) (by omega), rI 106 (by omega) (by omega) (by omega) (by omega) (by omega) (by omega), sJ_ne (by omega), jJ 107 (by omega) (by omega) (by omega) (by omega) (by omega) (by omega)]
    have w4 : (sI (wI (sI Ic (20 + 9 * k + 1) 4 (nn 1)) (20 + 9 * k + 1) (nn g) e) (20 + 9 * k) 2 i2) (20 + 9 * k + 1) 4 = nn 1 := by
      rw [sI_ne (by omega), wI_4, sI_eq]
    refine ⟨?_, ?_, ?_, ?_, ?_, ?_, ?_, ?_, Or.inr w4, sz, mn, ⟨?_, p2, p3, ?_, p5, ⟨q0, m0, by rw [od]; exact p6⟩, fun n hn => ?_⟩, ?_⟩
    · rw [sI_eq, sI_ne (by omega), sI_eq, g2]
    · rw [sJ_nk (by omega), sJ_nk (by omega), sJ_nk (by omega), sJ_eq, sJ_ne (by omega), j103, if_pos rfl]
    · rw [sJ_nk (by omega), sJ_eq, sJ_eq, g3]
    · rw [sJ_eq, sI_eq, g4]
    · rw [sJ_nk (by omega), sJ_nk (by omega), sJ_eq, sI_ne (by omega), sI_ne (by omega), r102, if_pos rfl]
    · rw [cK _ (by omega) (by omega), rI 99 (by omega) (by omega) (by omega) (by omega) (by omega) (by omega)]; exact l6
    · rw [sI_eq]; exact g5
    · rw [w4, sI_ne (by omega), sI_ne (by omega), sI_eq]
    · rw [cK _ (by omega) (by omega)]; exact p1
    · rw [rI 98 (by omega) (by omega) (by omega) (by omega) (by omega) (by omega)]; exact p4
    · obtain ⟨q, a, b, m, x1, x2, x3⟩ := p7 n hn
      exact ⟨q, a, b, m, x1, x2, by rw [od]; exact x3⟩
    · intro _ q n a b m κ hO hn ha hb hκ hK hT
      rw [od] at hO
      have hab := opd_lt hO
      rw [cK _ (by omega) (by omega)] at hK
      rw [rI 105 (by omega) (by omega) (by omega) (by omega) (by omega) (by omega)] at hT
      obtain ⟨q', c, a', b', m', o1, o2, o3, o4, o5, o6, o7, o8, o9⟩ := opd_old q n a b m κ hO hκ hK
      obtain ⟨rfl, rfl⟩ := o9 hT
      have h89 : Ic (20 + 9 * k + 1 + 1 + 1) n = nn 8 ∨ Ic (20 + 9 * k + 1 + 1 + 1) n = nn 9 := by
        rcases hκ with rfl | rfl
        · exact Or.inl hK
        · exact Or.inr hK
      obtain ⟨J3, c3, v3, e3, g3', u1, u2, u2', u3, u4⟩ := wc3 n hn h89
      have ec : c3 = c := by
        have u5 := o3.symm.trans u2
        rw [nn_eq (by omega) (by omega)] at u5
        exact u5.symm
      subst ec
      obtain ⟨i, hi⟩ : ∃ i, a' = 120 * k + i := ⟨a' - 120 * k, by omega⟩
      subst hi
      have h89' : (sI Ir 102 k (nn g)) 105 (120 * k + i) = nn 8 ∨ (sI Ir 102 k (nn g)) 105 (120 * k + i) = nn 9 := by
        rw [ag6.2.2.2.1]
        rcases hκ with rfl | rfl
        · exact Or.inl hT
        · exact Or.inr hT
      obtain ⟨b2, t1, t2, I1, J1', n1, v1, e1, g1', s1, s2, s3, s4⟩ := rm4 i (by omega) (by omega) h89'
      rw [ag6.2.2.2.2.1] at t1
      have eb : b2 = b' - 1 := by
        have u5 := t1.symm.trans o6
        rw [nn_eq (by omega) (by omega)] at u5
        exact u5
      subst eb
      obtain ⟨v5, e5, g5', z1, z2, z3⟩ := hsa u1 (age_tr ag6 (age_n s1)) o8 (by omega) (by omega) (by omega)
      obtain ⟨d1, d2⟩ := cr_det (by omega) u3 z1
      have d3 := mr_det s2 (by omega) (by omega) s3 z2
      rw [sJ_ne (by omega), sJ_ne (by omega), sJ_ne (by omega), sJ_ne (by omega), sJ_ne (by omega), cp4 i (by omega) (by omega), u4, s4, d3, d1, d2]
  · refine ⟨fun q hq => ⟨?_, ?_⟩, ?_⟩
    · rw [sI_ne (by omega), wI_ne (by omega), sI_ne (by omega)]
    · rw [sJ_ne (by omega), sJ_ne (by omega), sJ_ne (by omega), sJ_ne (by omega)]
      exact wc2 q (by omega) (by omega)
    · rw [sI_nk (by omega), wI_ne (by omega), sI_ne (by omega)]
  · refine ⟨rI, fun j hj => ?_, fun i hi => ⟨?_, ?_, ?_, ?_⟩, fun q a1 a2 a3 a4 a5 a6 => ?_, fun j a1 a2 => ?_, fun i hi => ⟨?_, ?_⟩, fun i hi => ?_⟩
    · rw [sI_ne (by omega), sI_ne (by omega), sI_ne (by omega), rm2.2.1 j (by omega), sI_ne (by omega), wm2.2.1 j (by omega), sI_nk (by omega)]
    · rw [sI_ne (by omega), sI_ne (by omega), sI_nk hi, r97]
    · rw [sI_ne (by omega), sI_nk hi, r100]
    · rw [sI_nk hi, sI_ne (by omega), r101]
    · rw [sI_ne (by omega), sI_ne (by omega), r102, if_neg hi]
    · rw [sJ_ne a3, jJ q a1 a2 a3 a4 a5 a6]
    · rw [sJ_ne (by omega), j92 j a1 a2]
    · rw [sJ_ne (by omega), j103, if_neg hi]
    · rw [sJ_nk hi, j104]
    · rw [sJ_ne (by omega), cp3 i (by omega), j108]
  · rw [sJ_ne (by omega), j9220, sJ_nk (by omega), sJ_nk (by omega), sJ_eq]
