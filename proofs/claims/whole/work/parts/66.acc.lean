/-! Cells: bytes, halves, words. -/
def av (c : Nat → Int32) (z w : Nat) : Int64 := if z = 4 then Int32.toInt64 (((c w ||| c (w + 1) <<< (nn 8 &&& nn 31)) ||| c (w + 2) <<< (nn 16 &&& nn 31)) ||| c (w + 3) <<< (nn 24 &&& nn 31)) else if z = 2 then Int32.toInt64 (((c w ||| c (w + 1) <<< (nn 8 &&& nn 31)) <<< (nn 16 &&& nn 31)) >>> (nn 16 &&& nn 31)) else Int32.toInt64 (c w)
theorem by_8 : ∀ c : Fin 256, Int64.toInt32 (Int32.toInt64 (nn c.val) <<< (Int32.toInt64 (nn 8) &&& 63)) = nn c.val <<< (nn 8 &&& nn 31) := by decide +kernel
theorem by_16 : ∀ c : Fin 256, Int64.toInt32 (Int32.toInt64 (nn c.val) <<< (Int32.toInt64 (nn 16) &&& 63)) = nn c.val <<< (nn 16 &&& nn 31) := by decide +kernel
theorem by_24 : ∀ c : Fin 256, Int64.toInt32 (Int32.toInt64 (nn c.val) <<< (Int32.toInt64 (nn 24) &&& 63)) = nn c.val <<< (nn 24 &&& nn 31) := by decide +kernel
theorem by_0 : ∀ c : Fin 256, nn c.val <<< (nn 0 &&& nn 31) = nn c.val := by decide +kernel
theorem by_h0 : ∀ c : Fin 256, (nn c.val).toInt16.toInt32 = (nn c.val <<< (nn 16 &&& nn 31)) >>> (nn 16 &&& nn 31) := by decide +kernel
theorem by_h8 : ∀ c : Fin 256, (nn c.val <<< (nn 8 &&& nn 31)).toInt16.toInt32 = ((nn c.val <<< (nn 8 &&& nn 31)) <<< (nn 16 &&& nn 31)) >>> (nn 16 &&& nn 31) := by decide +kernel
theorem al_c1 : ∀ w : Fin 256, ((Int64.ofNat w.val &&& Int32.toInt64 (nn 0)) = 0 ↔ w.val % 1 = 0) := by decide +kernel
theorem al_c2 : ∀ w : Fin 256, ((Int64.ofNat w.val &&& Int32.toInt64 (nn 1)) = 0 ↔ w.val % 2 = 0) := by decide +kernel
theorem al_c4 : ∀ w : Fin 256, ((Int64.ofNat w.val &&& Int32.toInt64 (nn 3)) = 0 ↔ w.val % 4 = 0) := by decide +kernel
theorem al_m1 : ∀ w : Fin 256, ((Int64.ofNat w.val - Int64.ofNat w.val / Int32.toInt64 (nn 1) * Int32.toInt64 (nn 1)) = 0 ↔ w.val % 1 = 0) := by decide +kernel
theorem al_m2 : ∀ w : Fin 256, ((Int64.ofNat w.val - Int64.ofNat w.val / Int32.toInt64 (nn 2) * Int32.toInt64 (nn 2)) = 0 ↔ w.val % 2 = 0) := by decide +kernel
theorem al_m4 : ∀ w : Fin 256, ((Int64.ofNat w.val - Int64.ofNat w.val / Int32.toInt64 (nn 4) * Int32.toInt64 (nn 4)) = 0 ↔ w.val % 4 = 0) := by decide +kernel
theorem ad_lo {w : Nat} (h : w < 2147483648) : (Int64.ofNat w < 0) = False := by
  refine eq_false ?_
  rw [Int64.lt_iff_toInt_lt, Int64.toInt_ofNat_of_lt (by omega)]
  show ¬ ((w : Int) < 0)
  omega
theorem ad_hi {w : Nat} (h : w < 256) : (256 ≤ Int64.ofNat w) = False := by
  refine eq_false ?_
  rw [Int64.le_iff_toInt_le, Int64.toInt_ofNat_of_lt (by omega)]
  show ¬ ((256 : Int) ≤ w)
  omega
theorem ad_hj {w : Nat} (h : w < 256) : (255 < Int64.ofNat w) = False := by
  refine eq_false ?_
  rw [Int64.lt_iff_toInt_lt, Int64.toInt_ofNat_of_lt (by omega)]
  show ¬ ((255 : Int) < w)
  omega
theorem ad_cases (v : Int64) : v < 0 ∨ (¬ v < 0 ∧ 256 ≤ v ∧ 255 < v) ∨ ∃ w, w < 256 ∧ v = Int64.ofNat w := by
  by_cases h : v < 0
  · exact Or.inl h
  · by_cases h2 : 256 ≤ v
    · refine Or.inr (Or.inl ⟨h, h2, ?_⟩)
      rw [Int64.le_iff_toInt_le] at h2
      rw [Int64.lt_iff_toInt_lt]
      have e1 : (256 : Int64).toInt = 256 := rfl
      have e2 : (255 : Int64).toInt = 255 := rfl
      omega
    · refine Or.inr (Or.inr ⟨v.toInt.toNat, ?_, ?_⟩)
      · rw [Int64.le_iff_toInt_le] at h2
        have e1 : (256 : Int64).toInt = 256 := rfl
        omega
      · rw [Int64.le_iff_toInt_le] at h2
        rw [Int64.lt_iff_toInt_lt] at h
        have e1 : (256 : Int64).toInt = 256 := rfl
        have e0 : (0 : Int64).toInt = 0 := rfl
        rw [← Int64.toInt_inj, Int64.toInt_ofNat_of_lt (by omega)]
        omega
def Zk (k z : Nat) : Prop := (k = 6 ∧ z = 1) ∨ (k = 7 ∧ z = 2) ∨ (k = 34 ∧ z = 4)
theorem m24_f {p : Nat} {kk : Int32} {v : Int64} {I : dI} {J : dJ} {x e : Int32} (he : e ≠ nn 0) : m_24 p kk v (wI I p x e) J = some (0, wI I p x e, J) := by
  simp only [m_24, b_24_0, wI_6, nn_l, he, ↓reduceIte]
theorem m24_bad {p k z : Nat} {v : Int64} {I : dI} {J : dJ} {x : Int32} (hk : Zk k z) (hv : ¬ ∃ w, w < 256 ∧ v = Int64.ofNat w ∧ w % z = 0) : m_24 p (nn k) v (wI I p x (nn 0)) J = some (0, wI I p x (nn 2), J) := by
  rcases ad_cases v with h | ⟨h, h2, _⟩ | ⟨w, hw, rfl⟩
  · rcases hk with ⟨rfl, rfl⟩ | ⟨rfl, rfl⟩ | ⟨rfl, rfl⟩ <;> simp (disch := omega) only [m_24, b_24_0, b_24_30, b_24_58, wI_6, wI_s6, lg_lt0, h, ↓reduceIte, nn_l, nn_o, nn_lt, nn_le, nn_eq, nn_cl, nn_add, nn_sub, if_pos, if_neg, lt_, Option.bind_some, ↓reduceIte, not_true_eq_false, not_false_eq_true, Nat.add_sub_cancel, Nat.add_zero, Nat.reduceSub, Nat.reduceAdd, Nat.reduceMul, Nat.reduceEqDiff, Nat.reduceLT, Nat.reduceLeDiff, or_false, false_or, Nat.not_lt_zero]
  · rcases hk with ⟨rfl, rfl⟩ | ⟨rfl, rfl⟩ | ⟨rfl, rfl⟩ <;> simp (disch := omega) only [m_24, b_24_0, b_24_30, b_24_58, wI_6, wI_s6, lg_lt0, lg_ge0, h, h2, ↓reduceIte, nn_l, nn_o, nn_lt, nn_le, nn_eq, nn_cl, nn_add, nn_sub, if_pos, if_neg, lt_, Option.bind_some, ↓reduceIte, not_true_eq_false, not_false_eq_true, Nat.add_sub_cancel, Nat.add_zero, Nat.reduceSub, Nat.reduceAdd, Nat.reduceMul, Nat.reduceEqDiff, Nat.reduceLT, Nat.reduceLeDiff, or_false, false_or, Nat.not_lt_zero]
  · have hm : ¬ w % z = 0 := fun q => hv ⟨w, hw, rfl, q⟩
    rcases hk with ⟨rfl, rfl⟩ | ⟨rfl, rfl⟩ | ⟨rfl, rfl⟩
    · have q3 : ¬ (Int64.ofNat w &&& Int32.toInt64 (nn 0)) = 0 := fun q => hm ((al_c1 ⟨w, hw⟩).mp q)
      simp (disch := omega) only [m_24, b_24_0, b_24_30, b_24_58, wI_6, wI_s6, lg_lt0, lg_ge0, lg_eq0, ad_lo, ad_hi, q3, ↓reduceIte, nn_l, nn_o, nn_lt, nn_le, nn_eq, nn_cl, nn_add, nn_sub, if_pos, if_neg, lt_, Option.bind_some, ↓reduceIte, not_true_eq_false, not_false_eq_true, Nat.add_sub_cancel, Nat.add_zero, Nat.reduceSub, Nat.reduceAdd, Nat.reduceMul, Nat.reduceEqDiff, Nat.reduceLT, Nat.reduceLeDiff, or_false, false_or, Nat.not_lt_zero]
    · have q3 : ¬ (Int64.ofNat w &&& Int32.toInt64 (nn 1)) = 0 := fun q => hm ((al_c2 ⟨w, hw⟩).mp q)
      simp (disch := omega) only [m_24, b_24_0, b_24_30, b_24_58, wI_6, wI_s6, lg_lt0, lg_ge0, lg_eq0, ad_lo, ad_hi, q3, ↓reduceIte, nn_l, nn_o, nn_lt, nn_le, nn_eq, nn_cl, nn_add, nn_sub, if_pos, if_neg, lt_, Option.bind_some, ↓reduceIte, not_true_eq_false, not_false_eq_true, Nat.add_sub_cancel, Nat.add_zero, Nat.reduceSub, Nat.reduceAdd, Nat.reduceMul, Nat.reduceEqDiff, Nat.reduceLT, Nat.reduceLeDiff, or_false, false_or, Nat.not_lt_zero]
    · have q3 : ¬ (Int64.ofNat w &&& Int32.toInt64 (nn 3)) = 0 := fun q => hm ((al_c4 ⟨w, hw⟩).mp q)
      simp (disch := omega) only [m_24, b_24_0, b_24_30, b_24_58, wI_6, wI_s6, lg_lt0, lg_ge0, lg_eq0, ad_lo, ad_hi, q3, ↓reduceIte, nn_l, nn_o, nn_lt, nn_le, nn_eq, nn_cl, nn_add, nn_sub, if_pos, if_neg, lt_, Option.bind_some, ↓reduceIte, not_true_eq_false, not_false_eq_true, Nat.add_sub_cancel, Nat.add_zero, Nat.reduceSub, Nat.reduceAdd, Nat.reduceMul, Nat.reduceEqDiff, Nat.reduceLT, Nat.reduceLeDiff, or_false, false_or, Nat.not_lt_zero]
theorem m24_ok {p k z w : Nat} {I : dI} {J : dJ} {x : Int32} (hk : Zk k z) (hw : w < 256) (hm : w % z = 0) (hp : 5 < p) (hc : ∀ j, j < 256 → ∃ b, b < 256 ∧ I 5 j = nn b) : m_24 p (nn k) (Int64.ofNat w) (wI I p x (nn 0)) J = some (av (I 5) z w, wI I p x (nn 0), J) := by
  rcases hk with ⟨rfl, rfl⟩ | ⟨rfl, rfl⟩ | ⟨rfl, rfl⟩
  · have q3 : (Int64.ofNat w &&& Int32.toInt64 (nn 0)) = 0 := (al_c1 ⟨w, hw⟩).mpr hm
    simp (disch := omega) only [m_24, b_24_0, b_24_30, m_25, b_25_0, wI_6, wI_ne, lg_lt0, lg_ge0, lg_eq0, ad_lo, ad_hi, nn_int, q3, av, not_true_eq_false, ↓reduceIte, nn_l, nn_o, nn_lt, nn_le, nn_eq, nn_cl, nn_add, nn_sub, if_pos, if_neg, lt_, Option.bind_some, ↓reduceIte, not_true_eq_false, not_false_eq_true, Nat.add_sub_cancel, Nat.add_zero, Nat.reduceSub, Nat.reduceAdd, Nat.reduceMul, Nat.reduceEqDiff, Nat.reduceLT, Nat.reduceLeDiff, or_false, false_or, Nat.not_lt_zero]
  · have q3 : (Int64.ofNat w &&& Int32.toInt64 (nn 1)) = 0 := (al_c2 ⟨w, hw⟩).mpr hm
    obtain ⟨c0, d0, e0⟩ := hc w (by omega)
    obtain ⟨c1, d1, e1⟩ := hc (w + 1) (by omega)
    have s1 := by_8 ⟨c1, d1⟩
    have s2 := by_h0 ⟨c0, d0⟩
    have s3 := by_h8 ⟨c1, d1⟩
    simp only at s1 s2 s3
    simp (disch := omega) only [m_24, b_24_0, b_24_30, m_25, b_25_0, m_26, b_26_0, wI_6, wI_ne, lg_lt0, lg_ge0, lg_eq0, ad_lo, ad_hi, nn_int, q3, av, e0, e1, Int64.toInt32_or, Int32.toInt32_toInt64, Int32.toInt16_or, Int16.toInt32_or, s1, s2, s3, Int32.shiftLeft_or, Int32.shiftRight_or, not_true_eq_false, not_false_eq_true, ↓reduceIte, nn_l, nn_o, nn_lt, nn_le, nn_eq, nn_cl, nn_add, nn_sub, if_pos, if_neg, lt_, Option.bind_some, ↓reduceIte, not_true_eq_false, not_false_eq_true, Nat.add_sub_cancel, Nat.add_zero, Nat.reduceSub, Nat.reduceAdd, Nat.reduceMul, Nat.reduceEqDiff, Nat.reduceLT, Nat.reduceLeDiff, or_false, false_or, Nat.not_lt_zero]
  · have q3 : (Int64.ofNat w &&& Int32.toInt64 (nn 3)) = 0 := (al_c4 ⟨w, hw⟩).mpr hm
    obtain ⟨c0, d0, e0⟩ := hc w (by omega)
    obtain ⟨c1, d1, e1⟩ := hc (w + 1) (by omega)
    obtain ⟨c2, d2, e2⟩ := hc (w + 2) (by omega)
    obtain ⟨c3, d3, e3⟩ := hc (w + 3) (by omega)
    have s1 := by_8 ⟨c1, d1⟩
    have s2 := by_16 ⟨c2, d2⟩
    have s3 := by_24 ⟨c3, d3⟩
    simp only at s1 s2 s3
    simp (disch := omega) only [m_24, b_24_0, b_24_30, m_25, b_25_0, m_27, b_27_0, wI_6, wI_ne, lg_lt0, lg_ge0, lg_eq0, ad_lo, ad_hi, nn_int, q3, av, e0, e1, e2, e3, Int64.toInt32_or, Int32.toInt32_toInt64, s1, s2, s3, not_true_eq_false, not_false_eq_true, ↓reduceIte, nn_l, nn_o, nn_lt, nn_le, nn_eq, nn_cl, nn_add, nn_sub, if_pos, if_neg, lt_, Option.bind_some, ↓reduceIte, not_true_eq_false, not_false_eq_true, Nat.add_sub_cancel, Nat.add_zero, Nat.reduceSub, Nat.reduceAdd, Nat.reduceMul, Nat.reduceEqDiff, Nat.reduceLT, Nat.reduceLeDiff, or_false, false_or, Nat.not_lt_zero]
def Zt (t z : Nat) : Prop := (t = 6 ∧ z = 1) ∨ (t = 7 ∧ z = 2) ∨ (t = 32 ∧ z = 4)
theorem m129_bad {t z : Nat} {v : Int64} {I : dI} {J : dJ} (hk : Zt t z) (hv : ¬ ∃ w, w < 256 ∧ v = Int64.ofNat w ∧ w % z = 0) : m_129 (nn t) v I J = some (sI (sI I 92 34 (nn 2)) 92 32 (nn 0), sJ J 92 35 0) := by
  have z1 : ¬ Int32.toInt64 (nn 1) = 0 := by decide
  have z2 : ¬ Int32.toInt64 (nn 2) = 0 := by decide
  have z4 : ¬ Int32.toInt64 (nn 4) = 0 := by decide
  rcases ad_cases v with h | ⟨h, _, h2⟩ | ⟨w, hw, rfl⟩
  · rcases hk with ⟨rfl, rfl⟩ | ⟨rfl, rfl⟩ | ⟨rfl, rfl⟩ <;> simp (disch := omega) only [m_129, b_129_0, b_129_21, b_129_44, m_130, b_130_0, m_98, b_98_0, lg_lt0, h, ↓reduceIte, nn_l, nn_o, nn_lt, nn_le, nn_eq, nn_cl, nn_add, nn_sub, if_pos, if_neg, lt_, Option.bind_some, ↓reduceIte, not_true_eq_false, not_false_eq_true, Nat.add_sub_cancel, Nat.add_zero, Nat.reduceSub, Nat.reduceAdd, Nat.reduceMul, Nat.reduceEqDiff, Nat.reduceLT, Nat.reduceLeDiff, or_false, false_or, Nat.not_lt_zero]
  · rcases hk with ⟨rfl, rfl⟩ | ⟨rfl, rfl⟩ | ⟨rfl, rfl⟩ <;> simp (disch := omega) only [m_129, b_129_0, b_129_21, b_129_44, m_130, b_130_0, m_98, b_98_0, lg_lt0, lg_gt0, h, h2, ↓reduceIte, nn_l, nn_o, nn_lt, nn_le, nn_eq, nn_cl, nn_add, nn_sub, if_pos, if_neg, lt_, Option.bind_some, ↓reduceIte, not_true_eq_false, not_false_eq_true, Nat.add_sub_cancel, Nat.add_zero, Nat.reduceSub, Nat.reduceAdd, Nat.reduceMul, Nat.reduceEqDiff, Nat.reduceLT, Nat.reduceLeDiff, or_false, false_or, Nat.not_lt_zero]
  · have hm : ¬ w % z = 0 := fun q => hv ⟨w, hw, rfl, q⟩
    rcases hk with ⟨rfl, rfl⟩ | ⟨rfl, rfl⟩ | ⟨rfl, rfl⟩
    · have q3 := fun q => hm ((al_m1 ⟨w, hw⟩).mp q)
      simp (disch := omega) only [m_129, b_129_0, b_129_21, b_129_44, m_130, b_130_0, m_98, b_98_0, lg_lt0, lg_gt0, lg_eq0, ad_lo, ad_hj, z1, q3, not_false_eq_true, ↓reduceIte, nn_l, nn_o, nn_lt, nn_le, nn_eq, nn_cl, nn_add, nn_sub, if_pos, if_neg, lt_, Option.bind_some, ↓reduceIte, not_true_eq_false, not_false_eq_true, Nat.add_sub_cancel, Nat.add_zero, Nat.reduceSub, Nat.reduceAdd, Nat.reduceMul, Nat.reduceEqDiff, Nat.reduceLT, Nat.reduceLeDiff, or_false, false_or, Nat.not_lt_zero]
    · have q3 := fun q => hm ((al_m2 ⟨w, hw⟩).mp q)
      simp (disch := omega) only [m_129, b_129_0, b_129_21, b_129_44, m_130, b_130_0, m_98, b_98_0, lg_lt0, lg_gt0, lg_eq0, ad_lo, ad_hj, z2, q3, not_false_eq_true, ↓reduceIte, nn_l, nn_o, nn_lt, nn_le, nn_eq, nn_cl, nn_add, nn_sub, if_pos, if_neg, lt_, Option.bind_some, ↓reduceIte, not_true_eq_false, not_false_eq_true, Nat.add_sub_cancel, Nat.add_zero, Nat.reduceSub, Nat.reduceAdd, Nat.reduceMul, Nat.reduceEqDiff, Nat.reduceLT, Nat.reduceLeDiff, or_false, false_or, Nat.not_lt_zero]
    · have q3 := fun q => hm ((al_m4 ⟨w, hw⟩).mp q)
      simp (disch := omega) only [m_129, b_129_0, b_129_21, b_129_44, m_130, b_130_0, m_98, b_98_0, lg_lt0, lg_gt0, lg_eq0, ad_lo, ad_hj, z4, q3, not_false_eq_true, ↓reduceIte, nn_l, nn_o, nn_lt, nn_le, nn_eq, nn_cl, nn_add, nn_sub, if_pos, if_neg, lt_, Option.bind_some, ↓reduceIte, not_true_eq_false, not_false_eq_true, Nat.add_sub_cancel, Nat.add_zero, Nat.reduceSub, Nat.reduceAdd, Nat.reduceMul, Nat.reduceEqDiff, Nat.reduceLT, Nat.reduceLeDiff, or_false, false_or, Nat.not_lt_zero]
theorem nn_zor (x : Int32) : nn 0 ||| x = x := Int32.zero_or
theorem m129_ok {t z w f : Nat} {I : dI} {J : dJ} (hk : Zt t z) (hw : w < 256) (hm : w % z = 0) (hf : I 92 32 = nn (f + 1)) (hc : ∀ j, j < 256 → ∃ b, b < 256 ∧ I 95 j = nn b) : m_129 (nn t) (Int64.ofNat w) I J = some (sI I 92 32 (nn f), sJ J 92 35 (av (I 95) z w)) := by
  have z1 : ¬ Int32.toInt64 (nn 1) = 0 := by decide
  have z2 : ¬ Int32.toInt64 (nn 2) = 0 := by decide
  have z4 : ¬ Int32.toInt64 (nn 4) = 0 := by decide
  obtain ⟨F, hF⟩ : ∃ F, FU = F + 1 + 1 + 1 + 1 + 1 := ⟨4995, rfl⟩
  obtain ⟨c0, d0, e0⟩ := hc w (by omega)
  have s0 := by_0 ⟨c0, d0⟩
  simp only at s0
  rcases hk with ⟨rfl, rfl⟩ | ⟨rfl, rfl⟩ | ⟨rfl, rfl⟩
  · have q3 := (al_m1 ⟨w, hw⟩).mpr hm
    simp only at q3
    simp (disch := omega) only [m_129, b_129_0, b_129_21, b_129_56, b_129_112, m_125, b_125_0, m_98, b_98_0, lg_lt0, lg_gt0, lg_eq0, ad_lo, ad_hj, z1, q3, hF, nn_int, nn_mul, e0, s0, nn_zor, hf, av, not_true_eq_false, not_false_eq_true, ↓reduceIte, nn_l, nn_o, nn_lt, nn_le, nn_eq, nn_cl, nn_add, nn_sub, if_pos, if_neg, lt_, Option.bind_some, ↓reduceIte, not_true_eq_false, not_false_eq_true, Nat.add_sub_cancel, Nat.add_zero, Nat.reduceSub, Nat.reduceAdd, Nat.reduceMul, Nat.reduceEqDiff, Nat.reduceLT, Nat.reduceLeDiff, or_false, false_or, Nat.not_lt_zero]
  · have q3 := (al_m2 ⟨w, hw⟩).mpr hm
    simp only at q3
    simp (disch := omega) only [m_129, b_129_0, b_129_21, b_129_56, b_129_112, m_125, b_125_0, m_98, b_98_0, lg_lt0, lg_gt0, lg_eq0, ad_lo, ad_hj, z2, q3, hF, nn_int, nn_mul, e0, s0, nn_zor, hf, av, not_true_eq_false, not_false_eq_true, ↓reduceIte, nn_l, nn_o, nn_lt, nn_le, nn_eq, nn_cl, nn_add, nn_sub, if_pos, if_neg, lt_, Option.bind_some, ↓reduceIte, not_true_eq_false, not_false_eq_true, Nat.add_sub_cancel, Nat.add_zero, Nat.reduceSub, Nat.reduceAdd, Nat.reduceMul, Nat.reduceEqDiff, Nat.reduceLT, Nat.reduceLeDiff, or_false, false_or, Nat.not_lt_zero]
  · have q3 := (al_m4 ⟨w, hw⟩).mpr hm
    simp only at q3
    simp (disch := omega) only [m_129, b_129_0, b_129_21, b_129_56, b_129_112, m_125, b_125_0, m_98, b_98_0, lg_lt0, lg_gt0, lg_eq0, ad_lo, ad_hj, z4, q3, hF, nn_int, nn_mul, e0, s0, nn_zor, hf, av, not_true_eq_false, not_false_eq_true, ↓reduceIte, nn_l, nn_o, nn_lt, nn_le, nn_eq, nn_cl, nn_add, nn_sub, if_pos, if_neg, lt_, Option.bind_some, ↓reduceIte, not_true_eq_false, not_false_eq_true, Nat.add_sub_cancel, Nat.add_zero, Nat.reduceSub, Nat.reduceAdd, Nat.reduceMul, Nat.reduceEqDiff, Nat.reduceLT, Nat.reduceLeDiff, or_false, false_or, Nat.not_lt_zero]
