/-! What stands of a condition where nothing of it changes; the new program. -/
theorem od_fr {p k q n a b m : Nat} {Ic Im Ic' Im' : dI} {Jc Jm Jc' Jm' : dJ} (hK : ∀ x, x = p + 1 + 1 ∨ x = p + 1 + 2 ∨ x = p + 1 + 3 → Ic' x = Ic x) (hV : Jc' (p + 1 + 4) = Jc (p + 1 + 4)) (ht : ∀ i, a ≤ i → i < b → Im' 105 i = Im 105 i ∧ Im' 106 i = Im 106 i ∧ Jm' 107 i = Jm 107 i) (h : Od p Ic Jc Im Jm q n a b m) : Od p Ic' Jc' Im' Jm' q n a b m := by
  have hm := opd_move (K' := Ic' (p + 1 + 1)) (L' := Ic' (p + 1 + 2)) (R' := Ic' (p + 1 + 3)) (V' := Jc' (p + 1 + 4)) (tk' := Im' 105) (tp' := Im' 106) (tn' := Jm' 107) 0 q n a b m (fun i _ => by rw [hK _ (Or.inl rfl), hK _ (Or.inr (Or.inl rfl)), hK _ (Or.inr (Or.inr rfl)), hV]; exact ⟨rfl, rfl, rfl, rfl⟩) (fun i u v => by
    obtain ⟨x1, x2, x3⟩ := ht i u v
    rw [Nat.zero_add, x1, x2, x3]
    exact ⟨rfl, (Int32.zero_add _).symm, rfl⟩) h
  rw [Nat.zero_add, Nat.zero_add] at hm
  exact hm
theorem live_fr {N N' k : Nat} {Ic Im Ic' Im' : dI} {Jc Jm Jc' Jm' : dJ} (hN : N ≤ N') (hc : ∀ q, 20 + 9 * k ≤ q → q < 29 + 9 * k → Ic' q = Ic q ∧ Jc' q = Jc q) (hm : ∀ q, 97 ≤ q → q ≤ 102 → Im' q k = Im q k) (hj : Jm' 103 k = Jm 103 k ∧ Jm' 104 k = Jm 104 k) (ht : ∀ i, 120 * k ≤ i → i < 120 * k + 120 → Im' 105 i = Im 105 i ∧ Im' 106 i = Im 106 i ∧ Jm' 107 i = Jm 107 i ∧ Jm' 108 i = Jm 108 i) (h : Live N k Ic Jc Im Jm) : Live N' k Ic' Jc' Im' Jm' := by
  obtain ⟨l1, l2, l3, l4, l5, l6, ⟨zf, zf1, zf2⟩, l8, l9, sz, mn, ⟨p1, p2, p3, p4, p5, ⟨q0, m0, p6⟩, p7⟩, hR⟩ := h
  have c0 := hc (20 + 9 * k) (by omega) (by omega)
  have c1 := hc (20 + 9 * k + 1) (by omega) (by omega)
  have c2 := hc (20 + 9 * k + 1 + 1) (by omega) (by omega)
  have c7 := hc (20 + 9 * k + 1 + 6) (by omega) (by omega)
  have hK : ∀ x, x = 20 + 9 * k + 1 + 1 + 1 ∨ x = 20 + 9 * k + 1 + 1 + 2 ∨ x = 20 + 9 * k + 1 + 1 + 3 → Ic' x = Ic x := fun x hx => (hc x (by omega) (by omega)).1
  have hV := (hc (20 + 9 * k + 1 + 1 + 4) (by omega) (by omega)).2
  refine ⟨?_, ?_, ?_, ?_, ?_, ?_, ⟨zf, by omega, ?_⟩, ?_, ?_, sz, mn, ⟨?_, p2, p3, ?_, p5, ⟨q0, m0, ?_⟩, fun n hn => ?_⟩, fun hw q n a b m κ hO hn ha hb hκ hk1 hk2 => ?_⟩
  · rw [c0.1, hm 100 (by omega) (by omega)]; exact l1
  · rw [c0.2, hj.1]; exact l2
  · rw [c0.2, hj.2]; exact l3
  · rw [c0.2, hm 101 (by omega) (by omega)]; exact l4
  · rw [c0.2, hm 102 (by omega) (by omega)]; exact l5
  · rw [c2.1, hm 99 (by omega) (by omega)]; exact l6
  · rw [hm 101 (by omega) (by omega)]; exact zf2
  · rw [c1.1, hm 97 (by omega) (by omega)]; exact l8
  · rw [c1.1]; exact l9
  · rw [c2.1]; exact p1
  · rw [hm 98 (by omega) (by omega)]; exact p4
  · exact od_fr (k := k) hK hV (fun i u v => by obtain ⟨x1, x2, x3, _⟩ := ht i (by omega) (by omega); exact ⟨x1, x2, x3⟩) p6
  · obtain ⟨q, a, b, m, x1, x2, x3⟩ := p7 n hn
    exact ⟨q, a, b, m, x1, x2, od_fr (k := k) hK hV (fun i u v => by obtain ⟨y1, y2, y3, _⟩ := ht i (by omega) (by omega); exact ⟨y1, y2, y3⟩) x3⟩
  · have hO' : Od (20 + 9 * k + 1) Ic Jc Im Jm q n a b m := od_fr (k := k) (fun x hx => (hK x hx).symm) hV.symm (fun i u v => by obtain ⟨y1, y2, y3, _⟩ := ht i (by omega) (by omega); exact ⟨y1.symm, y2.symm, y3.symm⟩) hO
    have hab := opd_lt hO'
    obtain ⟨y1, y2, y3, y4⟩ := ht a (by omega) (by omega)
    rw [c7.2, y4]
    rw [c1.1] at hw
    rw [hK _ (Or.inl rfl)] at hk1
    rw [y1] at hk2
    exact hR hw q n a b m κ hO' hn ha hb hκ hk1 hk2
def rsI (I : dI) : dI := sI (sI (sI (sI (sI (sI (sI I 18 2 (nn 0)) 7 4 (nn 0)) 7 5 (nn 0)) 12 1 (nn 0)) 14 1 (nn 0)) 16 1 (nn 0)) 6 6 (nn 0)
theorem rs_eq (I : dI) (J : dJ) : m_42 I J = some (rsI I, J) := by
  simp only [m_42, b_42_0, m_43, b_43_0, m_44, b_44_0, m_45, b_45_0, lt_, Option.bind_some, nn_l, rsI]
def rdI (I : dI) : dI := sI (sI (sI (sI I 92 26 (nn 0)) 92 25 (nn 0)) 92 24 (nn 0)) 92 21 (nn 0)
theorem build_both {s : Nat} {T : Nat → Nat} {Ic Im : dI} {Jc Jm : dJ} (hc : Txc s T Ic) (hm : Txm s T Im) : Rz (m_41 Ic Jc) (m_100 Im Jm) Ic Jc Im Jm := by
  obtain ⟨F, hF, hF2⟩ : ∃ F, FU = F ∧ 2000 < F := ⟨5000, rfl, by decide⟩
  have hs := hc.2.1
  have rc : ∀ q, q < 6 ∨ 18 < q → (rsI Ic) q = Ic q := fun q hq => by
    rw [rsI, sI_ne (by omega), sI_ne (by omega), sI_ne (by omega), sI_ne (by omega), sI_ne (by omega), sI_ne (by omega), sI_ne (by omega)]
  have rm : ∀ q, q ≠ 92 → (rdI Im) q = Im q := fun q hq => by
    rw [rdI, sI_ne hq, sI_ne hq, sI_ne hq, sI_ne hq]
  have rm92 : ∀ j, j ≠ 21 → j ≠ 24 → j ≠ 25 → j ≠ 26 → (rdI Im) 92 j = Im 92 j := fun j a b c d => by
    rw [rdI, sI_nk a, sI_nk b, sI_nk c, sI_nk d]
  have p12 : (rsI Ic) 12 1 = nn 0 := by simp (disch := omega) only [rsI, sI_ne, sI_eq]
  have p14 : (rsI Ic) 14 1 = nn 0 := by simp (disch := omega) only [rsI, sI_ne, sI_eq]
  have p16 : (rsI Ic) 16 1 = nn 0 := by simp (disch := omega) only [rsI, sI_ne, sI_eq]
  have p74 : (rsI Ic) 7 4 = nn 0 := by simp (disch := omega) only [rsI, sI_ne, sI_nk, sI_eq]
  have p75 : (rsI Ic) 7 5 = nn 0 := by simp (disch := omega) only [rsI, sI_ne, sI_nk, sI_eq]
  have p66 : (rsI Ic) 6 6 = nn 0 := sI_eq
  have p18 : (rsI Ic) 18 2 = nn 0 := by simp (disch := omega) only [rsI, sI_ne, sI_nk, sI_eq]
  have m21 : (rdI Im) 92 21 = nn 0 := sI_eq
  have m24 : (rdI Im) 92 24 = nn 0 := by simp (disch := omega) only [rdI, sI_nk, sI_eq]
  have m25 : (rdI Im) 92 25 = nn 0 := by simp (disch := omega) only [rdI, sI_nk, sI_eq]
  have m26 : (rdI Im) 92 26 = nn 0 := by simp (disch := omega) only [rdI, sI_nk, sI_eq]
  have hPI : PI s T 0 0 0 0 0 [] [] [] [] (rsI Ic) Jc (rdI Im) Jm := ⟨txc_row (rc 1 (by omega)) (rc 2 (by omega)) hc, txm_row (rm92 1 (by omega) (by omega) (by omega) (by omega)) (rm 93 (by omega)) hm, p18, m21, by omega, by omega, by omega, by omega, ⟨⟨p12, True.intro⟩, ⟨p14, True.intro⟩, p74, Nat.le_refl 0, Nat.le_refl 0, fun x hx => (by cases hx), fun i hi => by omega, Or.inl ⟨rfl, 0, rfl, rfl, rfl, rfl⟩⟩, ⟨p75, p66, p16, True.intro⟩, True.intro, Nat.zero_le 8, fun x hx => (by cases hx), m24, m25, True.intro, m26⟩
  obtain ⟨G, x1, x2, x3, x4, nr, z1, z2, z3, z4, z5, z6, z7, z8⟩ := parse_all (s + 1) s 0 F F 0 0 0 0 0 [] [] [] [] (rsI Ic) Jc (rdI Im) Jm (by omega) (by omega) (by omega) (by omega) (by omega) hPI
  refine ⟨G, x1, x2, x3, x4, nr, ?_, ?_, bf2_tr ⟨fun q hq => rc q hq, fun q _ _ => rfl⟩ z3, mf2_tr ⟨fun q a _ _ _ => rm q a, fun j a => rm92 j (by omega) (by omega) (by omega) (by omega), fun q _ _ => rfl, fun j _ => rfl⟩ z4, z5, z6, z7, z8⟩
  · unfold m_41 b_41_0
    rw [rs_eq, Option.bind_some, hF]
    exact z1
  · unfold m_100 b_100_0
    rw [hF]
    exact z2
