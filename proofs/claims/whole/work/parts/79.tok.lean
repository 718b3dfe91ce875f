/-! A token: both sides. -/
theorem bind_eta {x : Option (dI × dJ)} : (x.bind fun r => some (r.1, r.2)) = x := by
  cases x <;> rfl
def S3 (I : dI) (j : Nat) : dI := sI (sI I 18 2 (nn j)) 18 1 (nn j)
theorem s3_t {s j : Nat} {T : Nat → Nat} {I : dI} (h : Txc s T I) : Txc s T (S3 I j) := txc_s (txc_s h)
theorem s3_1 {I : dI} {j : Nat} : S3 I j 18 1 = nn j := sI_eq
theorem s3_2 {I : dI} {j : Nat} : S3 I j 18 2 = nn j := by rw [S3, sI_nk (by omega), sI_eq]
theorem m46_go {s i j : Nat} {T : Nat → Nat} {I : dI} {J : dJ} (hT : Txc s T I) (h18 : I 18 2 = nn i) (hij : i ≤ j) (hj : j ≤ s) (hb : ∀ x, i ≤ x → x < j → T x = 32) (hn : j < s → T j ≠ 32) : m_46 I J = (if nn j < nn s then ((m_49 (nn (ch s T j)) (S3 I j) (sJ J 18 4 0)).bind (fun r8 => if r8 = 0 then ((m_53 (nn (ch s T j)) (S3 I j) (sJ J 18 4 0)).bind (fun r11 => if r11 = 0 then m_58 (S3 I j) (sJ J 18 4 0) else m_54 (S3 I j) (sJ J 18 4 0))) else m_50 (S3 I j) (sJ J 18 4 0))) else some (sI (S3 I j) 18 3 (nn 0), sJ J 18 4 0)) := by
  have hs := hT.2.1
  obtain ⟨F, hF, hF2⟩ : ∃ F, FU = F ∧ 2000 < F := ⟨5000, rfl, by decide⟩
  have e47 : m_47 I J = some (sI I 18 2 (nn j), J) := by
    show b_47_0 FU I J = _
    rw [hF]
    exact m47_eq hj hn (j - i) i F I (by omega) (by omega) hb h18 hT
  have eI : sI (sI I 18 2 (nn j)) 18 1 ((sI I 18 2 (nn j)) 18 2) = S3 I j := by rw [sI_eq]; rfl
  have e1 : S3 I j 1 1 = nn s := (s3_t hT).1
  unfold m_46 b_46_0
  rw [e47, Option.bind_some]
  simp only [lt_, eI, s3_1, e1, bind_eta]
  rw [m48_eq (s3_t hT) (by omega), Option.bind_some]
  rfl
theorem m46_end {s i : Nat} {T : Nat → Nat} {I : dI} {J : dJ} (hT : Txc s T I) (h18 : I 18 2 = nn i) (hi : i ≤ s) (hb : ∀ x, i ≤ x → x < s → T x = 32) : m_46 I J = some (sI (S3 I s) 18 3 (nn 0), sJ J 18 4 0) := by
  have hs := hT.2.1
  rw [m46_go hT h18 hi (Nat.le_refl s) hb (fun h => by omega), if_neg (by rw [nn_lt (by omega) (by omega)]; omega)]
theorem m46_num {s i j : Nat} {T : Nat → Nat} {I : dI} {J : dJ} (hT : Txc s T I) (h18 : I 18 2 = nn i) (hij : i ≤ j) (hj : j < s) (hb : ∀ x, i ≤ x → x < j → T x = 32) (hn : T j ≠ 32) (hd : Dg (T j)) : m_46 I J = m_50 (S3 I j) (sJ J 18 4 0) := by
  have hs := hT.2.1
  rw [m46_go hT h18 hij (Nat.le_of_lt hj) hb (fun _ => hn), if_pos (by rw [nn_lt (by omega) (by omega)]; omega), ch_in hj, m49_t _ _ hd, Option.bind_some, if_neg (by decide)]
theorem m46_word {s i j : Nat} {T : Nat → Nat} {I : dI} {J : dJ} (hT : Txc s T I) (h18 : I 18 2 = nn i) (hij : i ≤ j) (hj : j < s) (hb : ∀ x, i ≤ x → x < j → T x = 32) (hn : T j ≠ 32) (hd : ¬ Dg (T j)) (hl : Lr (T j)) : m_46 I J = m_54 (S3 I j) (sJ J 18 4 0) := by
  have hs := hT.2.1
  have hc := hT.2.2 j hj
  rw [m46_go hT h18 hij (Nat.le_of_lt hj) hb (fun _ => hn), if_pos (by rw [nn_lt (by omega) (by omega)]; omega), ch_in hj, m49_f _ _ (by omega) hd, Option.bind_some, if_pos (by decide), m53_t _ _ hl, Option.bind_some, if_neg (by decide)]
theorem m46_sg {s i j : Nat} {T : Nat → Nat} {I : dI} {J : dJ} (hT : Txc s T I) (h18 : I 18 2 = nn i) (hij : i ≤ j) (hj : j < s) (hb : ∀ x, i ≤ x → x < j → T x = 32) (hn : T j ≠ 32) (hd : ¬ Dg (T j)) (hl : ¬ Lr (T j)) : m_46 I J = m_58 (S3 I j) (sJ J 18 4 0) := by
  have hs := hT.2.1
  have hc := hT.2.2 j hj
  rw [m46_go hT h18 hij (Nat.le_of_lt hj) hb (fun _ => hn), if_pos (by rw [nn_lt (by omega) (by omega)]; omega), ch_in hj, m49_f _ _ (by omega) hd, Option.bind_some, if_pos (by decide), m53_f _ _ (by omega) hl, Option.bind_some, if_pos (by decide)]
def M5 (I : dI) (j e : Nat) : dI := sI (sI I 92 23 (nn j)) 92 21 (nn e)
theorem m5_t {s j e : Nat} {T : Nat → Nat} {I : dI} (h : Txm s T I) : Txm s T (M5 I j e) := txm_s (by omega) (txm_s (by omega) h)
theorem m5_21 {I : dI} {j e : Nat} : M5 I j e 92 21 = nn e := sI_eq
theorem m5_23 {I : dI} {j e : Nat} : M5 I j e 92 23 = nn j := by rw [M5, sI_nk (by omega), sI_eq]
theorem m102_pl {s j e : Nat} {T : Nat → Nat} {I : dI} {J : dJ} (hT : Txm s T I) (hj : j < e) (he : e ≤ s) (h21 : I 92 21 = nn j) (hP : ∀ x, j ≤ x → x < e → Pl (T x)) (hE : e < s → ¬ Pl (T e)) : m_102 I J = (m_104 (nn (T j)) (M5 I j e) J).bind (fun r => if r = 0 then m_106 (M5 I j e) J else m_105 (M5 I j e) J) := by
  have hs := hT.2.1
  have hc := hT.2.2 j (by omega)
  obtain ⟨F, hF, hF2⟩ : ∃ F, FU = F + 1 ∧ 2000 < F := ⟨4999, rfl, by decide⟩
  have hpj := hP j (Nat.le_refl j) hj
  have n32 : ¬ nn (T j) = 32 := by
    refine ne_nn (k := 32) (by omega) (by omega) ?_
    unfold Pl Dg Lr at hpj
    omega
  have hT' : Txm s T (sI I 92 23 (nn j)) := txm_s (by omega) hT
  have e21 : (sI I 92 23 (nn j)) 92 21 = nn j := by rw [sI_nk (by omega)]; exact h21
  have q1 : m_101 (I 92 21) I J = some (nn (T j)) := by rw [h21, m101_eq hT (by omega), ch_in (by omega)]
  have q2 : m_101 ((sI I 92 23 (nn j)) 92 21) (sI I 92 23 (nn j)) J = some (nn (T j)) := by rw [e21, m101_eq hT' (by omega), ch_in (by omega)]
  have q4 := m103_t (sI I 92 23 (nn j)) J hpj
  have q5 := m50_run (x1 := nn (T j)) he hE (e - j) j (F + 1) (sI I 92 23 (nn j)) J (by omega) (by omega) hP hT' e21
  have hnp : ¬ Pl (ch s T e) ∧ ch s T e < 1000 := by
    by_cases c : e < s
    · rw [ch_in c]
      have := hT.2.2 e c
      exact ⟨hE c, by omega⟩
    · rw [ch_out (by omega)]
      unfold Pl Dg Lr
      omega
  have q6 : b_102_50 1 (nn (T j)) (M5 I j e) J = (m_104 (nn (T j)) (M5 I j e) J).bind (fun r => if r = 0 then m_106 (M5 I j e) J else m_105 (M5 I j e) J) := by
    rw [b_102_50, m5_21, m101_eq (m5_t hT) (by omega), Option.bind_some, m103_f _ _ hnp.2 hnp.1, Option.bind_some, if_pos (show nn 0 = 0 from rfl)]
    simp only [bind_eta]
  show b_102_0 FU I J = _
  rw [hF, b_102_0, q1, Option.bind_some, if_pos n32, h21]
  show (m_101 ((sI I 92 23 (nn j)) 92 21) (sI I 92 23 (nn j)) J).bind _ = _
  rw [q2, Option.bind_some, q4, Option.bind_some, if_neg (show ¬ nn 1 = 0 by decide), hF, q5]
  exact q6
def Ctk (I : dI) (J : dJ) (I' : dI) (J' : dJ) (st kc be : Nat) (v : Int64) : Prop := (∀ q, q ≠ 18 → I' q = I q ∧ J' q = J q) ∧ I' 18 1 = nn st ∧ I' 18 3 = nn kc ∧ (kc ≠ 1 → I' 18 2 = nn be ∧ J' 18 4 = v)
def Mtk (I : dI) (J : dJ) (I' : dI) (J' : dJ) (st κ be : Nat) (w : Int64) : Prop := OS I J I' J' ∧ I' 92 23 = nn st ∧ I' 92 22 = nn κ ∧ (κ ≠ 34 → I' 92 21 = nn be) ∧ (κ = 1 ∨ κ = 2 → J' 92 27 = w)
def Tok (s : Nat) (T : Nat → Nat) (j : Nat) : Prop := ∃ kc v κ w be, (∀ I J i, Txc s T I → I 18 2 = nn i → i ≤ j → (∀ x, i ≤ x → x < j → T x = 32) → ∃ I' J', m_46 I J = some (I', J') ∧ Ctk I J I' J' j kc be v) ∧ (∀ I J, Txm s T I → I 92 21 = nn j → ∃ I' J', m_102 I J = some (I', J') ∧ Mtk I J I' J' j κ be w) ∧ ((kc = 1 ∧ κ = 34) ∨ (kc ≠ 1 ∧ κ ≠ 34 ∧ j < be ∧ be ≤ s ∧ TR kc v κ w))
theorem ctk_of {I I' : dI} {J J' : dJ} {j kc be : Nat} {v : Int64} (h : O18 (S3 I j) (sJ J 18 4 0) I' J') (h3 : I' 18 3 = nn kc) (h4 : kc ≠ 1 → I' 18 2 = nn be ∧ J' 18 4 = v) : Ctk I J I' J' j kc be v := by
  refine ⟨fun q hq => ?_, by rw [h.2, s3_1], h3, h4⟩
  rw [(h.1 q hq).1, (h.1 q hq).2, sJ_ne hq, S3, sI_ne hq, sI_ne hq]
  exact ⟨rfl, rfl⟩
theorem mtk_os {I : dI} {J : dJ} {j e : Nat} : OS I J (M5 I j e) J := os_s (os_s (os_r I J) (by omega)) (by omega)
theorem tok_sg {s j : Nat} {T : Nat → Nat} (hR : ∀ i, i < s → 32 ≤ T i ∧ T i ≤ 126) (hj : j < s) (hn : T j ≠ 32) (hd : ¬ Dg (T j)) (hl : ¬ Lr (T j)) : Tok s T j := by
  have hc := hR j hj
  have hd2 : ch s T (j + 1) < 127 := by
    by_cases c : j + 1 < s
    · rw [ch_in c]; have := hR (j + 1) c; omega
    · rw [ch_out (by omega)]; omega
  have hrel := sg_rel ⟨T j, by omega⟩ ⟨ch s T (j + 1), hd2⟩
  simp only at hrel
  have hp : ¬ Pl (T j) := fun h => by
    rcases h with h | h
    · exact hd h
    · exact hl h
  have hk2 : kc2 (T j) (ch s T (j + 1)) ≠ 1 → j + 1 < s := by
    intro h
    refine Classical.byContradiction fun c => h ?_
    have e0 : ch s T (j + 1) = 0 := ch_out (by omega)
    unfold kc2
    rw [e0, if_neg (by omega), if_neg (by omega)]
  generalize hκ : (if 0 < two (T j) (ch s T (j + 1)) then two (T j) (ch s T (j + 1)) else one (T j)) = κ at hrel
  have hbe : κ ≠ 34 → j + (if 0 < two (T j) (ch s T (j + 1)) then 2 else 1) = j + (if kc2 (T j) (ch s T (j + 1)) = 1 then 1 else 2) := by
    intro h
    rcases hrel with ⟨r1, r2, r3⟩ | ⟨r1, _⟩
    · rw [if_neg (by omega)] at hκ
      omega
    · by_cases c : kc2 (T j) (ch s T (j + 1)) = 1
      · rw [if_pos c, if_neg (by have := r1.mp c; omega)]
      · rw [if_neg c, if_pos (by have := fun x => c (r1.mpr x); omega)]
  refine ⟨kcs (T j) (ch s T (j + 1)), 0, κ, 0, j + (if kc2 (T j) (ch s T (j + 1)) = 1 then 1 else 2), ?_, ?_, ?_⟩
  · intro I J i hT h18 hij hb
    refine ⟨_, _, by rw [m46_sg hT h18 hij hj hb hn hd hl, m58_eq (s3_t hT) hj s3_1], ctk_of (o18_s (o18_s (o18_r _ _) (by omega)) (by omega)) (by rw [sI_nk (by omega), sI_eq]) (fun _ => ⟨sI_eq, sJ_eq⟩)⟩
  · intro I J hT h21
    refine ⟨_, _, m102_sg hT hj h21 hn hp, os_s (os_s (os_s (os_r I J) (by omega)) (by omega)) (by omega), by rw [sI_nk (by omega), sI_nk (by omega), sI_eq], by rw [sI_nk (by omega), sI_eq, hκ], fun h => by rw [sI_eq, hbe h], fun h => ?_⟩
    rcases hrel with ⟨r1, r2, r3⟩ | ⟨_, r1⟩
    · rw [if_neg (by omega)] at hκ
      omega
    · omega
  · rcases hrel with ⟨r1, r2, r3⟩ | ⟨r1, r2⟩
    · rw [if_neg (by omega)] at hκ
      exact Or.inl ⟨r1, by omega⟩
    · refine Or.inr ⟨by omega, by omega, ?_, ?_, ?_⟩
      · split <;> omega
      · split
        · omega
        · rename_i c
          have := hk2 c
          omega
      · rcases r2 with r2 | r2 | r2 | r2 | r2 | r2 | r2
        · exact Or.inr (Or.inr (Or.inr (Or.inr (Or.inr (Or.inr (Or.inl r2))))))
        · exact Or.inr (Or.inr (Or.inr (Or.inr (Or.inr (Or.inr (Or.inr (Or.inl r2)))))))
        · exact Or.inr (Or.inr (Or.inr (Or.inr (Or.inr (Or.inr (Or.inr (Or.inr (Or.inl r2))))))))
        · exact Or.inr (Or.inr (Or.inr (Or.inr (Or.inr (Or.inr (Or.inr (Or.inr (Or.inr (Or.inl r2)))))))))
        · exact Or.inr (Or.inr (Or.inr (Or.inr (Or.inr (Or.inr (Or.inr (Or.inr (Or.inr (Or.inr (Or.inl r2))))))))))
        · exact Or.inr (Or.inr (Or.inr (Or.inr (Or.inr (Or.inr (Or.inr (Or.inr (Or.inr (Or.inr (Or.inr (Or.inl r2)))))))))))
        · exact Or.inr (Or.inr (Or.inr (Or.inr (Or.inr (Or.inr (Or.inr (Or.inr (Or.inr (Or.inr (Or.inr (Or.inr r2)))))))))))
theorem m50_dec {s j : Nat} {T : Nat → Nat} {I : dI} {J : dJ} (hT : Txc s T I) (hj : j < s) (h1 : I 18 1 = nn j) (hx : ¬ (T j = 48 ∧ ch s T (j + 1) = 120)) : m_50 I J = b_50_75 FU (nn 10) (nn j) (sI I 18 2 (nn j)) J := by
  have hs := hT.2.1
  have hc := hT.2.2 j hj
  have hd := ch_le hT (j + 1)
  have e0 : b_50_38 I J = b_50_75 FU (nn 10) (nn j) (sI I 18 2 (nn j)) J := by
    simp (disch := omega) only [b_50_38, b_50_39, b_50_51, b_50_69, h1, nn_l, nn_o, nn_lt, nn_le, nn_eq, nn_cl, nn_add, nn_sub, if_pos, if_neg, lt_, Option.bind_some, ↓reduceIte, not_true_eq_false, not_false_eq_true, Nat.add_sub_cancel, Nat.add_zero, Nat.reduceSub, Nat.reduceAdd, Nat.reduceMul, Nat.reduceEqDiff, Nat.reduceLT, Nat.reduceLeDiff, or_false, false_or, Nat.not_lt_zero]
  unfold m_50 b_50_0
  rw [h1, m48_eq hT (by omega), Option.bind_some, ch_in hj]
  by_cases c : T j = 48
  · have c2 : ch s T (j + 1) ≠ 120 := fun x => hx ⟨c, x⟩
    rw [if_neg (fun h => h (by rw [c]; rfl)), nn_l, nn_add, m48_eq hT (by omega), Option.bind_some, if_pos (show ¬ nn (ch s T (j + 1)) = 120 from ne_nn (k := 120) (by omega) (by omega) c2), e0]
  · rw [if_pos (show ¬ nn (T j) = 48 from ne_nn (k := 48) (by omega) (by omega) c), e0]
theorem m50_hex {s j : Nat} {T : Nat → Nat} {I : dI} {J : dJ} (hT : Txc s T I) (hj : j < s) (h1 : I 18 1 = nn j) (hx : T j = 48 ∧ ch s T (j + 1) = 120) : m_50 I J = b_50_75 FU (nn 16) (nn (j + 2)) (sI I 18 2 (nn (j + 2))) J := by
  have hs := hT.2.1
  have e0 : b_50_39 (nn 1) I J = b_50_75 FU (nn 16) (nn (j + 2)) (sI I 18 2 (nn (j + 2))) J := by
    simp (disch := omega) only [b_50_39, b_50_51, b_50_69, h1, nn_l, nn_o, nn_lt, nn_le, nn_eq, nn_cl, nn_add, nn_sub, if_pos, if_neg, lt_, Option.bind_some, ↓reduceIte, not_true_eq_false, not_false_eq_true, Nat.add_sub_cancel, Nat.add_zero, Nat.reduceSub, Nat.reduceAdd, Nat.reduceMul, Nat.reduceEqDiff, Nat.reduceLT, Nat.reduceLeDiff, or_false, false_or, Nat.not_lt_zero]
  unfold m_50 b_50_0
  rw [h1, m48_eq hT (by omega), Option.bind_some, ch_in hj, hx.1, if_neg (fun h => h rfl), nn_l, nn_add, m48_eq hT (by omega), Option.bind_some, hx.2, if_neg (fun h => h rfl), e0]
theorem m105_48 {hx f0 j : Nat} {I : dI} {J : dJ} (hh : (hx = 0 ∧ f0 = j) ∨ (hx = 1 ∧ f0 = j + 2)) (h23 : I 92 23 = nn j) : b_105_48 (nn hx) I J = b_105_77 FU (nn hx) (nn f0) (sI I 92 22 (nn 1)) (sJ J 92 27 0) := by
  rcases hh with ⟨rfl, rfl⟩ | ⟨rfl, rfl⟩
  · show (if nn 0 = 0 then b_105_76 (nn 0) ((sI I 92 22 1) 92 23) (sI I 92 22 1) (sJ J 92 27 0) else b_105_76 (nn 0) ((sI I 92 22 1) 92 23 + 2) (sI I 92 22 1) (sJ J 92 27 0)) = _
    rw [if_pos (show nn 0 = 0 from rfl), sI_nk (by omega), h23]
    rfl
  · show (if nn 1 = 0 then b_105_76 (nn 1) ((sI I 92 22 1) 92 23) (sI I 92 22 1) (sJ J 92 27 0) else b_105_76 (nn 1) ((sI I 92 22 1) 92 23 + 2) (sI I 92 22 1) (sJ J 92 27 0)) = _
    rw [if_neg (show ¬ nn 1 = 0 by decide), sI_nk (by omega), h23, show (2 : Int32) = nn 2 from rfl, nn_add]
    rfl
theorem m105_dec {s j e : Nat} {T : Nat → Nat} {I : dI} {J : dJ} (hT : Txm s T I) (hj : j < e) (he : e ≤ s) (h21 : I 92 21 = nn e) (h23 : I 92 23 = nn j) (hx : ¬ (2 < e - j ∧ T j = 48 ∧ T (j + 1) = 120)) : m_105 I J = b_105_77 FU (nn 0) (nn j) (sI I 92 22 (nn 1)) (sJ J 92 27 0) := by
  have hs := hT.2.1
  have hc := hT.2.2 j (by omega)
  have e0 : b_105_47 I J = b_105_77 FU (nn 0) (nn j) (sI I 92 22 (nn 1)) (sJ J 92 27 0) := m105_48 (Or.inl ⟨rfl, rfl⟩) h23
  rw [← e0]
  by_cases c : e - j ≤ 2
  · simp (disch := omega) only [m_105, b_105_0, h21, h23, nn_l, nn_o, nn_lt, nn_le, nn_eq, nn_cl, nn_add, nn_sub, if_pos, if_neg, lt_, Option.bind_some, ↓reduceIte, not_true_eq_false, not_false_eq_true, Nat.add_sub_cancel, Nat.add_zero, Nat.reduceSub, Nat.reduceAdd, Nat.reduceMul, Nat.reduceEqDiff, Nat.reduceLT, Nat.reduceLeDiff, or_false, false_or, Nat.not_lt_zero]
  · have hc1 := hT.2.2 (j + 1) (by omega)
    by_cases c1 : T j = 48
    · have c2 : T (j + 1) ≠ 120 := fun x => hx ⟨by omega, c1, x⟩
      simp (disch := omega) only [m_105, b_105_0, h21, h23, hc.1, hc1.1, c1, nn_l, nn_o, nn_lt, nn_le, nn_eq, nn_cl, nn_add, nn_sub, if_pos, if_neg, lt_, Option.bind_some, ↓reduceIte, not_true_eq_false, not_false_eq_true, Nat.add_sub_cancel, Nat.add_zero, Nat.reduceSub, Nat.reduceAdd, Nat.reduceMul, Nat.reduceEqDiff, Nat.reduceLT, Nat.reduceLeDiff, or_false, false_or, Nat.not_lt_zero]
    · simp (disch := omega) only [m_105, b_105_0, h21, h23, hc.1, nn_l, nn_o, nn_lt, nn_le, nn_eq, nn_cl, nn_add, nn_sub, if_pos, if_neg, lt_, Option.bind_some, ↓reduceIte, not_true_eq_false, not_false_eq_true, Nat.add_sub_cancel, Nat.add_zero, Nat.reduceSub, Nat.reduceAdd, Nat.reduceMul, Nat.reduceEqDiff, Nat.reduceLT, Nat.reduceLeDiff, or_false, false_or, Nat.not_lt_zero]
theorem m105_hex {s j e : Nat} {T : Nat → Nat} {I : dI} {J : dJ} (hT : Txm s T I) (he : e ≤ s) (h21 : I 92 21 = nn e) (h23 : I 92 23 = nn j) (hx : 2 < e - j ∧ T j = 48 ∧ T (j + 1) = 120) : m_105 I J = b_105_77 FU (nn 1) (nn (j + 2)) (sI I 92 22 (nn 1)) (sJ J 92 27 0) := by
  have hs := hT.2.1
  obtain ⟨x1, x2, x3⟩ := hx
  have hc := hT.2.2 j (by omega)
  have hc1 := hT.2.2 (j + 1) (by omega)
  have e0 : b_105_48 (nn 1) I J = b_105_77 FU (nn 1) (nn (j + 2)) (sI I 92 22 (nn 1)) (sJ J 92 27 0) := m105_48 (Or.inr ⟨rfl, rfl⟩) h23
  rw [← e0]
  simp (disch := omega) only [m_105, b_105_0, h21, h23, hc.1, hc1.1, x2, x3, nn_l, nn_o, nn_lt, nn_le, nn_eq, nn_cl, nn_add, nn_sub, if_pos, if_neg, lt_, Option.bind_some, ↓reduceIte, not_true_eq_false, not_false_eq_true, Nat.add_sub_cancel, Nat.add_zero, Nat.reduceSub, Nat.reduceAdd, Nat.reduceMul, Nat.reduceEqDiff, Nat.reduceLT, Nat.reduceLeDiff, or_false, false_or, Nat.not_lt_zero]
theorem tok_n {s j e hx f0 : Nat} {T : Nat → Nat} (hh : (hx = 0 ∧ f0 = j) ∨ (hx = 1 ∧ f0 = j + 2)) (hR : ∀ i, i < s → 32 ≤ T i ∧ T i ≤ 126) (hf : f0 < e) (he : e ≤ s) (hs : s ≤ 120) (hP : ∀ x, j ≤ x → x < e → Pl (T x)) (hE : e < s → ¬ Pl (T e)) (h1 : ∀ I J i, Txc s T I → I 18 2 = nn i → i ≤ j → (∀ x, i ≤ x → x < j → T x = 32) → m_46 I J = b_50_75 FU (nn (bs hx)) (nn f0) (sI (S3 I j) 18 2 (nn f0)) (sJ J 18 4 0)) (h2 : ∀ I J, Txm s T I → I 92 21 = nn j → m_102 I J = b_105_77 FU (nn hx) (nn f0) (sI (M5 I j e) 92 22 (nn 1)) (sJ J 92 27 0)) : Tok s T j := by
  obtain ⟨F, hF, hF2⟩ : ∃ F, FU = F ∧ 2000 < F := ⟨5000, rfl, by decide⟩
  have hb : bs hx = 10 ∨ bs hx = 16 := by
    rcases hh with ⟨rfl, _⟩ | ⟨rfl, _⟩
    · exact Or.inl rfl
    · exact Or.inr rfl
  have h01 : hx = 0 ∨ hx = 1 := by omega
  have cr := fun I J i (hT : Txc s T I) (h18 : I 18 2 = nn i) (hij : i ≤ j) (hbl : ∀ x, i ≤ x → x < j → T x = 32) => b75_run (s := s) (e := e) (T := T) (b := bs hx) (f0 := f0) hb (by omega) he (fun x a b => hP x (by omega) b) hE (e - f0) f0 F (sI (S3 I j) 18 2 (nn f0)) (sJ J 18 4 0) 0 (by omega) (by omega) (Nat.le_refl f0) (by omega) (txc_s (s3_t hT)) sI_eq sJ_eq (by omega)
  have mr := fun I J (hT : Txm s T I) => m77_run (s := s) (e := e) (hx := hx) (T := T) h01 he (e - f0) f0 F (sI (M5 I j e) 92 22 (nn 1)) (sJ J 92 27 0) 0 (by omega) (by omega) (txm_s (by omega) (m5_t hT)) (by rw [sI_nk (by omega)]; exact m5_21) sI_eq sJ_eq (by omega)
  have o18 : ∀ I J I' J', O18 (sI (S3 I j) 18 2 (nn f0)) (sJ J 18 4 0) I' J' → O18 (S3 I j) (sJ J 18 4 0) I' J' := by
    intro I J I' J' o
    refine ⟨fun q hq => ?_, by rw [o.2, sI_nk (by omega)]⟩
    rw [(o.1 q hq).1, (o.1 q hq).2, sI_ne hq]
    exact ⟨rfl, rfl⟩
  cases hnv : nv (bs hx) T (e - f0) f0 0 with
  | none =>
    refine ⟨1, 0, 34, 0, 0, ?_, ?_, Or.inl ⟨rfl, rfl⟩⟩
    · intro I J i hT h18 hij hbl
      obtain ⟨I', J', q1, q2, q3⟩ := (cr I J i hT h18 hij hbl).2 hnv
      refine ⟨I', J', by rw [h1 I J i hT h18 hij hbl, hF]; exact q1, ctk_of (o18 I J I' J' q2) q3 (fun h => absurd rfl h)⟩
    · intro I J hT h21
      obtain ⟨J', q1, q2⟩ := (mr I J hT).2 hnv
      refine ⟨_, J', by rw [h2 I J hT h21, hF]; exact q1, os_tr (os_s (os_j mtk_os) (by omega)) q2, ?_, sI_eq, fun h => absurd rfl h, fun h => by omega⟩
      rw [sI_nk (by omega), sI_nk (by omega), m5_23]
  | some r =>
    refine ⟨3, Int64.ofNat r, 1, Int64.ofNat r, e, ?_, ?_, Or.inr ⟨by omega, by omega, by omega, he, Or.inr (Or.inl ⟨rfl, rfl, rfl⟩)⟩⟩
    · intro I J i hT h18 hij hbl
      obtain ⟨I', J', q1, q2, q3, q4, q5⟩ := (cr I J i hT h18 hij hbl).1 r hnv
      exact ⟨I', J', by rw [h1 I J i hT h18 hij hbl, hF]; exact q1, ctk_of (o18 I J I' J' q2) q3 (fun _ => ⟨q4, q5⟩)⟩
    · intro I J hT h21
      have q1 := (mr I J hT).1 r hnv
      refine ⟨_, _, by rw [h2 I J hT h21, hF]; exact q1, os_j (os_j (os_s mtk_os (by omega))), ?_, sI_eq, fun _ => ?_, fun _ => sJ_eq⟩
      · rw [sI_nk (by omega), m5_23]
      · rw [sI_nk (by omega), m5_21]
theorem tok_num {s j : Nat} {T : Nat → Nat} (hs : s ≤ 120) (hR : ∀ i, i < s → 32 ≤ T i ∧ T i ≤ 126) (hj : j < s) (hn : T j ≠ 32) (hd : Dg (T j)) : Tok s T j := by
  obtain ⟨e, e1, e2, e3, e4⟩ := runs s T (s - j) j (by omega)
  have hje : j < e := by
    refine Classical.byContradiction fun c => ?_
    have : e = j := by omega
    subst this
    exact e4 hj (Or.inl hd)
  have hm : ∀ I J, Txm s T I → I 92 21 = nn j → m_102 I J = m_105 (M5 I j e) J := by
    intro I J hT h21
    rw [m102_pl hT hje e2 h21 e3 e4, m104_t _ _ hd, Option.bind_some, if_neg (by decide)]
  by_cases hx : T j = 48 ∧ ch s T (j + 1) = 120
  · have hj1 : j + 1 < s := by
      refine Classical.byContradiction fun c => ?_
      have := hx.2
      rw [ch_out (by omega)] at this
      omega
    have h120 : T (j + 1) = 120 := by rw [← hx.2, ch_in hj1]
    have he2 : j + 1 < e := by
      refine Classical.byContradiction fun c => ?_
      have : e = j + 1 := by omega
      subst this
      exact e4 hj1 (by rw [h120]; exact Or.inr (Or.inl ⟨by omega, by omega⟩))
    by_cases h3 : 2 < e - j
    · refine tok_n (hx := 1) (f0 := j + 2) (Or.inr ⟨rfl, rfl⟩) hR (by omega) e2 hs e3 e4 (fun I J i hT h18 hij hb => ?_) (fun I J hT h21 => ?_)
      · rw [m46_num hT h18 hij hj hb hn hd, m50_hex (s3_t hT) hj s3_1 hx]
        rfl
      · rw [hm I J hT h21, m105_hex (m5_t hT) e2 m5_21 m5_23 ⟨h3, hx.1, h120⟩]
    · have ee : e = j + 2 := by omega
      subst ee
      obtain ⟨F, hF, hF2⟩ : ∃ F, FU = F + 1 ∧ 2000 < F := ⟨4999, rfl, by decide⟩
      refine ⟨1, 0, 34, 0, 0, ?_, ?_, Or.inl ⟨rfl, rfl⟩⟩
      · intro I J i hT h18 hij hb
        have hT2 : Txc s T (sI (S3 I j) 18 2 (nn (j + 2))) := txc_s (s3_t hT)
        have h153 : b_50_153 (nn (j + 2)) (sI (S3 I j) 18 2 (nn (j + 2))) (sJ J 18 4 0) = some (sI (sI (S3 I j) 18 2 (nn (j + 2))) 18 3 (nn 1), sJ J 18 4 0) := by
          simp (disch := omega) only [b_50_153, b_50_193, b_50_194, b_50_207, sI_eq, nn_l, nn_o, nn_lt, nn_le, nn_eq, nn_cl, nn_add, nn_sub, if_pos, if_neg, lt_, Option.bind_some, ↓reduceIte, not_true_eq_false, not_false_eq_true, Nat.add_sub_cancel, Nat.add_zero, Nat.reduceSub, Nat.reduceAdd, Nat.reduceMul, Nat.reduceEqDiff, Nat.reduceLT, Nat.reduceLeDiff, or_false, false_or, Nat.not_lt_zero]
        refine ⟨sI (sI (S3 I j) 18 2 (nn (j + 2))) 18 3 (nn 1), sJ J 18 4 0, ?_, ctk_of (o18_s (o18_s (o18_r _ _) (by omega)) (by omega)) sI_eq (fun h => absurd rfl h)⟩
        rw [m46_num hT h18 hij hj hb hn hd, m50_hex (s3_t hT) hj s3_1 hx, hF, ← h153]
        by_cases c : j + 2 < s
        · have hc := hR (j + 2) c
          have c0 : ¬ Dg (T (j + 2)) := fun x => e4 c (Or.inl x)
          have c1 : ¬ Lr (T (j + 2)) := fun x => e4 c (Or.inr x)
          unfold Lr at c1
          simp (disch := omega) only [b_50_75, hT2.1, sI_eq, m48_eq hT2 (show j + 2 < 1000 by omega), ch_in c, m51_n _ _ (show T (j + 2) < 1000 by omega) c0 (by omega), nn_m1, nn_l, nn_o, nn_lt, nn_le, nn_eq, nn_cl, nn_add, nn_sub, if_pos, if_neg, lt_, Option.bind_some, ↓reduceIte, not_true_eq_false, not_false_eq_true, Nat.add_sub_cancel, Nat.add_zero, Nat.reduceSub, Nat.reduceAdd, Nat.reduceMul, Nat.reduceEqDiff, Nat.reduceLT, Nat.reduceLeDiff, or_false, false_or, Nat.not_lt_zero]
        · simp (disch := omega) only [b_50_75, hT2.1, sI_eq, nn_l, nn_o, nn_lt, nn_le, nn_eq, nn_cl, nn_add, nn_sub, if_pos, if_neg, lt_, Option.bind_some, ↓reduceIte, not_true_eq_false, not_false_eq_true, Nat.add_sub_cancel, Nat.add_zero, Nat.reduceSub, Nat.reduceAdd, Nat.reduceMul, Nat.reduceEqDiff, Nat.reduceLT, Nat.reduceLeDiff, or_false, false_or, Nat.not_lt_zero]
      · intro I J hT h21
        have hnv : nv (bs 0) T 2 j 0 = none := by
          have o1 : okd (bs 0) (T j) := Or.inl hd
          have v0 : vd (T j) = 0 := by rw [hx.1]; rfl
          rw [nv_t o1 (by rw [v0]; decide), nv_f (fun x => ?_)]
          have := x.1
          rw [h120] at this
          rcases this with h | h
          · unfold Dg at h; omega
          · have := h.1
            exact absurd this (by decide)
        obtain ⟨J', q1, q2⟩ := (m77_run (s := s) (e := j + 2) (hx := 0) (T := T) (Or.inl rfl) e2 2 j (F + 1) (sI (M5 I j (j + 2)) 92 22 (nn 1)) (sJ J 92 27 0) 0 (by omega) (by omega) (txm_s (by omega) (m5_t hT)) (by rw [sI_nk (by omega)]; exact m5_21) sI_eq sJ_eq (by omega)).2 hnv
        refine ⟨_, J', ?_, os_tr (os_s (os_j mtk_os) (by omega)) q2, ?_, sI_eq, fun h => absurd rfl h, fun h => by omega⟩
        · rw [hm I J hT h21, m105_dec (m5_t hT) hje e2 m5_21 m5_23 (fun h => by omega), hF]
          exact q1
        · rw [sI_nk (by omega), sI_nk (by omega), m5_23]
  · refine tok_n (hx := 0) (f0 := j) (Or.inl ⟨rfl, rfl⟩) hR hje e2 hs e3 e4 (fun I J i hT h18 hij hb => ?_) (fun I J hT h21 => ?_)
    · rw [m46_num hT h18 hij hj hb hn hd, m50_dec (s3_t hT) hj s3_1 hx]
      rfl
    · rw [hm I J hT h21, m105_dec (m5_t hT) hje e2 m5_21 m5_23 (fun h => hx ⟨h.2.1, by rw [ch_in (by omega)]; exact h.2.2⟩)]
