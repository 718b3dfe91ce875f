/-! Reading a text: one token, and so to the end. -/
theorem tkI_ne {I : dI} {t κ q : Nat} (h1 : q ≠ 92) (h2 : q ≠ 110) (h3 : q ≠ 111) : tkI I t κ q = I q := by
  rw [tkI, sI_ne h1, sI_ne h3, sI_ne h2]
theorem tkI_92 {I : dI} {t κ j : Nat} (h : j ≠ 24) : tkI I t κ 92 j = I 92 j := by
  rw [tkI, sI_nk h, sI_ne (by omega), sI_ne (by omega)]
theorem tkI_110 {I : dI} {t κ i : Nat} (h : i < t) : tkI I t κ 110 i = I 110 i := by
  rw [tkI, sI_ne (by omega), sI_ne (by omega), sI_nk (by omega)]
theorem tkI_110t {I : dI} {t κ : Nat} : tkI I t κ 110 t = nn κ := by
  rw [tkI, sI_ne (by omega), sI_ne (by omega), sI_eq]
theorem tkI_111 {I : dI} {t κ i : Nat} (h : i < t) : tkI I t κ 111 i = I 111 i := by
  rw [tkI, sI_ne (by omega), sI_nk (by omega), sI_ne (by omega)]
theorem parse_all {s : Nat} {T : Nat → Nat} : ∀ N d pos fu gu turn t n z st W O B Bs Ic Jc Im Jm, d < N → pos + d = s → d + 1 < fu → d + 1 < gu → turn ≤ pos → PI s T pos t n z st W O B Bs Ic Jc Im Jm → Rz (b_41_6 fu (nn turn) Ic Jc) (b_100_24 gu (nn n) (nn (mst st)) Im Jm) Ic Jc Im Jm := by
  intro N
  induction N with
  | zero => intro d pos fu gu turn t n z st W O B Bs Ic Jc Im Jm h; omega
  | succ N ih =>
    intro d pos fu gu turn t n z st W O B Bs Ic Jc Im Jm hd hpd hfu hgu htn h
    obtain ⟨f, rfl⟩ : ∃ f, fu = f + 1 := ⟨fu - 1, by omega⟩
    obtain ⟨j, j1, j2, j3, j4⟩ := blanks s T d pos hpd
    by_cases hjs : j = s
    · subst hjs
      exact parse_end (by omega) htn h j3
    obtain ⟨a1, a2, a3, a4, a5, a6, a7, a8, a9, a10, a11, a12, a13, a14, a15, a16, a17⟩ := h
    obtain ⟨g, rfl⟩ : ∃ g, gu = g + 1 := ⟨gu - 1, by omega⟩
    have hs := a1.2.1
    have hj : j < s := by omega
    have h32 := j4 hj
    obtain ⟨kc, v, κ, w, be, tc, tm, hrel⟩ := tok_all hs (fun i hi => (a1.2.2 i hi).2) hj h32
    obtain ⟨I1, J1, h46, ⟨cr, c18, ckc, cbe⟩⟩ := tc Ic Jc pos a1 a3 j1 j3
    have hT1 : Txm s T (sI Im 92 21 (nn j)) := txm_s (by omega) a2
    obtain ⟨I2, J2, h102, ⟨os, m23, m22, m21, m27⟩⟩ := tm (sI Im 92 21 (nn j)) Jm hT1 sI_eq
    have r2 : ∀ q, q ≠ 92 → I2 q = Im q ∧ J2 q = Jm q := fun q hq => ⟨by rw [(os.1 q hq).1, sI_ne hq], (os.1 q hq).2⟩
    have r92 : ∀ k, k ≠ 21 → k ≠ 22 → k ≠ 23 → I2 92 k = Im 92 k := fun k x1 x2 x3 => by rw [os.2.1 k x1 x2 x3, sI_nk x1]
    have hlen := brk_len _ _ a11
    have hbin := brk_in _ _ a11
    have hN1 := nx_row (fun q hq => (cr q hq).1) a10
    have hC1 := cst_row cr a9
    have i25 : I2 92 25 = nn Bs.length := by rw [r92 25 (by omega) (by omega) (by omega)]; exact a15
    have i24 : I2 92 24 = nn t := by rw [r92 24 (by omega) (by omega) (by omega)]; exact a14
    have i26 : I2 92 26 = nn 0 := by rw [r92 26 (by omega) (by omega) (by omega)]; exact a17
    have e110 := (r2 110 (by omega)).1
    have e111 := (r2 111 (by omega)).1
    have e112 := (r2 112 (by omega)).1
    have e113 := (r2 113 (by omega)).2
    have hκ : κ < 100 := by
      rcases hrel with ⟨_, h⟩ | ⟨_, _, _, _, h⟩
      · omega
      · have := tr_num h
        unfold TRn at this
        omega
    have hkc : kc < 100 := by
      rcases hrel with ⟨h, _⟩ | ⟨_, _, _, _, h⟩
      · omega
      · have := tr_num h
        unfold TRn at this
        omega
    have hms : mst st ≤ 3 := by
      unfold mst
      repeat' split
      all_goals omega
    have hsb : shB st κ B ≤ 1 := by
      unfold shB
      split <;> omega
    obtain ⟨F1, hF1⟩ : ∃ F1, FU = F1 + 1 + (j - pos) := ⟨4999 - (j - pos), by have : FU = 5000 := rfl; omega⟩
    have hmod : b_100_24 (g + 1) (nn n) (nn (mst st)) Im Jm = b_100_225 (b_100_24 g) (nn n) (nn (mst st)) (nn (shB st κ B)) (nn (fitM (mst st) κ (shB st κ B))) (nn (opM κ)) I2 J2 := by
      rw [b_100_24, if_neg (show ¬ ¬ Im 92 26 = 0 from fun x => x a17), hF1, rd_bl (by omega) (j - pos) pos (F1 + 1) Im (by omega) j3 a4 a2, rd_31 (κ := κ) (B := B) (Bs := Bs) hT1 hj h32 sI_eq h102 a8 hκ m22 i25 a12 (by rw [e112]; exact a16) (fun x hx => by have := a13 x hx; omega) (by rw [e110]; exact a11), rd_127 hκ hms hsb m22]
    have h62 := m62_eq (J := J1) (c := kc) (by omega) a8 a7 hN1.2.1 hN1.1 hN1.2.2 (by omega) hbin
    have hb2 : BF2 Ic Jc I1 J1 := ⟨fun q hq => (cr q (by omega)).1, fun q _ hq => (cr q hq).2⟩
    have hm2 : MF2 Im Jm I2 J2 := mf2_os (mf2_s (mf2_r Im Jm) (by omega)) os
    -- a fault
    have flt : ∀ F, 0 < F → F < 5 → fltC st kc n B = F → b_100_225 (b_100_24 g) (nn n) (nn (mst st)) (nn (shB st κ B)) (nn (fitM (mst st) κ (shB st κ B))) (nn (opM κ)) I2 J2 = some (nn n, sI I2 92 26 (nn (F + 8 * j)), J2) → Rz (b_41_6 (f + 1) (nn turn) Ic Jc) (b_100_24 (g + 1) (nn n) (nn (mst st)) Im Jm) Ic Jc Im Jm := by
      intro F f0 f5 e1 e2
      rw [e1] at h62
      exact ⟨F + 8 * j, I1, J1, _, _, n, cl_flt (by omega) h46 ckc c18 h62 (by omega) (by omega), hmod.trans e2, hb2, mf2_s hm2 (by omega), sI_eq, by omega, a7, fun x => by omega⟩
    rcases hrel with ⟨hk1, hk34⟩ | ⟨hk1, hk34, hbe1, hbe2, htr⟩
    · refine flt 1 (by omega) (by omega) ?_ ?_
      · unfold fltC
        rw [hk1, fit_no a8, if_pos rfl]
      · have : fitM (mst st) κ (shB st κ B) = 0 := if_pos hk34
        rw [this]
        exact rd_f1 (by omega) i26 m23
    have hTn := tr_num htr
    have hfe := fit_eq (B := B) a8 hTn
    have hfl : fltC st kc n B = (if fitC st kc B = 0 then 1 else if kc = 2 then 2 else if (kc ≠ 0 ∧ kc ≠ 11 ∧ kc ≠ 13) ∧ 40 ≤ n then 3 else if (kc = 10 ∨ kc = 12) ∧ 8 ≤ B.length then 4 else 0) := rfl
    have hf01 : fitC st kc B = 0 ∨ fitC st kc B = 1 := by
      unfold fitC
      repeat' split
      all_goals first | exact bgC_01 kc | exact foC_01 kc B | exact Or.inl rfl | exact Or.inr rfl
    rw [hfe] at hmod flt
    rcases hf01 with hf0 | hf1
    · refine flt 1 (by omega) (by omega) (by rw [hfl, if_pos hf0]) ?_
      rw [hf0]
      exact rd_f1 (by omega) i26 m23
    rw [hf1] at hmod flt
    rw [if_neg (show ¬ fitC st kc B = 0 by omega)] at hfl
    have hTn' := hTn
    unfold TRn at hTn'
    by_cases hk2 : kc = 2
    · have : κ = 0 := by omega
      refine flt 2 (by omega) (by omega) (by rw [hfl, if_pos hk2]) ?_
      exact rd_f2 (by omega) i26 m23 (by rw [m22, this])
    rw [if_neg hk2] at hfl
    have hκ0 : κ ≠ 0 := by omega
    have hop : opM κ = if kc = 10 ∨ kc = 12 then 1 else 0 := by
      unfold opM
      by_cases c : kc = 10 ∨ kc = 12
      · rw [if_pos c, if_pos (by omega)]
      · rw [if_neg c, if_neg (by omega)]
    have hop1 : opM κ ≤ 1 := by
      unfold opM
      split <;> omega
    have hsh0 : kc ≠ 11 → kc ≠ 13 → shB st κ B = 0 := by
      intro x1 x2
      unfold shB
      rw [if_neg (fun x => by omega)]
    by_cases h3 : (kc ≠ 0 ∧ kc ≠ 11 ∧ kc ≠ 13) ∧ 40 ≤ n
    · have hn40 : n = 40 := by omega
      refine flt 3 (by omega) (by omega) (by rw [hfl, if_pos h3]) ?_
      rw [hsh0 (by omega) (by omega), hn40]
      exact rd_f3 (by omega) i26 m23 m22 hκ hκ0
    rw [if_neg h3] at hfl
    have h285 : b_100_225 (b_100_24 g) (nn n) (nn (mst st)) (nn (shB st κ B)) (nn 1) (nn (opM κ)) I2 J2 = b_100_285 (b_100_24 g) (nn n) (nn (mst st)) (nn (shB st κ B)) (nn (opM κ)) I2 J2 := by
      refine rd_285 m22 hκ hκ0 hsb a7 ?_
      by_cases c : kc = 11 ∨ kc = 13
      · left
        unfold shB
        have hfo : fitC st kc B = 1 := hf1
        unfold fitC bgC foC at hfo
        by_cases s0 : st = 0
        · rw [if_pos s0, if_neg (by omega)] at hfo
          omega
        · rw [if_neg s0] at hfo
          by_cases s2 : st = 2
          · rw [if_pos s2, if_neg (by omega)] at hfo
            omega
          · rw [if_neg s2] at hfo
            by_cases s3 : st = 3
            · rw [if_pos s3, if_neg (by omega)] at hfo
              omega
            · rw [if_neg s3, if_neg (show ¬ kc = 0 by omega)] at hfo
              rw [if_pos]
              refine ⟨by omega, ?_⟩
              by_cases k11 : kc = 11
              · rw [if_pos k11] at hfo
                by_cases tb : topB B = 10
                · exact Or.inl ⟨tb, by omega⟩
                · rw [if_neg tb] at hfo; omega
              · rw [if_neg k11, if_pos (show kc = 13 by omega)] at hfo
                by_cases tb : topB B = 12
                · exact Or.inr ⟨tb, by omega⟩
                · rw [if_neg tb] at hfo; omega
      · right
        omega
    rw [h285] at hmod flt
    by_cases h4 : (kc = 10 ∨ kc = 12) ∧ 8 ≤ B.length
    · refine flt 4 (by omega) (by omega) (by rw [hfl, if_pos h4]) ?_
      rw [hop, if_pos h4.1]
      exact rd_f4 (by omega) i26 m23 (by rw [i25]; congr 1; omega)
    rw [if_neg h4] at hfl
    rw [hfl] at h62
    have hkc0 : kc ≠ 0 := by omega
    have h308 : b_100_285 (b_100_24 g) (nn n) (nn (mst st)) (nn (shB st κ B)) (nn (opM κ)) I2 J2 = b_100_308 (b_100_24 g) (nn n) (nn (mst st)) (nn (shB st κ B)) (nn (opM κ)) I2 J2 := by
      refine rd_308 a12 hop1 i25 ?_
      by_cases c : kc = 10 ∨ kc = 12
      · right; omega
      · left; rw [hop, if_neg c]
    rw [h308] at hmod
    obtain ⟨hbe3, hv⟩ := cbe hk1
    have m21' := m21 hk34
    have hT2 : Txm s T I2 := txm_row (r92 1 (by omega) (by omega) (by omega)) (r2 93 (by omega)).1 a2
    have hTc1 : Txc s T I1 := txc_row (cr 1 (by omega)).1 (cr 2 (by omega)).1 a1
    -- going on
    have cont : ∀ n' st' z' W' O' B' Bs' Ix Jx Iy Jy, m_76 (nn kc) I1 J1 = some (Ix, Jx) → BFr I1 J1 Ix Jx → b_100_24 (g + 1) (nn n) (nn (mst st)) Im Jm = b_100_24 g (nn n') (nn (mst st')) Iy Jy → MF2 Im Jm Iy Jy → n' ≤ 40 → st' ≤ 3 → CSt Ix Jx (Iy 110) (Iy 111) (Jy 113) (t + 1) n' Bs' W' O' z' st' → Nx Ix n' st' B' → Brk (Iy 110) B' Bs' → Bs'.length ≤ 8 → (∀ x, x ∈ Bs' → x < t + 1) → Iy 92 21 = nn be → Iy 92 24 = nn (t + 1) → Iy 92 25 = nn Bs'.length → pil (Iy 112) Bs' → Iy 92 26 = nn 0 → Rz (b_41_6 (f + 1) (nn turn) Ic Jc) (b_100_24 (g + 1) (nn n) (nn (mst st)) Im Jm) Ic Jc Im Jm := by
      intro n' st' z' W' O' B' Bs' Ix Jx Iy Jy y1 y2 y3 y4 y5 y6 y7 y8 y9 y10 y11 y12 y13 y14 y15 y16
      have hPI : PI s T be (t + 1) n' z' st' W' O' B' Bs' Ix Jx Iy Jy := ⟨txc_row (y2.1 1 (by omega)) (y2.1 2 (by omega)) hTc1, txm_row (y4.2.1 1 (by omega)) (y4.1 93 (by omega) (by omega) (by omega) (by omega)) a2, by rw [y2.1 18 (by omega)]; exact hbe3, y12, hbe2, by omega, y5, y6, y7, y8, y9, y10, y11, y13, y14, y15, y16⟩
      obtain ⟨F, x1, x2, x3, x4, nr, z1, z2, z3, z4, z5, z6, z7, z8⟩ := ih (s - be) be f g (turn + 1) (t + 1) n' z' st' W' O' B' Bs' Ix Jx Iy Jy (by omega) (by omega) (by omega) (by omega) (by omega) hPI
      refine ⟨F, x1, x2, x3, x4, nr, (cl_go (by omega) h46 ckc hkc0 hkc h62 y1).trans z1, y3.trans z2, bf2_tr hb2 (bf2_tr ⟨fun q hq => y2.1 q (by omega), fun q b11 _ => y2.2 q b11⟩ z3), mf2_tr y4 z4, z5, z6, z7, z8⟩
    -- the rows with the new token
    have tok : ∀ Iz : dI, Iz 110 = I2 110 → Iz 111 = I2 111 → ∀ i, i < t → (tkI Iz t κ) 110 i = Im 110 i ∧ (tkI Iz t κ) 111 i = Im 111 i ∧ (sJ J2 113 t (J2 92 27)) 113 i = Jm 113 i := by
      intro Iz z1 z2 i hi
      rw [tkI_110 hi, tkI_111 hi, z1, z2, e110, e111, sJ_nk (by omega), e113]
      exact ⟨rfl, rfl, rfl⟩
    have hmf : MF2 Im Jm (tkI I2 t κ) (sJ J2 113 t (J2 92 27)) := mf2_j (mf2_s (mf2_s (mf2_s hm2 (by omega)) (by omega)) (by omega))
    have plain : kc ≠ 11 → kc ≠ 13 → kc ≠ 10 → kc ≠ 12 → b_100_24 (g + 1) (nn n) (nn (mst st)) Im Jm = b_100_24 g (nn (n + 1)) (nn (stM κ)) (tkI I2 t κ) (sJ J2 113 t (J2 92 27)) := by
      intro x1 x2 x3 x4
      rw [hmod, hsh0 x1 x2, hop, if_neg (by omega), rd_plain i26, rd_360 i24 m22 (by omega) hκ]
    have pcont : ∀ st' z' W' O' Ix Jx, kc ≠ 11 → kc ≠ 13 → kc ≠ 10 → kc ≠ 12 → n < 40 → stM κ = mst st' → st' ≤ 3 → m_76 (nn kc) I1 J1 = some (Ix, Jx) → BFr I1 J1 Ix Jx → CSt Ix Jx ((tkI I2 t κ) 110) ((tkI I2 t κ) 111) ((sJ J2 113 t (J2 92 27)) 113) (t + 1) (n + 1) Bs W' O' z' st' → Nx Ix (n + 1) st' B → Rz (b_41_6 (f + 1) (nn turn) Ic Jc) (b_100_24 (g + 1) (nn n) (nn (mst st)) Im Jm) Ic Jc Im Jm := by
      intro st' z' W' O' Ix Jx x1 x2 x3 x4 x5 x6 x7 x8 x9 x10 x11
      refine cont (n + 1) st' z' W' O' B Bs Ix Jx _ _ x8 x9 (by rw [← x6]; exact plain x1 x2 x3 x4) hmf (by omega) x7 x10 x11 (brk_tok (fun i hi => (tok I2 rfl rfl i hi).1) B Bs a13 a11) a12 (fun x hx => by have := a13 x hx; omega) ?_ sI_eq ?_ ?_ ?_
      · rw [tkI_92 (by omega)]; exact m21'
      · rw [tkI_92 (by omega)]; exact i25
      · rw [tkI_ne (by omega) (by omega) (by omega), e112]; exact a16
      · rw [tkI_92 (by omega)]; exact i26
    have hC2 := cst_tok (tk' := (tkI I2 t κ) 110) (tp' := (tkI I2 t κ) 111) (tn' := (sJ J2 113 t (J2 92 27)) 113) (tok I2 rfl rfl) hC1
    have fit0 : kc ≠ 11 → kc ≠ 13 → ¬ (16 ≤ kc ∧ kc ≤ 33 ∧ st = 1) → kc ≠ 10 → kc ≠ 12 → st = 0 := by
      intro x1 x2 x3 x4 x5
      have hfo : fitC st kc B = 1 := hf1
      unfold fitC foC at hfo
      refine Classical.byContradiction fun s0 => ?_
      rw [if_neg s0] at hfo
      by_cases s2 : st = 2
      · rw [if_pos s2, if_neg x4] at hfo; omega
      · rw [if_neg s2] at hfo
        by_cases s3 : st = 3
        · rw [if_pos s3, if_neg x5] at hfo; omega
        · rw [if_neg s3, if_neg hkc0, if_neg x1, if_neg x2, if_neg (by omega)] at hfo
          omega
    by_cases k345 : kc = 3 ∨ kc = 4 ∨ kc = 5
    · -- a leaf
      have s0 := fit0 (by omega) (by omega) (by omega) (by omega) (by omega)
      subst s0
      have hleaf : Leaf (nn kc) (J1 18 4) ((tkI I2 t κ) 110 t) ((sJ J2 113 t (J2 92 27)) 113 t) := by
        rw [tkI_110t, sJ_eq, hv]
        rcases htr with ⟨b1, b2⟩ | ⟨b1, b2, b3⟩ | ⟨b1, b2, b3, z0, b4, b5⟩ | ⟨b1, b2, b3⟩ | ⟨b1, b2, b3⟩ | ⟨b1, b2, b3⟩ | ⟨b1, b2⟩ | ⟨b1, b2⟩ | ⟨b1, b2⟩ | ⟨b1, b2⟩ | ⟨b1, b2⟩ | ⟨b1, b2⟩ | ⟨b1, b2, b3⟩
        · omega
        · exact Or.inl ⟨by rw [b1], by rw [b2], by rw [b3, m27 (by omega)]⟩
        · exact Or.inr (Or.inl ⟨by rw [b1], by rw [b2], by rw [b3, m27 (by omega)], z0, b4, by rw [m27 (by omega)]; exact b5⟩)
        · exact Or.inr (Or.inr (Or.inl ⟨by rw [b1], by rw [b2], b3⟩))
        · exact Or.inr (Or.inr (Or.inr (Or.inl ⟨by rw [b1], by rw [b2], b3⟩)))
        · exact Or.inr (Or.inr (Or.inr (Or.inr ⟨by congr 1; omega, by congr 1; omega⟩)))
        all_goals omega
      obtain ⟨Ix, Jx, q1, q2, q3, q4⟩ := tk_leaf (by omega) k345 hC2 hN1 hleaf
      refine pcont 1 _ _ _ Ix Jx (by omega) (by omega) (by omega) (by omega) (by omega) ?_ (by omega) q1 q2 q3 q4
      unfold stM
      rw [if_neg (by omega), if_neg (by omega), if_pos (by omega)]
      rfl
    by_cases k69 : 6 ≤ kc ∧ kc ≤ 9
    · have s0 := fit0 (by omega) (by omega) (by omega) (by omega) (by omega)
      subst s0
      obtain ⟨Ix, Jx, q1, q2, q3, q4⟩ := tk_kw (by omega) a12 k69 hC2 hN1 (by rw [tkI_110t]; congr 1; omega)
      refine pcont _ _ _ _ Ix Jx (by omega) (by omega) (by omega) (by omega) (by omega) ?_ (by split <;> omega) q1 q2 q3 q4
      unfold stM
      by_cases c : kc ≤ 7
      · rw [if_pos c, if_pos (by omega)]
        rfl
      · rw [if_neg c, if_neg (by omega), if_pos (by omega)]
        rfl
    by_cases kpre : (kc = 14 ∨ kc = 15 ∨ kc = 30) ∧ st = 0
    · obtain ⟨kp, s0⟩ := kpre
      subst s0
      obtain ⟨w', hw'⟩ : ∃ w', (kc = 14 ∧ w' = 14) ∨ (kc = 15 ∧ w' = 15) ∨ (kc = 30 ∧ w' = 35) := by
        rcases kp with k | k | k
        · exact ⟨14, Or.inl ⟨k, rfl⟩⟩
        · exact ⟨15, Or.inr (Or.inl ⟨k, rfl⟩)⟩
        · exact ⟨35, Or.inr (Or.inr ⟨k, rfl⟩)⟩
      have hpf : Pref (nn w') ((tkI I2 t κ) 110 t) := by
        rw [tkI_110t]
        rcases hw' with ⟨b1, b2⟩ | ⟨b1, b2⟩ | ⟨b1, b2⟩
        · exact Or.inr (Or.inl ⟨by rw [b2], by congr 1; omega⟩)
        · exact Or.inr (Or.inr ⟨by rw [b2], by congr 1; omega⟩)
        · exact Or.inl ⟨by rw [b2], by congr 1; omega⟩
      obtain ⟨Ix, Jx, q1, q2, q3, q4⟩ := tk_pre (by omega) a12 hw' hC2 hN1 hpf
      refine pcont 0 _ _ _ Ix Jx (by omega) (by omega) (by omega) (by omega) (by omega) ?_ (by omega) q1 q2 q3 q4
      unfold stM
      rw [if_neg (by omega), if_neg (by omega), if_neg (by omega)]
      rfl
    by_cases kbin : 16 ≤ kc ∧ kc ≤ 33
    · have s1 : st = 1 := by
        refine Classical.byContradiction fun s1 => ?_
        have hfo : fitC st kc B = 1 := hf1
        unfold fitC bgC at hfo
        by_cases s0 : st = 0
        · rw [if_pos s0, if_neg (by omega)] at hfo; omega
        · rw [if_neg s0] at hfo
          by_cases s2 : st = 2
          · rw [if_pos s2, if_neg (by omega)] at hfo; omega
          · rw [if_neg s2] at hfo
            by_cases s3 : st = 3
            · rw [if_pos s3, if_neg (by omega)] at hfo; omega
            · omega
      subst s1
      have hkk : kc = κ + 6 := by omega
      obtain ⟨Ix, Jx, W', O', z', q1, q2, q3, q4⟩ := tk_bin (n := n) (κ := κ) (by omega) a12 (by omega) (by omega) hC2 hN1 tkI_110t
      rw [← hkk] at q1
      refine pcont 0 _ _ _ Ix Jx (by omega) (by omega) (by omega) (by omega) (by omega) ?_ (by omega) q1 q2 q3 q4
      unfold stM
      rw [if_neg (by omega), if_neg (by omega), if_neg (by omega)]
      rfl
    by_cases kop : kc = 10 ∨ kc = 12
    · -- a bracket opens
      have hst' : (kc = 10 ∧ κ = 30 ∧ (st = 0 ∨ st = 2)) ∨ (kc = 12 ∧ κ = 32 ∧ (st = 0 ∨ st = 3)) := by
        have hfo : fitC st kc B = 1 := hf1
        unfold fitC foC at hfo
        by_cases s0 : st = 0
        · omega
        · rw [if_neg s0] at hfo
          by_cases s2 : st = 2
          · rw [if_pos s2] at hfo
            by_cases c : kc = 10
            · omega
            · rw [if_neg c] at hfo; omega
          · rw [if_neg s2] at hfo
            by_cases s3 : st = 3
            · rw [if_pos s3] at hfo
              by_cases c : kc = 12
              · omega
              · rw [if_neg c] at hfo; omega
            · rw [if_neg s3, if_neg (by omega), if_neg (by omega), if_neg (by omega), if_neg (by omega)] at hfo
              omega
      have hb8 : Bs.length < 8 := by omega
      have hop' : b_100_24 (g + 1) (nn n) (nn (mst st)) Im Jm = b_100_24 g (nn (n + 1)) (nn (mst 0)) (tkI (sI (sI I2 112 Bs.length (nn t)) 92 25 (nn (Bs.length + 1))) t κ) (sJ J2 113 t (J2 92 27)) := by
        rw [hmod, hsh0 (by omega) (by omega), hop, if_pos kop, rd_open i26 i25 i24 hb8, rd_360 (t := t) (κ := κ) (by rw [sI_nk (by omega), sI_ne (by omega)]; exact i24) (by rw [sI_nk (by omega), sI_ne (by omega)]; exact m22) (by omega) hκ]
        have e0 : stM κ = mst 0 := by
          unfold stM
          rw [if_neg (by omega), if_neg (by omega), if_neg (by omega)]
          rfl
        rw [e0]
      generalize hIz : sI (sI I2 112 Bs.length (nn t)) 92 25 (nn (Bs.length + 1)) = Iz at hop'
      have z110 : Iz 110 = I2 110 := by rw [← hIz, sI_ne (by omega), sI_ne (by omega)]
      have z111 : Iz 111 = I2 111 := by rw [← hIz, sI_ne (by omega), sI_ne (by omega)]
      have hC3 := cst_tok (tk' := (tkI Iz t κ) 110) (tp' := (tkI Iz t κ) 111) (tn' := (sJ J2 113 t (J2 92 27)) 113) (tok Iz z110 z111) hC1
      obtain ⟨Ix, Jx, W', q1, q2, q3, q4⟩ := tk_open (by omega) hb8 hlen hst' hC3 hN1 tkI_110t
      refine cont (n + 1) 0 _ W' _ (kc :: B) (t :: Bs) Ix Jx _ _ q1 q2 hop' ?_ (by omega) (by omega) q3 q4 ⟨?_, brk_tok (fun i hi => (tok Iz z110 z111 i hi).1) B Bs a13 a11⟩ (by rw [List.length_cons]; omega) (fun x hx => ?_) ?_ sI_eq ?_ ⟨?_, ?_⟩ ?_
      · rw [← hIz]
        exact mf2_j (mf2_s (mf2_s (mf2_s (mf2_s (mf2_s hm2 (by omega)) (by omega)) (by omega)) (by omega)) (by omega))
      · rw [tkI_110t]
        rcases hst' with ⟨b1, b2, _⟩ | ⟨b1, b2, _⟩
        · exact Or.inl ⟨b1, by rw [b2]⟩
        · exact Or.inr ⟨b1, by rw [b2]⟩
      · rcases List.mem_cons.mp hx with e | e
        · omega
        · have := a13 x e; omega
      · rw [tkI_92 (by omega), ← hIz, sI_nk (by omega), sI_ne (by omega)]; exact m21'
      · rw [tkI_92 (by omega), ← hIz, sI_eq, List.length_cons]
      · rw [tkI_ne (by omega) (by omega) (by omega), ← hIz, sI_ne (by omega), sI_eq]
      · refine pil_eq Bs (fun i hi => ?_) a16
        rw [tkI_ne (by omega) (by omega) (by omega), ← hIz, sI_ne (by omega), sI_nk (by omega), e112]
      · rw [tkI_92 (by omega), ← hIz, sI_nk (by omega), sI_ne (by omega)]; exact i26
    -- a bracket closes
    have kcl : kc = 11 ∨ kc = 13 := by
      by_cases kp : kc = 14 ∨ kc = 15 ∨ kc = 30
      · exfalso
        have := fit0 (by omega) (by omega) (by omega) (by omega) (by omega)
        exact kpre ⟨kp, this⟩
      · omega
    have hsh1 : st = 1 ∧ shB st κ B = 1 := by
      have hfo : fitC st kc B = 1 := hf1
      unfold fitC bgC foC at hfo
      by_cases s0 : st = 0
      · rw [if_pos s0, if_neg (by omega)] at hfo; omega
      · rw [if_neg s0] at hfo
        by_cases s2 : st = 2
        · rw [if_pos s2, if_neg (by omega)] at hfo; omega
        · rw [if_neg s2] at hfo
          by_cases s3 : st = 3
          · rw [if_pos s3, if_neg (by omega)] at hfo; omega
          · rw [if_neg s3, if_neg hkc0] at hfo
            refine ⟨by omega, ?_⟩
            unfold shB
            rw [if_pos]
            refine ⟨by omega, ?_⟩
            by_cases k11 : kc = 11
            · rw [if_pos k11] at hfo
              by_cases tb : topB B = 10
              · exact Or.inl ⟨tb, by omega⟩
              · rw [if_neg tb] at hfo; omega
            · rw [if_neg k11, if_pos (show kc = 13 by omega)] at hfo
              by_cases tb : topB B = 12
              · exact Or.inr ⟨tb, by omega⟩
              · rw [if_neg tb] at hfo; omega
    obtain ⟨s1, hsh1⟩ := hsh1
    subst s1
    cases Bs with
    | nil =>
      exfalso
      cases B with
      | nil =>
        unfold shB at hsh1
        rw [if_neg (fun x => by
          have h0 : topB ([] : List Nat) = 0 := rfl
          rw [h0] at x
          omega)] at hsh1
        omega
      | cons b B => exact a11.elim
    | cons p Bs =>
      cases B with
      | nil => exact a11.elim
      | cons b B =>
        rw [List.length_cons] at a12 i25 hlen
        rw [List.length_cons] at hlen
        have hpt := a13 p List.mem_cons_self
        have hp112 : I2 112 Bs.length = nn p := by rw [e112]; exact a16.1
        have h111 := rd_111 (J := J2) (b := Bs.length) (p := p) (t := t) (κ := κ) i25 (by omega) hp112 hpt i24 m22 (by omega)
        have hcl : b_100_24 (g + 1) (nn n) (nn (mst 1)) Im Jm = b_100_24 g (nn n) (nn (mst 1)) (shI I2 Bs.length p t κ) (sJ J2 113 t (J2 92 27)) := by
          rw [hmod, hsh1, rd_shut i26 h111]
        have s110 : ∀ i, (shI I2 Bs.length p t κ) 110 i = (tkI (sI (sI I2 92 25 (nn Bs.length)) 111 p (nn t)) t κ) 110 i := fun i => by rw [shI, sI_ne (by omega)]
        have s110a : ∀ i, i < t → (shI I2 Bs.length p t κ) 110 i = Im 110 i := fun i hi => by rw [s110, tkI_110 hi, sI_ne (by omega), sI_ne (by omega), e110]
        have s110t : (shI I2 Bs.length p t κ) 110 t = nn κ := by rw [s110, tkI_110t]
        have s111 : ∀ i, i < t → i ≠ p → (shI I2 Bs.length p t κ) 111 i = Im 111 i := fun i hi hip => by rw [shI, sI_nk (by omega), tkI_111 hi, sI_nk hip, sI_ne (by omega), e111]
        have s111p : (shI I2 Bs.length p t κ) 111 p = nn t := by rw [shI, sI_nk (by omega), tkI_111 hpt, sI_eq]
        have s92 : ∀ k, k ≠ 24 → k ≠ 25 → (shI I2 Bs.length p t κ) 92 k = I2 92 k := fun k k1 k2 => by rw [shI, sI_ne (by omega), tkI_92 k1, sI_ne (by omega), sI_nk k2]
        have hClo : Clo ((shI I2 Bs.length p t κ) 110 t) := by
          rw [s110t]
          rcases kcl with k | k
          · exact Or.inl (by congr 1; omega)
          · exact Or.inr (by congr 1; omega)
        obtain ⟨Ix, Jx, W', O', z', q1, q2, q3, q4⟩ := tk_close (n := n) (tk' := (shI I2 Bs.length p t κ) 110) (tp' := (shI I2 Bs.length p t κ) 111) (tn' := (sJ J2 113 t (J2 92 27)) 113) a7 (by omega) (show B.length = Bs.length by omega) kcl hC1 hN1 hpt (by omega) (fun i hi hip => ⟨s110a i hi, s111 i hi hip, by rw [sJ_nk (by omega), e113]⟩) ⟨s110a p hpt, s111p⟩ hClo
        refine cont n 1 z' W' O' B Bs Ix Jx _ _ q1 q2 hcl ?_ a7 (by omega) q3 q4 (brk_tok (fun i hi => s110a i hi) B Bs (fun x hx => a13 x (List.mem_cons_of_mem _ hx)) a11.2) (by omega) (fun x hx => by have := a13 x (List.mem_cons_of_mem _ hx); omega) ?_ ?_ ?_ ?_ ?_
        · exact mf2_j (mf2_s (mf2_s (mf2_s (mf2_s (mf2_s (mf2_s hm2 (by omega)) (by omega)) (by omega)) (by omega)) (by omega)) (by omega))
        · rw [s92 21 (by omega) (by omega)]; exact m21'
        · rw [shI, sI_ne (by omega), tkI, sI_eq]
        · rw [shI, sI_ne (by omega), tkI_92 (by omega), sI_ne (by omega), sI_eq]
        · refine pil_eq Bs (fun i hi => ?_) a16.2
          rw [shI, sI_ne (by omega), tkI_ne (by omega) (by omega) (by omega), sI_ne (by omega), sI_ne (by omega), e112]
        · rw [s92 26 (by omega) (by omega)]; exact i26
