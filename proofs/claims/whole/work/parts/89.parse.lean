/-! Reading a text to its end: both sides. -/
def PI (s : Nat) (T : Nat → Nat) (pos t n z st : Nat) (W O B Bs : List Nat) (Ic : dI) (Jc : dJ) (Im : dI) (Jm : dJ) : Prop := Txc s T Ic ∧ Txm s T Im ∧ Ic 18 2 = nn pos ∧ Im 92 21 = nn pos ∧ pos ≤ s ∧ t ≤ pos ∧ n ≤ 40 ∧ st ≤ 3 ∧ CSt Ic Jc (Im 110) (Im 111) (Jm 113) t n Bs W O z st ∧ Nx Ic n st B ∧ Brk (Im 110) B Bs ∧ Bs.length ≤ 8 ∧ (∀ x, x ∈ Bs → x < t) ∧ Im 92 24 = nn t ∧ Im 92 25 = nn Bs.length ∧ pil (Im 112) Bs ∧ Im 92 26 = nn 0
def BF2 (I : dI) (J : dJ) (I' : dI) (J' : dJ) : Prop := (∀ q, q < 6 ∨ 18 < q → I' q = I q) ∧ (∀ q, q ≠ 11 → q ≠ 18 → J' q = J q)
def MF2 (I : dI) (J : dJ) (I' : dI) (J' : dJ) : Prop := (∀ q, q ≠ 92 → q ≠ 110 → q ≠ 111 → q ≠ 112 → I' q = I q) ∧ (∀ j, j < 21 ∨ 26 < j → I' 92 j = I 92 j) ∧ (∀ q, q ≠ 92 → q ≠ 113 → J' q = J q) ∧ (∀ j, j ≠ 27 → J' 92 j = J 92 j)
theorem bf2_tr {I I1 I2 : dI} {J J1 J2 : dJ} (h : BF2 I J I1 J1) (h' : BF2 I1 J1 I2 J2) : BF2 I J I2 J2 := ⟨fun q a => (h'.1 q a).trans (h.1 q a), fun q a b => (h'.2 q a b).trans (h.2 q a b)⟩
theorem mf2_tr {I I1 I2 : dI} {J J1 J2 : dJ} (h : MF2 I J I1 J1) (h' : MF2 I1 J1 I2 J2) : MF2 I J I2 J2 := ⟨fun q a b c d => (h'.1 q a b c d).trans (h.1 q a b c d), fun j a => (h'.2.1 j a).trans (h.2.1 j a), fun q a b => (h'.2.2.1 q a b).trans (h.2.2.1 q a b), fun j a => (h'.2.2.2 j a).trans (h.2.2.2 j a)⟩
theorem mf2_s {I I1 : dI} {J J1 : dJ} {p k : Nat} {v : Int32} (h : MF2 I J I1 J1) (hp : p = 110 ∨ p = 111 ∨ p = 112 ∨ (p = 92 ∧ 21 ≤ k ∧ k ≤ 26)) : MF2 I J (sI I1 p k v) J1 := by
  refine ⟨fun q a b c d => ?_, fun j a => ?_, h.2.2.1, h.2.2.2⟩
  · rw [sI_ne (by omega)]; exact h.1 q a b c d
  · rw [sI_get, if_neg (by omega)]; exact h.2.1 j a
theorem mf2_j {I I1 : dI} {J J1 : dJ} {k : Nat} {v : Int64} (h : MF2 I J I1 J1) : MF2 I J I1 (sJ J1 113 k v) := by
  refine ⟨h.1, h.2.1, fun q a b => ?_, fun j a => ?_⟩
  · rw [sJ_ne b]; exact h.2.2.1 q a b
  · rw [sJ_ne (by omega)]; exact h.2.2.2 j a
theorem mf2_os {I I1 I2 : dI} {J J1 J2 : dJ} (h : MF2 I J I1 J1) (h' : OS I1 J1 I2 J2) : MF2 I J I2 J2 := ⟨fun q a b c d => ((h'.1 q a).1).trans (h.1 q a b c d), fun j a => (h'.2.1 j (by omega) (by omega) (by omega)).trans (h.2.1 j a), fun q a b => ((h'.1 q a).2).trans (h.2.2.1 q a b), fun j a => (h'.2.2 j a).trans (h.2.2.2 j a)⟩
theorem mf2_r (I : dI) (J : dJ) : MF2 I J I J := ⟨fun _ _ _ _ _ => rfl, fun _ _ => rfl, fun _ _ _ => rfl, fun _ _ => rfl⟩
def Gd (nr : Nat) (Ic : dI) (Jc : dJ) (Im : dI) (Jm : dJ) : Prop := ∃ z t m, Ic 7 4 = nn z ∧ 1 ≤ z ∧ z ≤ 40 ∧ Ic 7 5 = nn nr ∧ Im 92 24 = nn t ∧ t ≤ 120 ∧ OpI Ic Jc (Im 110) (Im 111) (Jm 113) (z - 1) 0 t m ∧ Cov Ic Jc (Im 110) (Im 111) (Jm 113) [] t z
def Rz (X : Option (Int32 × dI × dJ)) (Y : Option (Int32 × dI × dJ)) (Ic : dI) (Jc : dJ) (Im : dI) (Jm : dJ) : Prop := ∃ F Ic' Jc' Im' Jm' nr, X = some (nn F, Ic', Jc') ∧ Y = some (nn nr, Im', Jm') ∧ BF2 Ic Jc Ic' Jc' ∧ MF2 Im Jm Im' Jm' ∧ Im' 92 26 = nn F ∧ F < 2000 ∧ nr ≤ 40 ∧ (F = 0 → Gd nr Ic' Jc' Im' Jm')
theorem cl_flt {f turn kc j F : Nat} {I I1 : dI} {J J1 : dJ} (ht : turn ≤ 120) (h46 : m_46 I J = some (I1, J1)) (hk : I1 18 3 = nn kc) (hj : I1 18 1 = nn j) (h62 : m_62 (nn kc) I1 J1 = some (nn F)) (hF : F ≠ 0) (hF2 : F < 100) : b_41_6 (f + 1) (nn turn) I J = some (nn (F + 8 * j), I1, J1) := by
  rw [b_41_6, if_neg (show ¬ (120 : Int32) < nn turn by rw [nn_l, nn_lt (by omega) (by omega)]; omega), h46, Option.bind_some]
  simp only [hk]
  rw [h62, Option.bind_some, if_neg (show ¬ nn F = 0 from ne_nn (k := 0) (by omega) (by omega) hF), hj, show (8 : Int32) = nn 8 from rfl, nn_mul, nn_add]
theorem cl_go {f turn kc : Nat} {I I1 I2 : dI} {J J1 J2 : dJ} (ht : turn ≤ 120) (h46 : m_46 I J = some (I1, J1)) (hk : I1 18 3 = nn kc) (hkc : kc ≠ 0) (hkc2 : kc < 100) (h62 : m_62 (nn kc) I1 J1 = some (nn 0)) (h76 : m_76 (nn kc) I1 J1 = some (I2, J2)) : b_41_6 (f + 1) (nn turn) I J = b_41_6 f (nn (turn + 1)) I2 J2 := by
  rw [b_41_6, if_neg (show ¬ (120 : Int32) < nn turn by rw [nn_l, nn_lt (by omega) (by omega)]; omega), h46, Option.bind_some]
  simp only [hk]
  rw [h62, Option.bind_some, if_pos (show nn 0 = 0 from rfl), if_pos (show ¬ nn kc = 0 from ne_nn (k := 0) (by omega) (by omega) hkc), h76, Option.bind_some, show (1 : Int32) = nn 1 from rfl, nn_add]
theorem cl_end {f turn : Nat} {I I1 I2 : dI} {J J1 J2 : dJ} (ht : turn ≤ 120) (h46 : m_46 I J = some (I1, J1)) (hk : I1 18 3 = nn 0) (h62 : m_62 (nn 0) I1 J1 = some (nn 0)) (h70 : m_70 (nn 1) I1 J1 = some (I2, J2)) : b_41_6 (f + 1) (nn turn) I J = some (nn 0, I2, J2) := by
  rw [b_41_6, if_neg (show ¬ (120 : Int32) < nn turn by rw [nn_l, nn_lt (by omega) (by omega)]; omega), h46, Option.bind_some]
  simp only [hk]
  rw [h62, Option.bind_some, if_pos (show nn 0 = 0 from rfl), if_neg (fun x => x (show nn 0 = 0 from rfl)), show (1 : Int32) = nn 1 from rfl, h70, Option.bind_some]
  rfl
theorem cst_row {I I' : dI} {J J' : dJ} {tk tp : Nat → Int32} {tn : Nat → Int64} {t C z st : Nat} {Bs W O : List Nat} (row : ∀ q, q ≠ 18 → I' q = I q ∧ J' q = J q) (h : CSt I J tk tp tn t C Bs W O z st) : CSt I' J' tk tp tn t C Bs W O z st := by
  have r := fun q (hq : q ≠ 18) => (row q hq).1
  have j11 := (row 11 (by omega)).2
  obtain ⟨h1, h2, h3, h4, h5, h6, h7, h8⟩ := h
  refine ⟨pil_fr h1 (r 12 (by omega)) (r (12 + 1) (by omega)), pil_fr h2 (r 14 (by omega)) (r (14 + 1) (by omega)), by rw [r 7 (by omega)]; exact h3, h4, h5, h6, cov_row (r 8 (by omega)) (r 9 (by omega)) (r 10 (by omega)) j11 h7, ?_⟩
  have l := fun {W O Bs : List Nat} {e : Nat} (x : LyI I J tk tp tn z W O Bs e) => lyI_row (I' := I') (J' := J') (r 8 (by omega)) (r 9 (by omega)) (r 10 (by omega)) j11 x
  rcases h8 with ⟨s1, s2⟩ | ⟨s1, o, O', a, s2, s3, s4, s5⟩ | ⟨s1, κ, W', s, s2, s3, s4, s5, s6⟩ | ⟨s1, κ, W', s, s2, s3, s4, s5, s6⟩
  · exact Or.inl ⟨s1, l s2⟩
  · exact Or.inr (Or.inl ⟨s1, o, O', a, s2, s3, opI_row (r 8 (by omega)) (r 9 (by omega)) (r 10 (by omega)) j11 s4, l s5⟩)
  · exact Or.inr (Or.inr (Or.inl ⟨s1, κ, W', s, s2, s3, s4, s5, l s6⟩))
  · exact Or.inr (Or.inr (Or.inr ⟨s1, κ, W', s, s2, s3, s4, s5, l s6⟩))
theorem nx_row {I I' : dI} {n st : Nat} {B : List Nat} (r : ∀ q, q ≠ 18 → I' q = I q) (h : Nx I n st B) : Nx I' n st B := by
  obtain ⟨h1, h2, h3⟩ := h
  exact ⟨by rw [r 7 (by omega)]; exact h1, by rw [r 6 (by omega)]; exact h2, pil_fr h3 (r 16 (by omega)) (r (16 + 1) (by omega))⟩
theorem txc_row {s : Nat} {T : Nat → Nat} {I I' : dI} (h1 : I' 1 = I 1) (h2 : I' 2 = I 2) (h : Txc s T I) : Txc s T I' := by
  unfold Txc
  rw [h1, h2]
  exact h
theorem txm_row {s : Nat} {T : Nat → Nat} {I I' : dI} (h1 : I' 92 1 = I 92 1) (h2 : I' 93 = I 93) (h : Txm s T I) : Txm s T I' := by
  unfold Txm
  rw [h1, h2]
  exact h
theorem parse_end {s f gu turn t n z st pos : Nat} {T : Nat → Nat} {W O B Bs : List Nat} {Ic : dI} {Jc : dJ} {Im : dI} {Jm : dJ} (hg : 0 < gu) (htn : turn ≤ pos) (h : PI s T pos t n z st W O B Bs Ic Jc Im Jm) (hbl : ∀ x, pos ≤ x → x < s → T x = 32) : Rz (b_41_6 (f + 1) (nn turn) Ic Jc) (b_100_24 gu (nn n) (nn (mst st)) Im Jm) Ic Jc Im Jm := by
  obtain ⟨a1, a2, a3, a4, a5, a6, a7, a8, a9, a10, a11, a12, a13, a14, a15, a16, a17⟩ := h
  obtain ⟨g, rfl⟩ : ∃ g, gu = g + 1 := ⟨gu - 1, by omega⟩
  have hs := a1.2.1
  have h46 := m46_end (J := Jc) a1 a3 a5 hbl
  have row : ∀ q, q ≠ 18 → (sI (S3 Ic s) 18 3 (nn 0)) q = Ic q ∧ (sJ Jc 18 4 0) q = Jc q := fun q hq => ⟨by rw [sI_ne hq, S3, sI_ne hq, sI_ne hq], sJ_ne hq⟩
  have hN := nx_row (fun q hq => (row q hq).1) a10
  have hC := cst_row row a9
  have h1 : (sI (S3 Ic s) 18 3 (nn 0)) 18 1 = nn s := by rw [sI_nk (by omega)]; exact s3_1
  have h62 := m62_eq (J := sJ Jc 18 4 0) (c := 0) (by omega) a8 a7 hN.2.1 hN.1 hN.2.2 (by rw [brk_len _ _ a11]; exact a12) (brk_in _ _ a11)
  have hb2 : BF2 Ic Jc (sI (S3 Ic s) 18 3 (nn 0)) (sJ Jc 18 4 0) := ⟨fun q hq => (row q (by omega)).1, fun q _ hq => (row q hq).2⟩
  obtain ⟨F1, hF1⟩ : ∃ F1, FU = F1 + 1 + (s - pos) := ⟨4999 - (s - pos), by have : FU = 5000 := rfl; omega⟩
  have hT1 : Txm s T (sI Im 92 21 (nn s)) := txm_s (by omega) a2
  have hmod : b_100_24 (g + 1) (nn n) (nn (mst st)) Im Jm = b_100_426 (nn n) (nn (mst st)) (sI Im 92 21 (nn s)) Jm := by
    rw [b_100_24, if_neg (show ¬ ¬ Im 92 26 = 0 from fun x => x a17), hF1, rd_bl (Nat.le_refl s) (s - pos) pos (F1 + 1) Im (by omega) hbl a4 a2, b_100_31, sI_eq, m101_eq hT1 (by omega), Option.bind_some, ch_out (Nat.le_refl s), if_pos (show ¬ nn 0 = 32 by decide), if_neg (show ¬ ¬ nn s = (sI Im 92 21 (nn s)) 92 1 from fun x => x (by rw [sI_nk (by omega)]; exact a2.1.symm))]
  have h26 : (sI Im 92 21 (nn s)) 92 26 = nn 0 := by rw [sI_nk (by omega)]; exact a17
  have h438 : b_100_438 (nn n) (sI Im 92 21 (nn s)) Jm = some (nn n, sI (sI Im 92 21 (nn s)) 92 26 (nn (1 + 8 * s)), Jm) := by
    unfold b_100_438
    rw [sI_nk (by omega), a2.1, show (1 : Int32) = nn 1 from rfl, rd_meet h26, Option.bind_some]
  have bad : fltC st 0 n B = 1 → b_100_426 (nn n) (nn (mst st)) (sI Im 92 21 (nn s)) Jm = some (nn n, sI (sI Im 92 21 (nn s)) 92 26 (nn (1 + 8 * s)), Jm) → Rz (b_41_6 (f + 1) (nn turn) Ic Jc) (b_100_24 (g + 1) (nn n) (nn (mst st)) Im Jm) Ic Jc Im Jm := by
    intro e1 e2
    rw [e1] at h62
    exact ⟨1 + 8 * s, _, _, _, _, n, cl_flt (by omega) h46 sI_eq h1 h62 (by omega) (by omega), hmod.trans e2, hb2, mf2_s (mf2_s (mf2_r Im Jm) (by omega)) (by omega), sI_eq, by omega, a7, fun x => by omega⟩
  have h4 : st = 0 ∨ st = 1 ∨ st = 2 ∨ st = 3 := by omega
  rcases h4 with rfl | rfl | rfl | rfl
  · refine bad rfl ?_
    unfold b_100_426
    rw [if_pos (show ¬ nn (mst 0) = 1 by decide), h438]
  · cases B with
    | nil =>
      cases Bs with
      | nil =>
        obtain ⟨I2, J2, z', m, q1, q2, q3, q4, q5, q6, q7⟩ := tk_end a7 hC
        refine ⟨0, I2, J2, _, _, n, cl_end (by omega) h46 sI_eq h62 q1, hmod.trans ?_, bf2_tr hb2 ⟨fun q hq => q2.1 q (by omega) (by omega) (by omega) (by omega) (by omega) (by omega) (by omega) (by omega), fun q b11 _ => q2.2.2 q b11⟩, mf2_s (mf2_r Im Jm) (by omega), h26, by omega, a7, fun _ => ⟨z', t, m, q3, q4, q5, ?_, ?_, by omega, ?_, ?_⟩⟩
        · unfold b_100_426
          rw [if_neg (fun x => x (show nn (mst 1) = 1 from rfl)), if_pos (show (sI Im 92 21 (nn s)) 92 25 ≤ 0 by rw [sI_nk (by omega), a15]; decide)]
        · rw [q2.2.1 5 (by omega)]; exact hN.1
        · rw [sI_nk (by omega)]; exact a14
        · rw [sI_ne (by omega), sI_ne (by omega)]; exact q6
        · rw [sI_ne (by omega), sI_ne (by omega)]; exact q7
      | cons p Bs => exact a11.elim
    | cons b B =>
      cases Bs with
      | nil => exact a11.elim
      | cons p Bs =>
        rw [List.length_cons] at a15 a12
        refine bad rfl ?_
        unfold b_100_426
        rw [if_neg (fun x => x (show nn (mst 1) = 1 from rfl)), if_neg (show ¬ (sI Im 92 21 (nn s)) 92 25 ≤ 0 by rw [sI_nk (by omega), a15, nn_l, nn_le (by omega) (by omega)]; omega), h438]
  · refine bad rfl ?_
    unfold b_100_426
    rw [if_pos (show ¬ nn (mst 2) = 1 by decide), h438]
  · refine bad rfl ?_
    unfold b_100_426
    rw [if_pos (show ¬ nn (mst 3) = 1 by decide), h438]
