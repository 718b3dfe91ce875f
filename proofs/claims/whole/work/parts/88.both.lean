/-! Both sides see the same fits and faults. -/
def mst (st : Nat) : Nat := if st = 2 then 3 else if st = 3 then 2 else st
def TRn (kc κ : Nat) : Prop := (kc = 2 ∧ κ = 0) ∨ (kc = 3 ∧ κ = 1) ∨ (kc = 4 ∧ 2 ≤ κ ∧ κ ≤ 4) ∨ (kc = κ ∧ 5 ≤ κ ∧ κ ≤ 9) ∨ (kc = 10 ∧ κ = 30) ∨ (kc = 11 ∧ κ = 31) ∨ (kc = 12 ∧ κ = 32) ∨ (kc = 13 ∧ κ = 33) ∨ (kc = 14 ∧ κ = 28) ∨ (kc = 15 ∧ κ = 29) ∨ (kc = κ + 6 ∧ 10 ≤ κ ∧ κ ≤ 27)
theorem tr_num {kc κ : Nat} {v w : Int64} (h : TR kc v κ w) : TRn kc κ := by
  unfold TRn
  rcases h with ⟨a, b⟩ | ⟨a, b, _⟩ | ⟨a, b, _⟩ | ⟨a, b, _⟩ | ⟨a, b, _⟩ | ⟨a, b, c⟩ | ⟨a, b⟩ | ⟨a, b⟩ | ⟨a, b⟩ | ⟨a, b⟩ | ⟨a, b⟩ | ⟨a, b⟩ | ⟨a, b, c⟩ <;> omega
theorem bg_eq {kc κ : Nat} (h : TRn kc κ) : bgC kc = bgM κ := by
  unfold TRn at h
  unfold bgC bgM
  by_cases c : κ < 10 ∨ κ = 24 ∨ κ = 28 ∨ κ = 29 ∨ κ = 30 ∨ κ = 32
  · rw [if_pos c, if_pos (by omega)]
  · rw [if_neg c, if_neg (by omega)]
def shB (st κ : Nat) (B : List Nat) : Nat := if st = 1 ∧ ((topB B = 10 ∧ κ = 31) ∨ (topB B = 12 ∧ κ = 33)) then 1 else 0
theorem fit_eq {kc κ st : Nat} {B : List Nat} (hst : st ≤ 3) (h : TRn kc κ) : fitM (mst st) κ (shB st κ B) = fitC st kc B := by
  have hb := bg_eq h
  unfold TRn at h
  have h34 : ¬ κ = 34 := by omega
  have h4 : st = 0 ∨ st = 1 ∨ st = 2 ∨ st = 3 := by omega
  unfold fitM
  rw [if_neg h34]
  rcases h4 with rfl | rfl | rfl | rfl
  · show (if (0 : Nat) = 0 then bgM κ else _) = (if (0 : Nat) = 0 then bgC kc else _)
    rw [if_pos rfl, if_pos rfl, hb]
  · show (if (1 : Nat) = 0 then bgM κ else if (1 : Nat) = 1 then (if 10 ≤ κ ∧ κ ≤ 27 then 1 else shB 1 κ B) else _) = foC kc B
    rw [if_neg (show ¬ (1 : Nat) = 0 by omega), if_pos (show (1 : Nat) = 1 from rfl)]
    unfold foC shB
    rw [if_neg (show ¬ kc = 0 by omega)]
    by_cases c11 : kc = 11
    · rw [if_pos c11, if_neg (show ¬ (10 ≤ κ ∧ κ ≤ 27) by omega)]
      by_cases c : topB B = 10
      · rw [if_pos c, if_pos ⟨rfl, Or.inl ⟨c, by omega⟩⟩]
      · rw [if_neg c, if_neg (fun x => by omega)]
    · rw [if_neg c11]
      by_cases c13 : kc = 13
      · rw [if_pos c13, if_neg (show ¬ (10 ≤ κ ∧ κ ≤ 27) by omega)]
        by_cases c : topB B = 12
        · rw [if_pos c, if_pos ⟨rfl, Or.inr ⟨c, by omega⟩⟩]
        · rw [if_neg c, if_neg (fun x => by omega)]
      · rw [if_neg c13]
        by_cases c : 16 ≤ kc ∧ kc ≤ 33
        · rw [if_pos c, if_pos (by omega)]
        · rw [if_neg c, if_neg (by omega), if_neg (fun x => by omega)]
  · show (if (3 : Nat) = 0 then bgM κ else if (3 : Nat) = 1 then _ else if (3 : Nat) = 2 then _ else (if κ = 30 then 1 else 0)) = (if kc = 10 then 1 else 0)
    rw [if_neg (show ¬ (3 : Nat) = 0 by omega), if_neg (show ¬ (3 : Nat) = 1 by omega), if_neg (show ¬ (3 : Nat) = 2 by omega)]
    by_cases c : kc = 10
    · rw [if_pos c, if_pos (by omega)]
    · rw [if_neg c, if_neg (by omega)]
  · show (if (2 : Nat) = 0 then bgM κ else if (2 : Nat) = 1 then _ else if (2 : Nat) = 2 then (if κ = 32 then 1 else 0) else _) = (if kc = 12 then 1 else 0)
    rw [if_neg (show ¬ (2 : Nat) = 0 by omega), if_neg (show ¬ (2 : Nat) = 1 by omega), if_pos (show (2 : Nat) = 2 from rfl)]
    by_cases c : kc = 12
    · rw [if_pos c, if_pos (by omega)]
    · rw [if_neg c, if_neg (by omega)]
theorem fit_no {st : Nat} {B : List Nat} (hst : st ≤ 3) : fitC st 1 B = 0 := by
  have h4 : st = 0 ∨ st = 1 ∨ st = 2 ∨ st = 3 := by omega
  rcases h4 with rfl | rfl | rfl | rfl <;> rfl
def Brk (tk : Nat → Int32) : List Nat → List Nat → Prop
  | [], [] => True
  | b :: B, p :: Bs => ((b = 10 ∧ tk p = nn 30) ∨ (b = 12 ∧ tk p = nn 32)) ∧ Brk tk B Bs
  | _, _ => False
theorem brk_len {tk : Nat → Int32} : ∀ B Bs, Brk tk B Bs → B.length = Bs.length := by
  intro B
  induction B with
  | nil =>
    intro Bs h
    cases Bs with
    | nil => rfl
    | cons p Bs => exact h.elim
  | cons b B ih =>
    intro Bs h
    cases Bs with
    | nil => exact h.elim
    | cons p Bs =>
      rw [List.length_cons, List.length_cons, ih Bs h.2]
theorem brk_in {tk : Nat → Int32} : ∀ B Bs, Brk tk B Bs → ∀ x, x ∈ B → x = 10 ∨ x = 12 := by
  intro B
  induction B with
  | nil => intro Bs h x hx; cases hx
  | cons b B ih =>
    intro Bs h x hx
    cases Bs with
    | nil => exact h.elim
    | cons p Bs =>
      rcases List.mem_cons.mp hx with e | e
      · rcases h.1 with h1 | h1
        · exact Or.inl (e.trans h1.1)
        · exact Or.inr (e.trans h1.1)
      · exact ih Bs h.2 x e
theorem brk_tok {tk tk' : Nat → Int32} {t : Nat} (ht : ∀ i, i < t → tk' i = tk i) : ∀ B Bs, (∀ x, x ∈ Bs → x < t) → Brk tk B Bs → Brk tk' B Bs := by
  intro B
  induction B with
  | nil =>
    intro Bs _ h
    cases Bs with
    | nil => exact True.intro
    | cons p Bs => exact h.elim
  | cons b B ih =>
    intro Bs hb h
    cases Bs with
    | nil => exact h.elim
    | cons p Bs =>
      refine ⟨?_, ih Bs (fun x hx => hb x (List.mem_cons_of_mem _ hx)) h.2⟩
      rw [ht p (hb p List.mem_cons_self)]
      exact h.1
theorem rd_31 {s j f n st κ : Nat} {T : Nat → Nat} {B Bs : List Nat} {I I2 : dI} {J J2 : dJ} {h24 : Int32 → Int32 → dI → dJ → Option (Int32 × dI × dJ)} (hT : Txm s T I) (hj : j < s) (h32 : T j ≠ 32) (h21 : I 92 21 = nn j) (h102 : m_102 I J = some (I2, J2)) (hst : st ≤ 3) (hκ : κ < 100) (h22 : I2 92 22 = nn κ) (h25 : I2 92 25 = nn Bs.length) (hB8 : Bs.length ≤ 8) (hpl : pil (I2 112) Bs) (hBt : ∀ x, x ∈ Bs → x < 120) (hBk : Brk (I2 110) B Bs) : b_100_31 h24 (f + 1) (nn n) (nn (mst st)) I J = b_100_127 h24 (nn n) (nn (mst st)) (nn (shB st κ B)) I2 J2 := by
  have hs := hT.2.1
  have hc := hT.2.2 j hj
  have e0 : m_101 (I 92 21) I J = some (nn (T j)) := by rw [h21, m101_eq hT (by omega), ch_in hj]
  have n32 : ¬ nn (T j) = 32 := ne_nn (k := 32) (by omega) (by omega) h32
  have ne : ¬ I 92 21 = I 92 1 := by
    rw [h21, hT.1, nn_eq (by omega) (by omega)]
    omega
  rw [b_100_31, e0, Option.bind_some, if_pos n32, if_pos ne, h102, Option.bind_some]
  dsimp only
  by_cases h1 : st = 1
  · subst h1
    have em : nn (mst 1) = nn 1 := rfl
    rw [em, if_neg (fun x => x (show nn 1 = 1 from rfl))]
    cases Bs with
    | nil =>
      cases B with
      | nil =>
        rw [if_pos (show I2 92 25 ≤ 0 by rw [h25]; decide)]
        rfl
      | cons b B => exact hBk.elim
    | cons p Bs =>
      cases B with
      | nil => exact hBk.elim
      | cons b B =>
        obtain ⟨k1, _⟩ := hBk
        obtain ⟨g1, _⟩ := hpl
        rw [List.length_cons] at hB8 h25
        have hp := hBt p List.mem_cons_self
        have e1 : I2 92 25 - 1 = nn Bs.length := by rw [h25, nn_l, nn_sub (by omega), Nat.add_sub_cancel]
        have e2 : Int32.toNatClampNeg (I2 92 25 - 1) = Bs.length := by rw [e1, nn_cl (by omega)]
        have e3 : I2 112 (Int32.toNatClampNeg (I2 92 25 - 1)) = nn p := by rw [e2]; exact g1
        have e4 : Int32.toNatClampNeg (I2 112 (Int32.toNatClampNeg (I2 92 25 - 1))) = p := by rw [e3, nn_cl (by omega)]
        rw [if_neg (show ¬ I2 92 25 ≤ 0 by rw [h25, nn_l, nn_le (by omega) (by omega)]; omega), if_pos (show ¬ (I2 92 25 - 1 < 0 ∨ 10 ≤ Int32.toNatClampNeg (I2 92 25 - 1)) by rw [e1, nn_cl (by omega), nn_l, nn_lt (by omega) (by omega)]; omega), if_pos (show ¬ (I2 112 (Int32.toNatClampNeg (I2 92 25 - 1)) < 0 ∨ 120 ≤ Int32.toNatClampNeg (I2 112 (Int32.toNatClampNeg (I2 92 25 - 1)))) by rw [e4, e3, nn_l, nn_lt (by omega) (by omega)]; omega)]
        simp only [e4, h22]
        unfold shB
        have et : topB (b :: B) = b := rfl
        rw [et]
        rcases k1 with ⟨b1, b2⟩ | ⟨b1, b2⟩
        · rw [if_neg (show ¬ ¬ I2 110 p = 30 from fun x => x b2)]
          unfold b_100_119
          by_cases c : κ = 31
          · subst c
            rw [if_neg (fun x => x (show nn 31 = 31 from rfl)), if_pos ⟨rfl, Or.inl ⟨b1, rfl⟩⟩]
            rfl
          · rw [if_pos (show ¬ nn κ = 31 from ne_nn (k := 31) (by omega) (by omega) c), if_neg (fun x => by omega)]
            rfl
        · rw [if_pos (show ¬ I2 110 p = 30 by rw [b2]; decide)]
          unfold b_100_119
          by_cases c : κ = 33
          · subst c
            rw [if_neg (fun x => x (show nn 33 = 33 from rfl)), if_pos ⟨rfl, Or.inr ⟨b1, rfl⟩⟩]
            rfl
          · rw [if_pos (show ¬ nn κ = 33 from ne_nn (k := 33) (by omega) (by omega) c), if_neg (fun x => by omega)]
            rfl
  · have h1' : ¬ nn (mst st) = 1 := by
      refine ne_nn (k := 1) ?_ (by omega) ?_
      · unfold mst
        repeat' split
        all_goals omega
      · unfold mst
        repeat' split
        all_goals omega
    rw [if_pos h1']
    unfold shB
    rw [if_neg (fun x => h1 x.1)]
    rfl
theorem rd_bl {s j n : Nat} {T : Nat → Nat} {J : dJ} {x2 : Int32} {h24 : Int32 → Int32 → dI → dJ → Option (Int32 × dI × dJ)} (hj : j ≤ s) : ∀ d i f I, i + d = j → (∀ x, i ≤ x → x < j → T x = 32) → I 92 21 = nn i → Txm s T I → b_100_31 h24 (f + d) (nn n) x2 I J = b_100_31 h24 f (nn n) x2 (sI I 92 21 (nn j)) J := by
  intro d
  induction d with
  | zero =>
    intro i f I hi hb h21 hT
    have e : i = j := by omega
    subst e
    rw [sI_id h21]
    rfl
  | succ d ih =>
    intro i f I hi hb h21 hT
    have hs := hT.2.1
    have q := ih (i + 1) f (sI I 92 21 (nn (i + 1))) (by omega) (fun x a b => hb x (by omega) b) sI_eq (txm_s (by omega) hT)
    rw [sI_sI] at q
    rw [show f + (d + 1) = f + d + 1 by omega, b_100_31, h21, m101_eq hT (by omega), Option.bind_some, ch_in (by omega), hb i (by omega) (by omega), if_neg (fun x => x (show nn 32 = 32 from rfl)), show (1 : Int32) = nn 1 from rfl, nn_add]
    exact q
