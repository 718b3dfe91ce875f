/-! Both evaluators give the same. -/
def SimE (p k sz : Nat) (Ic : dI) (Jc : dJ) (Im : dI) (Jm : dJ) : Prop := 5 < p ∧ k < 8 ∧ Ic (p + 1) 4 = nn sz ∧ sz ≤ 40 ∧ (∀ r, r < 34 → Im 94 r = Ic 4 r) ∧ (∀ w, w < 256 → Im 95 w = Ic 5 w ∧ ∃ b, b < 256 ∧ Ic 5 w = nn b) ∧ Jm 92 5 = Jc 3 2 ∧ Im 97 k = Ic p 4 ∧ (Ic p 4 = nn 0 ∨ Ic p 4 = nn 1)
def Od (p : Nat) (Ic : dI) (Jc : dJ) (Im : dI) (Jm : dJ) (q n a b m : Nat) : Prop := Opd (Ic (p + 1 + 1)) (Ic (p + 1 + 2)) (Ic (p + 1 + 3)) (Jc (p + 1 + 4)) (Im 105) (Im 106) (Jm 107) q n a b m
def Rem (p sz lo hi : Nat) (Ic : dI) (Jc : dJ) (Im : dI) (Jm : dJ) : Prop := Ic p 4 = nn 1 → ∀ q n a b m κ, Od p Ic Jc Im Jm q n a b m → n < sz → lo ≤ a → b ≤ hi → (κ = 8 ∨ κ = 9) → Ic (p + 1 + 1) n = nn κ → Im 105 a = nn κ → Jc (p + 6) n = Jm 108 a
theorem av_eq {c c' : Nat → Int32} {z w : Nat} (hz : z = 1 ∨ z = 2 ∨ z = 4) (hw : w < 256) (hm : w % z = 0) (h : ∀ j, j < 256 → c' j = c j) : av c' z w = av c z w := by
  rcases hz with rfl | rfl | rfl
  · simp only [av, h w hw, Nat.reduceEqDiff, ↓reduceIte]
  · simp only [av, h w hw, h (w + 1) (by omega), Nat.reduceEqDiff, ↓reduceIte]
  · simp only [av, h w hw, h (w + 1) (by omega), h (w + 2) (by omega), h (w + 3) (by omega)]
theorem sim {p k sz lo hi : Nat} {Ic : dI} {Jc : dJ} {Im : dI} {Jm : dJ} (E : SimE p k sz Ic Jc Im Jm) (hh : hi ≤ 960) (hR : Rem p sz lo hi Ic Jc Im Jm) : ∀ q n a b m, Od p Ic Jc Im Jm q n a b m → n < sz → lo ≤ a → b ≤ hi → ∃ v e g, CR p Ic Jc n v e g ∧ MR (nn k) Im Jm n a b v e g ∧ (e = nn 0 ∨ e = nn 1 ∨ e = nn 2) := by
  obtain ⟨hp, h8, hz, hs, hrg, hce, hct, hwb, hw01⟩ := E
  intro q
  induction q with
  | zero => intro n a b m h; exact h.elim
  | succ q ih =>
    intro n a b m h hn hlo hhi
    have hb : b ≤ 960 := by omega
    have hOd := h
    have hab := opd_lt h
    have hLn : 10 ≤ m → ∀ I J, Ag Im Jm I J → Ln I J a b := by
      intro hm I J hA x
      refine least_none (K := Ic (p + 1 + 1)) (L := Ic (p + 1 + 2)) (R := Ic (p + 1 + 3)) (V := Jc (p + 1 + 4)) (tn := Jm 107) (q := q + 1) (n := n) (m := m) ?_ hm hb
      rw [sI_ne (by omega), sI_ne (by omega), hA.1 105 (by omega) (by omega), hA.1 106 (by omega) (by omega)]
      exact hOd
    rcases h with ⟨h1, h2, h3⟩ | ⟨h1, h2, h3, h4, h5, m', h6⟩ | ⟨h1, c, m', h2, h3, h4, h5, h6, h7⟩ | ⟨h1, h2, h3, h4, h5, h6, c, m', h7, h8', h9⟩ | ⟨h1, ⟨κ, k1, k2, k3, k4⟩, h3, h4, h5, h6, c, m', h7, h8', h9⟩ | ⟨s, κ, c, d, m1, m2, h1, h2, h3, h4, h5, h6, h7, h8', h9, h10, h11, h12, h13, h14, h15⟩
    · rcases h3 with ⟨x1, x2, x3⟩ | ⟨x1, x2, x3, z, z1, z2⟩ | ⟨x1, x2, x3⟩ | ⟨x1, x2, x3⟩ | ⟨x1, x2⟩
      · refine ⟨_, _, _, cr_num hz hs hn x1, mr_leaf hab fun f I J hf hA hT => ?_, Or.inl rfl⟩
        rw [en_num hT (by omega) (by omega) (by omega) hb (by rw [hA.1 105 (by omega) (by omega)]; exact x2) (hLn (by omega) I J hA), hA.2.2.1 107 (by omega) (by omega), x3]
      · refine ⟨_, _, _, cr_reg hz hs hn x1 (x3.trans z2) (by omega) (by omega), mr_leaf hab fun f I J hf hA hT => ?_, Or.inl rfl⟩
        rw [en_reg (z := z) hT (by omega) (by omega) (by omega) hb (by rw [hA.1 105 (by omega) (by omega)]; exact x2) (hLn (by omega) I J hA) (by rw [hA.2.2.1 107 (by omega) (by omega)]; exact z2) (by omega), hA.1 94 (by omega) (by omega), hrg z (by omega)]
      · refine ⟨_, _, _, cr_reg hz hs hn x1 x3 (by omega) (by omega), mr_leaf hab fun f I J hf hA hT => ?_, Or.inl rfl⟩
        rw [en_pc (t := 3) hT (by omega) (by omega) (by omega) hb (by rw [hA.1 105 (by omega) (by omega)]; exact x2) (by omega) (hLn (by omega) I J hA), hA.1 94 (by omega) (by omega), hrg 32 (by omega)]
      · refine ⟨_, _, _, cr_reg hz hs hn x1 x3 (by omega) (by omega), mr_leaf hab fun f I J hf hA hT => ?_, Or.inl rfl⟩
        rw [en_pc (t := 4) hT (by omega) (by omega) (by omega) hb (by rw [hA.1 105 (by omega) (by omega)]; exact x2) (by omega) (hLn (by omega) I J hA), hA.1 94 (by omega) (by omega), hrg 33 (by omega)]
      · refine ⟨_, _, _, cr_cnt hz hs hn x1, mr_leaf hab fun f I J hf hA hT => ?_, Or.inl rfl⟩
        rw [en_cnt hT (by omega) (by omega) (by omega) hb (by rw [hA.1 105 (by omega) (by omega)]; exact x2) (hLn (by omega) I J hA), hA.2.2.2 5 (by omega), hct]
    · obtain ⟨v, e, g, y1, y2, y3⟩ := ih n (a + 1) (b - 1) m' h6 hn (by omega) (by omega)
      exact ⟨v, e, g, y1, mr_par h4 hb h2 h3 y2, y3⟩
    · obtain ⟨v, e, g, y1, y2, y3⟩ := ih c (a + 1) b m' h7 (by omega) (by omega) hhi
      have hp' : ∃ kc t, Ic (p + 1 + 1) n = nn kc ∧ Im 105 a = nn t ∧ ((kc = 35 ∧ t = 24) ∨ (kc = 14 ∧ t = 28) ∨ (kc = 15 ∧ t = 29)) := by
        rcases h4 with ⟨x1, x2⟩ | ⟨x1, x2⟩ | ⟨x1, x2⟩
        · exact ⟨35, 24, x1, x2, by omega⟩
        · exact ⟨14, 28, x1, x2, by omega⟩
        · exact ⟨15, 29, x1, x2, by omega⟩
      obtain ⟨kc, t, x1, x2, x3⟩ := hp'
      refine ⟨_, e, _, cr_pre hz hs hn x1 (by omega) h3 h2 y1, mr_un (e' := e) h2 (Nat.lt_succ_self a) (Nat.le_refl b) h5 (fun f I J hf hA hT => en_pre hT (by omega) (by omega) (by omega) hb (by rw [hA.1 105 (by omega) (by omega)]; exact x2) (by omega) (hLn (by omega) I J hA)) y2 (fun he f I J hf hA hT u1 u2 => ⟨_, _, jn_un (k := kc) hT (by omega) (by omega) u1 (by rw [hA.1 105 (by omega) (by omega)]; exact x2) u2 x3, Or.inl ⟨he, rfl, rfl⟩⟩) (fun _ => rfl), y3⟩
    · obtain ⟨v, e, g, y1, y2, y3⟩ := ih c (a + 1) (b - 1) m' h9 (by omega) (by omega) (by omega)
      have hst : ∀ f I J, f + n ≤ 60 → Ag Im Jm I J → Top I f a b 0 → stp (nn k) I J = some (bg (nl I f a) (f + 1) (a + 1) (b - 1), J) := fun f I J hf hA hT => en_from hT (by omega) (by omega) (by omega) hb (by rw [hA.1 105 (by omega) (by omega)]; exact h3) (hLn (by omega) I J hA)
      by_cases he : e = nn 0
      · by_cases hv : ∃ w, w < 256 ∧ v = Int64.ofNat w ∧ w % 4 = 0
        · obtain ⟨w, w1, w2, w3⟩ := hv
          refine ⟨av (Ic 5) 4 w, nn 0, _, cr_acc hz hs hn h2 (by omega) h8' h7 y1 (fun x => by rw [he, w2]; exact m24_ok (by right; right; exact ⟨rfl, rfl⟩) w1 w3 hp (fun j hj => (hce j hj).2)), mr_un (e' := nn 0) h7 (Nat.lt_succ_self a) (by omega) (by omega) hst y2 (fun _ f I J hf hA hT u1 u2 => ⟨_, _, jn_acc hT (by omega) (by omega) u1 (by rw [hA.1 105 (by omega) (by omega)]; exact h3) u2 (by omega) (by rw [w2]; exact m129_ok (by right; right; exact ⟨rfl, rfl⟩) w1 w3 hT.1 (fun j hj => by rw [hA.1 95 (by omega) (by omega), (hce j hj).1]; exact (hce j hj).2)), Or.inl ⟨rfl, rfl, by rw [hA.1 95 (by omega) (by omega), av_eq (by omega) w1 w3 (fun j hj => (hce j hj).1)]⟩⟩) (fun x => absurd he x), Or.inl rfl⟩
        · refine ⟨0, nn 2, _, cr_acc hz hs hn h2 (by omega) h8' h7 y1 (fun x => by rw [he]; exact m24_bad (by right; right; exact ⟨rfl, rfl⟩) hv), mr_un (e' := nn 2) h7 (Nat.lt_succ_self a) (by omega) (by omega) hst y2 (fun _ f I J hf hA hT u1 u2 => ⟨_, _, jn_acc hT (by omega) (by omega) u1 (by rw [hA.1 105 (by omega) (by omega)]; exact h3) u2 (by omega) (m129_bad (by right; right; exact ⟨rfl, rfl⟩) hv), Or.inr ⟨by decide, rfl, rfl⟩⟩) (fun x => absurd he x), Or.inr (Or.inr rfl)⟩
      · exact ⟨0, e, _, cr_acc hz hs hn h2 (by omega) h8' h7 y1 (fun x => m24_f he), mr_un (e' := e) h7 (Nat.lt_succ_self a) (by omega) (by omega) hst y2 (fun x => absurd x he) (fun _ => rfl), y3⟩
    · obtain ⟨v, e, g, y1, y2, y3⟩ := ih c (a + 2) (b - 1) m' h9 (by omega) (by omega) (by omega)
      by_cases hκ : κ = 6 ∨ κ = 7
      · have hst : ∀ f I J, f + n ≤ 60 → Ag Im Jm I J → Top I f a b 0 → stp (nn k) I J = some (bg (nl I f a) (f + 1) (a + 2) (b - 1), J) := fun f I J hf hA hT => en_acc (t := κ) hT (by omega) (by omega) (by omega) hb (by rw [hA.1 105 (by omega) (by omega)]; exact k4) (by omega) (hLn (by omega) I J hA)
        obtain ⟨z, zk, zt, z12⟩ : ∃ z, Zk κ z ∧ Zt κ z ∧ (z = 1 ∨ z = 2 ∨ z = 4) := by
          rcases hκ with rfl | rfl
          · exact ⟨1, Or.inl ⟨rfl, rfl⟩, Or.inl ⟨rfl, rfl⟩, by omega⟩
          · exact ⟨2, Or.inr (Or.inl ⟨rfl, rfl⟩), Or.inr (Or.inl ⟨rfl, rfl⟩), by omega⟩
        by_cases he : e = nn 0
        · by_cases hv : ∃ w, w < 256 ∧ v = Int64.ofNat w ∧ w % z = 0
          · obtain ⟨w, w1, w2, w3⟩ := hv
            refine ⟨av (Ic 5) z w, nn 0, _, cr_acc hz hs hn k3 (by omega) h8' h7 y1 (fun x => by rw [he, w2]; exact m24_ok zk w1 w3 hp (fun j hj => (hce j hj).2)), mr_un (e' := nn 0) h7 (by omega) (by omega) (by omega) hst y2 (fun _ f I J hf hA hT u1 u2 => ⟨_, _, jn_acc hT (by omega) (by omega) u1 (by rw [hA.1 105 (by omega) (by omega)]; exact k4) u2 (by omega) (by rw [w2]; exact m129_ok zt w1 w3 hT.1 (fun j hj => by rw [hA.1 95 (by omega) (by omega), (hce j hj).1]; exact (hce j hj).2)), Or.inl ⟨rfl, rfl, by rw [hA.1 95 (by omega) (by omega), av_eq z12 w1 w3 (fun j hj => (hce j hj).1)]⟩⟩) (fun x => absurd he x), Or.inl rfl⟩
          · refine ⟨0, nn 2, _, cr_acc hz hs hn k3 (by omega) h8' h7 y1 (fun x => by rw [he]; exact m24_bad zk hv), mr_un (e' := nn 2) h7 (by omega) (by omega) (by omega) hst y2 (fun _ f I J hf hA hT u1 u2 => ⟨_, _, jn_acc hT (by omega) (by omega) u1 (by rw [hA.1 105 (by omega) (by omega)]; exact k4) u2 (by omega) (m129_bad zt hv), Or.inr ⟨by decide, rfl, rfl⟩⟩) (fun x => absurd he x), Or.inr (Or.inr rfl)⟩
        · exact ⟨0, e, _, cr_acc hz hs hn k3 (by omega) h8' h7 y1 (fun x => m24_f he), mr_un (e' := e) h7 (by omega) (by omega) (by omega) hst y2 (fun x => absurd x he) (fun _ => rfl), y3⟩
      · by_cases hκ8 : κ = 8
        · subst hκ8
          rcases hw01 with hw | hw
          · have hst : ∀ f I J, f + n ≤ 60 → Ag Im Jm I J → Top I f a b 0 → stp (nn k) I J = some (bg (nl I f a) (f + 1) (a + 2) (b - 1), J) := fun f I J hf hA hT => en_old0 hT (by omega) (by omega) (by omega) hb (by rw [hA.1 105 (by omega) (by omega)]; exact k4) (hLn (by omega) I J hA) h8 (by rw [hA.1 97 (by omega) (by omega), hwb]; exact hw)
            exact ⟨v, e, _, cr_old0 hz hs hn k3 h8' h7 hw y1, mr_un (e' := e) h7 (by omega) (by omega) (by omega) hst y2 (fun he f I J hf hA hT u1 u2 => ⟨_, _, jn_old hT (by omega) (by omega) u1 (by rw [hA.1 105 (by omega) (by omega)]; exact k4) u2, Or.inl ⟨he, rfl, rfl⟩⟩) (fun _ => rfl), y3⟩
          · refine ⟨_, nn 0, _, cr_old1 hz hs hn k3 hw, mr_leaf hab fun f I J hf hA hT => ?_, Or.inl rfl⟩
            rw [en_old1 hT (by omega) (by omega) (by omega) hb (by rw [hA.1 105 (by omega) (by omega)]; exact k4) (hLn (by omega) I J hA) h8 (by rw [hA.1 97 (by omega) (by omega), hwb]; exact hw), hA.2.2.1 108 (by omega) (by omega), hR hw (q + 1) n a b m 8 hOd hn hlo hhi (Or.inl rfl) k3 k4]
        · have hκ9 : κ = 9 := by omega
          subst hκ9
          have hst : ∀ f I J, f + n ≤ 60 → Ag Im Jm I J → Top I f a b 0 → stp (nn k) I J = some (bg (nl I f a) (f + 1) (a + 2) (b - 1), J) := fun f I J hf hA hT => en_acc (t := 9) hT (by omega) (by omega) (by omega) hb (by rw [hA.1 105 (by omega) (by omega)]; exact k4) (by omega) (hLn (by omega) I J hA)
          rcases hw01 with hw | hw
          · exact ⟨0, e, _, cr_chg0 hz hs hn k3 h8' h7 hw y1, mr_un (e' := e) h7 (by omega) (by omega) (by omega) hst y2 (fun he f I J hf hA hT u1 u2 => ⟨_, _, jn_chg0 hT (by omega) (by omega) u1 (by rw [hA.1 105 (by omega) (by omega)]; exact k4) h8 (by rw [hA.1 97 (by omega) (by omega), hwb]; exact hw), Or.inl ⟨he, rfl, rfl⟩⟩) (fun _ => rfl), y3⟩
          · refine ⟨_, e, _, cr_chg1 hz hs hn k3 h8' h7 hw y1, mr_un (e' := e) h7 (by omega) (by omega) (by omega) hst y2 (fun he f I J hf hA hT u1 u2 => ⟨_, _, jn_chg1 hT (by omega) (by omega) u1 (by rw [hA.1 105 (by omega) (by omega)]; exact k4) u2 h8 (by rw [hA.1 97 (by omega) (by omega), hwb]; exact hw), Or.inl ⟨he, rfl, ?_⟩⟩) (fun _ => rfl), y3⟩
            rw [hA.2.2.1 108 (by omega) (by omega), hR hw (q + 1) n a b m 9 hOd hn hlo hhi (Or.inr rfl) k3 k4]
    · obtain ⟨v, e, g, y1, y2, y3⟩ := ih c a s m1 h14 (by omega) hlo (by omega)
      obtain ⟨v2, e2, g2, x1, x2, x3⟩ := ih d (s + 1) b m2 h15 (by omega) (by omega) hhi
      have hta : ∃ t, t < 100 ∧ Im 105 a = nn t ∧ (t ≠ 30 ∨ Im 106 a ≠ nn (b - 1)) := opd_first h14 (by omega) (by omega)
      obtain ⟨t, ht1, ht2, ht3⟩ := hta
      have hst : ∀ f I J, f + n ≤ 60 → Ag Im Jm I J → Top I f a b 0 → stp (nn k) I J = some (bg (nb I f s) (f + 1) a s, J) := by
        intro f I J hf hA hT
        refine en_bin (t := t) hT (by omega) (by omega) (by omega) hb (by omega) ht1 (by rw [hA.1 105 (by omega) (by omega)]; exact ht2) (by rw [hA.1 106 (by omega) (by omega)]; exact ht3) (fun x => ?_)
        refine least_some (K := Ic (p + 1 + 1)) (L := Ic (p + 1 + 2)) (R := Ic (p + 1 + 3)) (V := Jc (p + 1 + 4)) (tn := Jm 107) (q := q) (k := κ) (c := c) (d := d) (m1 := m1) (m2 := m2) h1 h2 hb ?_ h3 h4 (by omega) (by omega) ?_ ?_
        · rw [sI_ne (by omega), hA.1 105 (by omega) (by omega)]; exact h5
        · rw [sI_ne (by omega), sI_ne (by omega), hA.1 105 (by omega) (by omega), hA.1 106 (by omega) (by omega)]; exact h14
        · rw [sI_ne (by omega), sI_ne (by omega), hA.1 105 (by omega) (by omega), hA.1 106 (by omega) (by omega)]; exact h15
      by_cases hl : κ = 10 ∨ κ = 11
      · by_cases he : e = nn 0
        · subst he
          by_cases hg : (κ = 10 ∧ v ≠ 0) ∨ (κ = 11 ∧ v = 0)
          · refine ⟨tr (κ + 6 = 16), nn 0, _, cr_tru1 hz hs hn h6 (by rcases hg with ⟨r1, r2⟩ | ⟨r1, r2⟩; exact Or.inl ⟨by omega, r2⟩; exact Or.inr ⟨by omega, r2⟩) h9 h7 y1, mr_half h7 h1 h2 hst y2 (fun f I J hf hA hT u1 u2 => ?_), Or.inl rfl⟩
            rw [ha_give hT (by omega) (by omega) u1 (by rw [hA.1 105 (by omega) (by omega)]; exact h5) u2 hg]
            have e6 : tr (κ = 10) = tr (κ + 6 = 16) := by
              rcases hl with rfl | rfl <;> rfl
            rw [e6]
          · refine ⟨tr (v2 ≠ 0), e2, _, cr_tru2 hz hs hn h6 ?_ h9 h7 h10 h8' y1 x1, mr_bin (e' := e2) h7 h8' h1 h2 hst y2 (fun f I J hf hA hT u1 u2 => ha_push hT (by omega) (by omega) hb u1 (by rw [hA.1 105 (by omega) (by omega)]; exact h5) (by omega) u2 (fun r => Classical.byContradiction fun r2 => hg (Or.inl ⟨r, r2⟩)) (fun r r2 => hg (Or.inr ⟨r, r2⟩))) x2 (fun he f I J hf hA hT u1 u2 u3 => ⟨_, _, jn_log hT (by omega) (by omega) h1 u1 (by rw [hA.1 105 (by omega) (by omega)]; exact h5) u3 hl, Or.inl ⟨he, rfl, rfl⟩⟩) (fun _ => rfl), x3⟩
            rcases hl with rfl | rfl
            · exact Or.inl ⟨rfl, Classical.byContradiction fun r2 => hg (Or.inl ⟨rfl, r2⟩)⟩
            · exact Or.inr ⟨rfl, fun r2 => hg (Or.inr ⟨rfl, r2⟩)⟩
        · obtain ⟨w, w1⟩ := cr_truB hz hs hn h6 (by omega) h9 h7 h10 h8' y1 he
          exact ⟨w, e, _, w1, mr_bad1 h7 h1 h2 hst y2 he, y3⟩
      · by_cases he : e = nn 0
        · subst he
          have hpu : ∀ f I J, f + n ≤ 60 → Ag Im Jm I J → Top I f a b 1 → I 116 f = nn s → J 92 35 = v → stp (nn k) I J = some (bg (sI I 117 f (nn 2)) (f + 1) (s + 1) b, sJ J 118 f v) := fun f I J hf hA hT u1 u2 => ha_push hT (by omega) (by omega) hb u1 (by rw [hA.1 105 (by omega) (by omega)]; exact h5) (by omega) u2 (fun r => absurd (Or.inl r) hl) (fun r => absurd (Or.inr r) hl)
          by_cases he2 : e2 = nn 0
          · subst he2
            by_cases h25 : κ ≤ 25
            · exact ⟨op2 κ v v2, nn 0, _, cr_bin hz hs hn (by omega) h25 h6 h9 h7 h10 h8' y1 x1, mr_bin (e' := nn 0) h7 h8' h1 h2 hst y2 hpu x2 (fun _ f I J hf hA hT u1 u2 u3 => ⟨_, _, jn_bin hT (by omega) (by omega) h1 u1 (by rw [hA.1 105 (by omega) (by omega)]; exact h5) u2 u3 (by omega) h25, Or.inl ⟨rfl, rfl, rfl⟩⟩) (fun x => absurd rfl x), Or.inl rfl⟩
            · by_cases hv2 : v2 = 0
              · exact ⟨0, nn 1, _, cr_div0 hz hs hn (by omega) h6 h9 h7 h10 h8' y1 x1 hv2, mr_bin (e' := nn 1) h7 h8' h1 h2 hst y2 hpu x2 (fun _ f I J hf hA hT u1 u2 u3 => ⟨_, _, jn_div0 hT (by omega) (by omega) h1 u1 (by rw [hA.1 105 (by omega) (by omega)]; exact h5) (u3.trans hv2) (by omega), Or.inr ⟨by decide, rfl, rfl⟩⟩) (fun x => absurd rfl x), Or.inr (Or.inl rfl)⟩
              · exact ⟨dv κ v v2, nn 0, _, cr_div hz hs hn (by omega) h6 h9 h7 h10 h8' y1 x1 hv2, mr_bin (e' := nn 0) h7 h8' h1 h2 hst y2 hpu x2 (fun _ f I J hf hA hT u1 u2 u3 => ⟨_, _, jn_div hT (by omega) (by omega) h1 u1 (by rw [hA.1 105 (by omega) (by omega)]; exact h5) u2 u3 (by omega) hv2, Or.inl ⟨rfl, rfl, rfl⟩⟩) (fun x => absurd rfl x), Or.inl rfl⟩
          · obtain ⟨w, w1⟩ := cr_binB2 hz hs hn (by omega) h4 h6 h9 h7 h10 h8' y1 x1 he2
            exact ⟨w, e2, _, w1, mr_bin (w := w) (e' := e2) h7 h8' h1 h2 hst y2 hpu x2 (fun x => absurd x he2) (fun _ => rfl), x3⟩
        · obtain ⟨w, w1⟩ := cr_binB1 hz hs hn (by omega) h4 h6 h9 h7 h10 h8' y1 he
          exact ⟨w, e, _, w1, mr_bad1 h7 h1 h2 hst y2 he, y3⟩
