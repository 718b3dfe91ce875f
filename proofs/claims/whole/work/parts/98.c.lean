/-! Printed by wip/whole/gen_th.py: read-only runs on the skeleton; the throws; the helpers that catch. -/
def RO (Q : Nat → Option Nat) (D k pc : Nat) (ls : xm_L) (st : List Value) (I : dI) (J : dJ) (r : Option Value ⊕ Nat) : Prop := ∃ F0 f, ∀ F, F0 ≤ F → ∀ f', f ≤ f' → xm_rr (tb_eo F D) (tb_th k) tb_tt (tb_fr (tb_oc k)) tb_oc (tb_cr (tb_oc k)) (tb_mb k) (tb_mL k) (tb_mr k) (bld Q I J) f' pc ls st = some r
def EO (Q : Nat → Option Nat) (D k : Nat) (I : dI) (J : dJ) (As : List Value) (r : Option Value ⊕ Nat) : Prop := ∃ F0, ∀ F, F0 ≤ F → tb_eo F D k (bld Q I J) As = some r
section ROX
variable {Q : Nat → Option Nat} {D k pc n : Nat} {ls ls' : xm_L} {st st' : List Value} {I : dI} {J : dJ} {r : Option Value ⊕ Nat} {i : Jvm.ClassFile.Instr}
theorem RO.pu {nL : Nat} (hd : decode (tb_mb k) pc = .ok (i, n)) (hL : tb_mL k = nL) (hp : xm_pu nL i n ls st = some (ls', st')) (h : RO Q D k (pc + n) ls' st' I J r) : RO Q D k pc ls st I J r := by
  obtain ⟨F0, f, h⟩ := h
  refine ⟨F0, f + 1, fun F hF f' hf => ?_⟩
  obtain ⟨g, rfl⟩ : ∃ g, f' = g + 1 := ⟨f' - 1, by omega⟩
  subst hL
  rw [xm_rr, hd]
  dsimp only
  rw [hp]
  exact h F hF g (by omega)
theorem RO.br {b : Bool} {t : Nat} (hd : decode (tb_mb k) pc = .ok (i, n)) (hp : ∀ nL l, xm_pu nL i n l st = none) (hb : xm_br i n pc st = some (b, t, st')) (h : RO Q D k (if b = true then t else pc + n) ls st' I J r) : RO Q D k pc ls st I J r := by
  obtain ⟨F0, f, h⟩ := h
  refine ⟨F0, f + 1, fun F hF f' hf => ?_⟩
  obtain ⟨g, rfl⟩ : ∃ g, f' = g + 1 := ⟨f' - 1, by omega⟩
  have h4 := h F hF g (by omega)
  rw [xm_rr, hd]
  dsimp only
  rw [hp]
  dsimp only
  rw [hb]
  dsimp only
  cases b with
  | true => rw [if_pos rfl] at h4 ⊢; exact h4
  | false => rw [if_neg Bool.false_ne_true] at h4 ⊢; exact h4
theorem RO.hr (hd : decode (tb_mb k) pc = .ok (i, n)) (hp : ∀ nL l, xm_pu nL i n l st = none) (hb : xm_br i n pc st = none) (hh : xm_hr tb_tt (tb_fr (tb_oc k)) i n st (bld Q I J) = some st') (h : RO Q D k (pc + n) ls st' I J r) : RO Q D k pc ls st I J r := by
  obtain ⟨F0, f, h⟩ := h
  refine ⟨F0, f + 1, fun F hF f' hf => ?_⟩
  obtain ⟨g, rfl⟩ : ∃ g, f' = g + 1 := ⟨f' - 1, by omega⟩
  rw [xm_rr, hd]
  dsimp only
  rw [hp]
  dsimp only
  rw [hb]
  dsimp only
  rw [hh]
  exact h F hF g (by omega)
theorem RO.re {v : Option Value} (hd : decode (tb_mb k) pc = .ok (i, n)) (hp : ∀ nL l, xm_pu nL i n l st = none) (hb : xm_br i n pc st = none) (hh : ∀ fr A, xm_hr tb_tt fr i n st A = none) (hr : xm_re (tb_mr k) i n st = some v) : RO Q D k pc ls st I J (.inl v) := by
  refine ⟨0, 1, fun F hF f' hf => ?_⟩
  obtain ⟨g, rfl⟩ : ∃ g, f' = g + 1 := ⟨f' - 1, by omega⟩
  rw [xm_rr, hd]
  dsimp only
  rw [hp]
  dsimp only
  rw [hb]
  dsimp only
  rw [hh]
  dsimp only
  rw [hr]
theorem RO.ca {x k' : Nat} {As rest : List Value} {w : Value} (hd : decode (tb_mb k) pc = .ok (.invokevirtual x, 3)) (hc : xm_ca tb_oc (tb_cr (tb_oc k)) (.invokevirtual x) 3 st (bld Q I J) = some (k', As, rest)) (he : EO Q D k' I J As (.inl (some w))) (h : RO Q D k (pc + 3) ls (w :: rest) I J r) : RO Q D k pc ls st I J r := by
  obtain ⟨F0, f, h⟩ := h
  obtain ⟨F1, he⟩ := he
  refine ⟨F0 + F1, f + 1, fun F hF f' hf => ?_⟩
  obtain ⟨g, rfl⟩ : ∃ g, f' = g + 1 := ⟨f' - 1, by omega⟩
  rw [xm_rr, hd]
  dsimp only
  rw [show xm_pu (tb_mL k) (.invokevirtual x) 3 ls st = none from rfl]
  dsimp only
  rw [show xm_br (.invokevirtual x) 3 pc st = none from rfl]
  dsimp only
  rw [show xm_hr tb_tt (tb_fr (tb_oc k)) (.invokevirtual x) 3 st (bld Q I J) = none from rfl]
  dsimp only
  rw [show xm_re (tb_mr k) (.invokevirtual x) 3 st = none from rfl]
  dsimp only
  rw [hc]
  dsimp only
  rw [he F (by omega)]
  exact h F (by omega) g (by omega)
theorem RO.th {x y : Nat} (hd : decode (tb_mb k) pc = .ok (.new x, 3)) (ht : tb_th k pc = some y) (hs : xm_cat st ≤ 8) : RO Q D k pc ls st I J (.inr y) := by
  refine ⟨0, 1, fun F hF f' hf => ?_⟩
  obtain ⟨g, rfl⟩ : ∃ g, f' = g + 1 := ⟨f' - 1, by omega⟩
  rw [xm_rr, hd]
  dsimp only
  rw [show xm_pu (tb_mL k) (.new x) 3 ls st = none from rfl]
  dsimp only
  rw [show xm_br (.new x) 3 pc st = none from rfl]
  dsimp only
  rw [show xm_hr tb_tt (tb_fr (tb_oc k)) (.new x) 3 st (bld Q I J) = none from rfl]
  dsimp only
  rw [show xm_re (tb_mr k) (.new x) 3 st = none from rfl]
  dsimp only
  rw [ht]
  dsimp only
  rw [if_pos hs]
theorem RO.gI {p x ci kk : Nat} {b : Bool} {cs : List Nat} (hd : decode (tb_mb k) pc = .ok (.getfield x, 3)) (hf : tb_fr (tb_oc k) x = some (ci, kk, b)) (hs : SK[p]? = some (.inl (ci, cs))) (hc : cs[kk]? = some 0) (h : RO Q D k (pc + 3) ls (.int (I p kk) :: st) I J r) : RO Q D k pc ls (.ref p :: st) I J r := by
  refine RO.hr hd (fun _ _ => rfl) rfl ?_ h
  simp only [xm_hr, hf, if_true, xm_gf, bld_get hs, sk_e, sk_get0 hc, sk_f, Option.map_some]
theorem RO.gR {p x ci kk q : Nat} {b : Bool} {cs : List Nat} (hd : decode (tb_mb k) pc = .ok (.getfield x, 3)) (hf : tb_fr (tb_oc k) x = some (ci, kk, b)) (hs : SK[p]? = some (.inl (ci, cs))) (hc : cs[kk]? = some (q + 2)) (h : RO Q D k (pc + 3) ls (.ref q :: st) I J r) : RO Q D k pc ls (.ref p :: st) I J r := by
  refine RO.hr hd (fun _ _ => rfl) rfl ?_ h
  simp only [xm_hr, hf, if_true, xm_gf, bld_get hs, sk_e, sk_get0 hc, sk_f, Option.map_some]
theorem RO.alen (hd : decode (tb_mb k) pc = .ok (.arraylength, 1)) (h : RO Q D k (pc + 1) ls (.int (Int32.ofNat 8) :: st) I J r) : RO Q D k pc ls (.ref 19 :: st) I J r := by
  refine RO.hr hd (fun _ _ => rfl) rfl ?_ h
  have hs : SK[19]? = some (.inr (4, 8, 2)) := rfl
  have ht' : 4 < tb_tt.length := by decide
  simp only [xm_hr, if_true, xm_an, bld_get hs, sk_e, ht', Option.map_some]
theorem RO.aald {j : Int32} (hQ : ∀ j, j < 8 → Q j = some (20 + 9 * j)) (hd : decode (tb_mb k) pc = .ok (.aaload, 1)) (hj : ¬ (j < 0 ∨ 8 ≤ j.toNatClampNeg)) (h : RO Q D k (pc + 1) ls (.ref (20 + 9 * j.toNatClampNeg) :: st) I J r) : RO Q D k pc ls (.int j :: .ref 19 :: st) I J r := by
  refine RO.hr hd (fun _ _ => rfl) rfl ?_ h
  have hs : SK[19]? = some (.inr (4, 8, 2)) := rfl
  have hq := hQ j.toNatClampNeg (Nat.not_le.mp fun q => hj (Or.inr q))
  simp only [xm_hr, if_true, xm_aq, bld_get hs, sk_e, xm_ix, hj, not_false_eq_true, Option.map_some, hq]
  rfl
theorem RO.i1t {t : Nat} {a : Jvm.ClassFile.Cond} {off : Int} {y : Int32} (hd : decode (tb_mb k) pc = .ok (.ifCond a off, 3)) (ht : xm_tg pc off = some t) (hc : xm_cd a y 0 = true) (h : RO Q D k t ls st I J r) : RO Q D k pc ls (.int y :: st) I J r := by
  refine RO.br (b := true) (t := t) hd (fun _ _ => rfl) ?_ (by rw [if_pos rfl]; exact h)
  simp only [xm_br, if_true, ht, Option.map_some, hc]
theorem RO.i1f {t : Nat} {a : Jvm.ClassFile.Cond} {off : Int} {y : Int32} (hd : decode (tb_mb k) pc = .ok (.ifCond a off, 3)) (ht : xm_tg pc off = some t) (hc : xm_cd a y 0 = false) (h : RO Q D k (pc + 3) ls st I J r) : RO Q D k pc ls (.int y :: st) I J r := by
  refine RO.br (b := false) (t := t) hd (fun _ _ => rfl) ?_ (by rw [if_neg Bool.false_ne_true]; exact h)
  simp only [xm_br, if_true, ht, Option.map_some, hc]
theorem RO.i2t {t : Nat} {a : Jvm.ClassFile.Cond} {off : Int} {y z : Int32} (hd : decode (tb_mb k) pc = .ok (.if_icmp a off, 3)) (ht : xm_tg pc off = some t) (hc : xm_cd a y z = true) (h : RO Q D k t ls st I J r) : RO Q D k pc ls (.int z :: .int y :: st) I J r := by
  refine RO.br (b := true) (t := t) hd (fun _ _ => rfl) ?_ (by rw [if_pos rfl]; exact h)
  simp only [xm_br, if_true, ht, Option.map_some, hc]
theorem RO.i2f {t : Nat} {a : Jvm.ClassFile.Cond} {off : Int} {y z : Int32} (hd : decode (tb_mb k) pc = .ok (.if_icmp a off, 3)) (ht : xm_tg pc off = some t) (hc : xm_cd a y z = false) (h : RO Q D k (pc + 3) ls st I J r) : RO Q D k pc ls (.int z :: .int y :: st) I J r := by
  refine RO.br (b := false) (t := t) hd (fun _ _ => rfl) ?_ (by rw [if_neg Bool.false_ne_true]; exact h)
  simp only [xm_br, if_true, ht, Option.map_some, hc]
theorem RO.gt {t : Nat} {off : Int} (hd : decode (tb_mb k) pc = .ok (.goto off, 3)) (ht : xm_tg pc off = some t) (h : RO Q D k t ls st I J r) : RO Q D k pc ls st I J r := by
  refine RO.br (b := true) (t := t) hd (fun _ _ => rfl) ?_ (by rw [if_pos rfl]; exact h)
  simp only [xm_br, if_true, ht, Option.map_some]
theorem EO.of {As : List Value} (hk : tb_mok k = true) (hl : (lg_sl As).length ≤ tb_mL k) (h : RO Q D k 0 (lv_args 0 As) [] I J r) : EO Q (D + 1) k I J As r := by
  obtain ⟨F0, f, h⟩ := h
  refine ⟨F0 + f, fun F hF => ?_⟩
  rw [tb_eo, if_pos ⟨hk, hl⟩]
  exact h F (by omega) F (by omega)
end ROX
theorem e_40 {Q : Nat → Option Nat} {D : Nat} (hQ : ∀ j, j < 8 → Q j = some (20 + 9 * j)) {x : Int32} {I : dI} {J : dJ} {R : Option Nat} (h : m_40 x I J = some R) : EO Q (D + 1) 40 I J [.ref 0, .int x] (.inl (some (vA R))) := by
  refine EO.of (by decide) (by rw [L_40]; exact Nat.le_of_ble_eq_true rfl) ?_
  show RO Q D 40 0 [(0, .ref 0), (1, .int x)] [] I J (.inl (some (vA R)))
  unfold m_40 b_40_0 at h
  refine RO.pu (st' := [.int x]) dk_40_0 L_40 rfl ?_
  split at h
  · rename_i c1
    refine RO.i1t (t := 22) dk_40_1 rfl (decide_eq_true c1) ?_
    refine RO.pu (st' := [.null]) dk_40_22 L_40 rfl ?_
    cases h
    exact RO.re dk_40_23 (fun _ _ => rfl) rfl (fun _ _ => rfl) (by rw [R_40]; rfl)
  · rename_i c1
    refine RO.i1f (t := 22) dk_40_1 rfl (decide_eq_false c1) ?_
    refine RO.pu (st' := [.int x]) dk_40_4 L_40 rfl ?_
    refine RO.pu (st' := [.ref 0, .int x]) dk_40_5 L_40 rfl ?_
    refine RO.gR (q := 19) dk_40_6 f_40_6.choose_spec sk_0 rfl ?_
    refine RO.alen dk_40_9 ?_
    split at h
    · rename_i c2
      refine RO.i2t (t := 22) dk_40_10 rfl (decide_eq_true c2) ?_
      refine RO.pu (st' := [.null]) dk_40_22 L_40 rfl ?_
      cases h
      exact RO.re dk_40_23 (fun _ _ => rfl) rfl (fun _ _ => rfl) (by rw [R_40]; rfl)
    · rename_i c2
      refine RO.i2f (t := 22) dk_40_10 rfl (decide_eq_false c2) ?_
      refine RO.pu (st' := [.ref 0]) dk_40_13 L_40 rfl ?_
      refine RO.gR (q := 19) dk_40_14 f_40_14.choose_spec sk_0 rfl ?_
      refine RO.pu (st' := [.int x, .ref 19]) dk_40_17 L_40 rfl ?_
      split at h
      · rename_i c3
        cases h
        refine RO.aald hQ dk_40_18 c3 ?_
        refine RO.gt (t := 23) dk_40_19 rfl ?_
        exact RO.re dk_40_23 (fun _ _ => rfl) rfl (fun _ _ => rfl) (by rw [R_40]; rfl)
      · cases h
theorem ca_40 {Q : Nat → Option Nat} {k : Nat} {x : Int32} {I : dI} {J : dJ} {b : Bool} (hc : tb_cr (tb_oc k) 49 = some (0, 40, b, 1)) : xm_ca tb_oc (tb_cr (tb_oc k)) (.invokevirtual 49) 3 [.int x, .ref 0] (bld Q I J) = some (40, [.ref 0, .int x], []) := by
  simp only [xm_ca, hc, if_true, show xm_sv 1 [.int x, .ref 0] = some (0, [.int x], []) from rfl, bld_get sk_0, sk_e, show tb_oc 40 = 8 from rfl]

theorem dn_39_10 : decode (tb_mb 39) 10 = .ok (.new 53, 3) := by decide +kernel
theorem tn_39_10 : tb_th 39 10 = some 1 := by decide +kernel
theorem dn_85_10 : decode (tb_mb 85) 10 = .ok (.new 53, 3) := by decide +kernel
theorem tn_85_10 : tb_th 85 10 = some 1 := by decide +kernel
theorem dn_86_10 : decode (tb_mb 86) 10 = .ok (.new 53, 3) := by decide +kernel
theorem tn_86_10 : tb_th 86 10 = some 1 := by decide +kernel
theorem dn_88_11 : decode (tb_mb 88) 11 = .ok (.new 53, 3) := by decide +kernel
theorem tn_88_11 : tb_th 88 11 = some 1 := by decide +kernel
theorem dn_90_21 : decode (tb_mb 90) 21 = .ok (.new 53, 3) := by decide +kernel
theorem tn_90_21 : tb_th 90 21 = some 1 := by decide +kernel
theorem dn_90_38 : decode (tb_mb 90) 38 = .ok (.new 95, 3) := by decide +kernel
theorem tn_90_38 : tb_th 90 38 = some 2 := by decide +kernel
theorem dn_91_10 : decode (tb_mb 91) 10 = .ok (.new 53, 3) := by decide +kernel
theorem tn_91_10 : tb_th 91 10 = some 1 := by decide +kernel
theorem dn_91_27 : decode (tb_mb 91) 27 = .ok (.new 95, 3) := by decide +kernel
theorem tn_91_27 : tb_th 91 27 = some 2 := by decide +kernel
theorem dn_92_19 : decode (tb_mb 92) 19 = .ok (.new 53, 3) := by decide +kernel
theorem tn_92_19 : tb_th 92 19 = some 1 := by decide +kernel
theorem dn_92_36 : decode (tb_mb 92) 36 = .ok (.new 95, 3) := by decide +kernel
theorem tn_92_36 : tb_th 92 36 = some 2 := by decide +kernel
theorem t_39 {Q : Nat → Option Nat} {D : Nat} (hQ : ∀ j, j < 8 → Q j = some (20 + 9 * j)) {x : Int32} {I : dI} {J : dJ} (h : m_40 x I J = some none) : EO Q (D + 2) 39 I J [.ref 0, .int x] (.inr 1) := by
  refine EO.of (by decide) (by rw [L_39]; exact Nat.le_of_ble_eq_true rfl) ?_
  show RO Q (D + 1) 39 0 [(0, .ref 0), (1, .int x)] [] I J (.inr 1)
  refine RO.pu (st' := [.ref 0]) dk_39_0 L_39 rfl ?_
  refine RO.pu (st' := [.int x, .ref 0]) dk_39_1 L_39 rfl ?_
  refine RO.ca dk_39_2 (ca_40 ck_39_2.choose_spec) (e_40 hQ h) ?_
  refine RO.pu (ls' := [(2, .null), (0, .ref 0), (1, .int x)]) (st' := []) dk_39_5 L_39 rfl ?_
  refine RO.pu (st' := [.null]) dk_39_6 L_39 rfl ?_
  refine RO.br (b := false) (st' := []) dk_39_7 (fun _ _ => rfl) rfl ?_
  exact RO.th dn_39_10 tn_39_10 (by decide)
theorem t_85 {Q : Nat → Option Nat} {D : Nat} (hQ : ∀ j, j < 8 → Q j = some (20 + 9 * j)) {x : Int32} {I : dI} {J : dJ} (h : m_40 x I J = some none) : EO Q (D + 2) 85 I J [.ref 0, .int x] (.inr 1) := by
  refine EO.of (by decide) (by rw [L_85]; exact Nat.le_of_ble_eq_true rfl) ?_
  show RO Q (D + 1) 85 0 [(0, .ref 0), (1, .int x)] [] I J (.inr 1)
  refine RO.pu (st' := [.ref 0]) dk_85_0 L_85 rfl ?_
  refine RO.pu (st' := [.int x, .ref 0]) dk_85_1 L_85 rfl ?_
  refine RO.ca dk_85_2 (ca_40 ck_85_2.choose_spec) (e_40 hQ h) ?_
  refine RO.pu (ls' := [(2, .null), (0, .ref 0), (1, .int x)]) (st' := []) dk_85_5 L_85 rfl ?_
  refine RO.pu (st' := [.null]) dk_85_6 L_85 rfl ?_
  refine RO.br (b := false) (st' := []) dk_85_7 (fun _ _ => rfl) rfl ?_
  exact RO.th dn_85_10 tn_85_10 (by decide)
theorem t_91 {Q : Nat → Option Nat} {D : Nat} (hQ : ∀ j, j < 8 → Q j = some (20 + 9 * j)) {x : Int32} {I : dI} {J : dJ} (h : m_40 x I J = some none) : EO Q (D + 2) 91 I J [.ref 0, .int x] (.inr 1) := by
  refine EO.of (by decide) (by rw [L_91]; exact Nat.le_of_ble_eq_true rfl) ?_
  show RO Q (D + 1) 91 0 [(0, .ref 0), (1, .int x)] [] I J (.inr 1)
  refine RO.pu (st' := [.ref 0]) dk_91_0 L_91 rfl ?_
  refine RO.pu (st' := [.int x, .ref 0]) dk_91_1 L_91 rfl ?_
  refine RO.ca dk_91_2 (ca_40 ck_91_2.choose_spec) (e_40 hQ h) ?_
  refine RO.pu (ls' := [(2, .null), (0, .ref 0), (1, .int x)]) (st' := []) dk_91_5 L_91 rfl ?_
  refine RO.pu (st' := [.null]) dk_91_6 L_91 rfl ?_
  refine RO.br (b := false) (st' := []) dk_91_7 (fun _ _ => rfl) rfl ?_
  exact RO.th dn_91_10 tn_91_10 (by decide)
theorem t_91b {Q : Nat → Option Nat} {D c : Nat} (hQ : ∀ j, j < 8 → Q j = some (20 + 9 * j)) {x : Int32} {I : dI} {J : dJ} (h : m_40 x I J = some (some c)) (h0 : I c 1 = 0) : EO Q (D + 2) 91 I J [.ref 0, .int x] (.inr 2) := by
  have okc := ok_ca h
  refine EO.of (by decide) (by rw [L_91]; exact Nat.le_of_ble_eq_true rfl) ?_
  show RO Q (D + 1) 91 0 [(0, .ref 0), (1, .int x)] [] I J (.inr 2)
  refine RO.pu (st' := [.ref 0]) dk_91_0 L_91 rfl ?_
  refine RO.pu (st' := [.int x, .ref 0]) dk_91_1 L_91 rfl ?_
  refine RO.ca dk_91_2 (ca_40 ck_91_2.choose_spec) (e_40 hQ h) ?_
  refine RO.pu (ls' := [(2, .ref c), (0, .ref 0), (1, .int x)]) (st' := []) dk_91_5 L_91 rfl ?_
  refine RO.pu (st' := [.ref c]) dk_91_6 L_91 rfl ?_
  refine RO.br (b := true) (t := 20) (st' := []) dk_91_7 (fun _ _ => rfl) rfl ?_
  refine RO.pu (st' := [.ref c]) dk_91_20 L_91 rfl ?_
  refine RO.gI dk_91_21 f_91_21.choose_spec okc.1 rfl ?_
  refine RO.i1f (t := 37) dk_91_24 rfl (by rw [h0]; decide) ?_
  exact RO.th dn_91_27 tn_91_27 (by decide)
theorem t_86 {Q : Nat → Option Nat} {D : Nat} {x y : Int32} {I : dI} {J : dJ} (h : x < 0 ∨ ¬ x < 34) : EO Q (D + 1) 86 I J [.ref 0, .int x, .int y] (.inr 1) := by
  refine EO.of (by decide) (by rw [L_86]; exact Nat.le_of_ble_eq_true rfl) ?_
  show RO Q D 86 0 [(0, .ref 0), (1, .int x), (2, .int y)] [] I J (.inr 1)
  refine RO.pu (st' := [.int x]) dk_86_0 L_86 rfl ?_
  by_cases c1 : x < 0
  · refine RO.i1t (t := 10) dk_86_1 rfl (decide_eq_true c1) ?_
    exact RO.th dn_86_10 tn_86_10 (by decide)
  · refine RO.i1f (t := 10) dk_86_1 rfl (decide_eq_false c1) ?_
    refine RO.pu (st' := [.int x]) dk_86_4 L_86 rfl ?_
    refine RO.pu (st' := [.int 34, .int x]) dk_86_5 L_86 rfl ?_
    refine RO.i2f (t := 20) dk_86_7 rfl (decide_eq_false (h.resolve_left c1)) ?_
    exact RO.th dn_86_10 tn_86_10 (by decide)
theorem t_88 {Q : Nat → Option Nat} {D : Nat} {x y : Int32} {I : dI} {J : dJ} (h : x < 0 ∨ ¬ x < 256) : EO Q (D + 1) 88 I J [.ref 0, .int x, .int y] (.inr 1) := by
  refine EO.of (by decide) (by rw [L_88]; exact Nat.le_of_ble_eq_true rfl) ?_
  show RO Q D 88 0 [(0, .ref 0), (1, .int x), (2, .int y)] [] I J (.inr 1)
  refine RO.pu (st' := [.int x]) dk_88_0 L_88 rfl ?_
  by_cases c1 : x < 0
  · refine RO.i1t (t := 11) dk_88_1 rfl (decide_eq_true c1) ?_
    exact RO.th dn_88_11 tn_88_11 (by decide)
  · refine RO.i1f (t := 11) dk_88_1 rfl (decide_eq_false c1) ?_
    refine RO.pu (st' := [.int x]) dk_88_4 L_88 rfl ?_
    refine RO.pu (st' := [.int 256, .int x]) dk_88_5 L_88 rfl ?_
    refine RO.i2f (t := 21) dk_88_8 rfl (decide_eq_false (h.resolve_left c1)) ?_
    exact RO.th dn_88_11 tn_88_11 (by decide)
theorem t_90a {Q : Nat → Option Nat} {D : Nat} (hQ : ∀ j, j < 8 → Q j = some (20 + 9 * j)) {x y : Int32} {I : dI} {J : dJ} (h : m_40 x I J = some none) : EO Q (D + 2) 90 I J [.ref 0, .int x, .int y] (.inr 1) := by
  refine EO.of (by decide) (by rw [L_90]; exact Nat.le_of_ble_eq_true rfl) ?_
  show RO Q (D + 1) 90 0 [(0, .ref 0), (1, .int x), (2, .int y)] [] I J (.inr 1)
  refine RO.pu (st' := [.ref 0]) dk_90_0 L_90 rfl ?_
  refine RO.pu (st' := [.int x, .ref 0]) dk_90_1 L_90 rfl ?_
  refine RO.ca dk_90_2 (ca_40 ck_90_2.choose_spec) (e_40 hQ h) ?_
  refine RO.pu (ls' := [(3, .null), (0, .ref 0), (1, .int x), (2, .int y)]) (st' := []) dk_90_5 L_90 rfl ?_
  refine RO.pu (st' := [.null]) dk_90_6 L_90 rfl ?_
  refine RO.br (b := true) (t := 21) (st' := []) dk_90_7 (fun _ _ => rfl) rfl ?_
  exact RO.th dn_90_21 tn_90_21 (by decide)
theorem t_90b {Q : Nat → Option Nat} {D c : Nat} (hQ : ∀ j, j < 8 → Q j = some (20 + 9 * j)) {x y : Int32} {I : dI} {J : dJ} (h : m_40 x I J = some (some c)) (hy : y < 0 ∨ ¬ y ≤ 1000) : EO Q (D + 2) 90 I J [.ref 0, .int x, .int y] (.inr 1) := by
  refine EO.of (by decide) (by rw [L_90]; exact Nat.le_of_ble_eq_true rfl) ?_
  show RO Q (D + 1) 90 0 [(0, .ref 0), (1, .int x), (2, .int y)] [] I J (.inr 1)
  refine RO.pu (st' := [.ref 0]) dk_90_0 L_90 rfl ?_
  refine RO.pu (st' := [.int x, .ref 0]) dk_90_1 L_90 rfl ?_
  refine RO.ca dk_90_2 (ca_40 ck_90_2.choose_spec) (e_40 hQ h) ?_
  refine RO.pu (ls' := [(3, .ref c), (0, .ref 0), (1, .int x), (2, .int y)]) (st' := []) dk_90_5 L_90 rfl ?_
  refine RO.pu (st' := [.ref c]) dk_90_6 L_90 rfl ?_
  refine RO.br (b := false) (st' := []) dk_90_7 (fun _ _ => rfl) rfl ?_
  refine RO.pu (st' := [.int y]) dk_90_10 L_90 rfl ?_
  by_cases c1 : y < 0
  · refine RO.i1t (t := 21) dk_90_11 rfl (decide_eq_true c1) ?_
    exact RO.th dn_90_21 tn_90_21 (by decide)
  · refine RO.i1f (t := 21) dk_90_11 rfl (decide_eq_false c1) ?_
    refine RO.pu (st' := [.int y]) dk_90_14 L_90 rfl ?_
    refine RO.pu (st' := [.int 1000, .int y]) dk_90_15 L_90 rfl ?_
    refine RO.i2f (t := 31) dk_90_18 rfl (decide_eq_false (hy.resolve_left c1)) ?_
    exact RO.th dn_90_21 tn_90_21 (by decide)
theorem t_90c {Q : Nat → Option Nat} {D c : Nat} (hQ : ∀ j, j < 8 → Q j = some (20 + 9 * j)) {x y : Int32} {I : dI} {J : dJ} (h : m_40 x I J = some (some c)) (c1 : ¬ y < 0) (c2 : y ≤ 1000) (h0 : I c 1 = 0) : EO Q (D + 2) 90 I J [.ref 0, .int x, .int y] (.inr 2) := by
  have okc := ok_ca h
  refine EO.of (by decide) (by rw [L_90]; exact Nat.le_of_ble_eq_true rfl) ?_
  show RO Q (D + 1) 90 0 [(0, .ref 0), (1, .int x), (2, .int y)] [] I J (.inr 2)
  refine RO.pu (st' := [.ref 0]) dk_90_0 L_90 rfl ?_
  refine RO.pu (st' := [.int x, .ref 0]) dk_90_1 L_90 rfl ?_
  refine RO.ca dk_90_2 (ca_40 ck_90_2.choose_spec) (e_40 hQ h) ?_
  refine RO.pu (ls' := [(3, .ref c), (0, .ref 0), (1, .int x), (2, .int y)]) (st' := []) dk_90_5 L_90 rfl ?_
  refine RO.pu (st' := [.ref c]) dk_90_6 L_90 rfl ?_
  refine RO.br (b := false) (st' := []) dk_90_7 (fun _ _ => rfl) rfl ?_
  refine RO.pu (st' := [.int y]) dk_90_10 L_90 rfl ?_
  refine RO.i1f (t := 21) dk_90_11 rfl (decide_eq_false c1) ?_
  refine RO.pu (st' := [.int y]) dk_90_14 L_90 rfl ?_
  refine RO.pu (st' := [.int 1000, .int y]) dk_90_15 L_90 rfl ?_
  refine RO.i2t (t := 31) dk_90_18 rfl (decide_eq_true c2) ?_
  refine RO.pu (st' := [.ref c]) dk_90_31 L_90 rfl ?_
  refine RO.gI dk_90_32 f_90_32.choose_spec okc.1 rfl ?_
  refine RO.i1f (t := 38 + 10) dk_90_35 rfl (by rw [h0]; decide) ?_
  exact RO.th dn_90_38 tn_90_38 (by decide)
theorem t_92a {Q : Nat → Option Nat} {D : Nat} (hQ : ∀ j, j < 8 → Q j = some (20 + 9 * j)) {x y : Int32} {I : dI} {J : dJ} (h : m_40 x I J = some none) : EO Q (D + 2) 92 I J [.ref 0, .int x, .int y] (.inr 1) := by
  refine EO.of (by decide) (by rw [L_92]; exact Nat.le_of_ble_eq_true rfl) ?_
  show RO Q (D + 1) 92 0 [(0, .ref 0), (1, .int x), (2, .int y)] [] I J (.inr 1)
  refine RO.pu (st' := [.ref 0]) dk_92_0 L_92 rfl ?_
  refine RO.pu (st' := [.int x, .ref 0]) dk_92_1 L_92 rfl ?_
  refine RO.ca dk_92_2 (ca_40 ck_92_2.choose_spec) (e_40 hQ h) ?_
  refine RO.pu (ls' := [(3, .null), (0, .ref 0), (1, .int x), (2, .int y)]) (st' := []) dk_92_5 L_92 rfl ?_
  refine RO.pu (st' := [.null]) dk_92_6 L_92 rfl ?_
  refine RO.br (b := true) (t := 19) (st' := []) dk_92_7 (fun _ _ => rfl) rfl ?_
  exact RO.th dn_92_19 tn_92_19 (by decide)
theorem t_92b {Q : Nat → Option Nat} {D c : Nat} (hQ : ∀ j, j < 8 → Q j = some (20 + 9 * j)) {x y : Int32} {I : dI} {J : dJ} (h : m_40 x I J = some (some c)) (hy : y < 0 ∨ ¬ y ≤ 5) : EO Q (D + 2) 92 I J [.ref 0, .int x, .int y] (.inr 1) := by
  refine EO.of (by decide) (by rw [L_92]; exact Nat.le_of_ble_eq_true rfl) ?_
  show RO Q (D + 1) 92 0 [(0, .ref 0), (1, .int x), (2, .int y)] [] I J (.inr 1)
  refine RO.pu (st' := [.ref 0]) dk_92_0 L_92 rfl ?_
  refine RO.pu (st' := [.int x, .ref 0]) dk_92_1 L_92 rfl ?_
  refine RO.ca dk_92_2 (ca_40 ck_92_2.choose_spec) (e_40 hQ h) ?_
  refine RO.pu (ls' := [(3, .ref c), (0, .ref 0), (1, .int x), (2, .int y)]) (st' := []) dk_92_5 L_92 rfl ?_
  refine RO.pu (st' := [.ref c]) dk_92_6 L_92 rfl ?_
  refine RO.br (b := false) (st' := []) dk_92_7 (fun _ _ => rfl) rfl ?_
  refine RO.pu (st' := [.int y]) dk_92_10 L_92 rfl ?_
  by_cases c1 : y < 0
  · refine RO.i1t (t := 19) dk_92_11 rfl (decide_eq_true c1) ?_
    exact RO.th dn_92_19 tn_92_19 (by decide)
  · refine RO.i1f (t := 19) dk_92_11 rfl (decide_eq_false c1) ?_
    refine RO.pu (st' := [.int y]) dk_92_14 L_92 rfl ?_
    refine RO.pu (st' := [.int 5, .int y]) dk_92_15 L_92 rfl ?_
    refine RO.i2f (t := 29) dk_92_16 rfl (decide_eq_false (hy.resolve_left c1)) ?_
    exact RO.th dn_92_19 tn_92_19 (by decide)
theorem t_92c {Q : Nat → Option Nat} {D c : Nat} (hQ : ∀ j, j < 8 → Q j = some (20 + 9 * j)) {x y : Int32} {I : dI} {J : dJ} (h : m_40 x I J = some (some c)) (c1 : ¬ y < 0) (c2 : y ≤ 5) (h0 : I c 1 = 0) : EO Q (D + 2) 92 I J [.ref 0, .int x, .int y] (.inr 2) := by
  have okc := ok_ca h
  refine EO.of (by decide) (by rw [L_92]; exact Nat.le_of_ble_eq_true rfl) ?_
  show RO Q (D + 1) 92 0 [(0, .ref 0), (1, .int x), (2, .int y)] [] I J (.inr 2)
  refine RO.pu (st' := [.ref 0]) dk_92_0 L_92 rfl ?_
  refine RO.pu (st' := [.int x, .ref 0]) dk_92_1 L_92 rfl ?_
  refine RO.ca dk_92_2 (ca_40 ck_92_2.choose_spec) (e_40 hQ h) ?_
  refine RO.pu (ls' := [(3, .ref c), (0, .ref 0), (1, .int x), (2, .int y)]) (st' := []) dk_92_5 L_92 rfl ?_
  refine RO.pu (st' := [.ref c]) dk_92_6 L_92 rfl ?_
  refine RO.br (b := false) (st' := []) dk_92_7 (fun _ _ => rfl) rfl ?_
  refine RO.pu (st' := [.int y]) dk_92_10 L_92 rfl ?_
  refine RO.i1f (t := 19) dk_92_11 rfl (decide_eq_false c1) ?_
  refine RO.pu (st' := [.int y]) dk_92_14 L_92 rfl ?_
  refine RO.pu (st' := [.int 5, .int y]) dk_92_15 L_92 rfl ?_
  refine RO.i2t (t := 29) dk_92_16 rfl (decide_eq_true c2) ?_
  refine RO.pu (st' := [.ref c]) dk_92_29 L_92 rfl ?_
  refine RO.gI dk_92_30 f_92_30.choose_spec okc.1 rfl ?_
  refine RO.i1f (t := 36 + 10) dk_92_33 rfl (by rw [h0]; decide) ?_
  exact RO.th dn_92_36 tn_92_36 (by decide)
theorem sr_s {cc : ByteArray} {nL f pc n : Nat} {ls ls' : xm_L} {st st' : List Value} {i : Jvm.ClassFile.Instr} {r : Option (Nat × xm_L × List Value)} (hd : decode cc pc = .ok (i, n)) (hp : xm_pu nL i n ls st = some (ls', st')) (h : xm_sr cc nL f (pc + n) ls' st' = r) : xm_sr cc nL (f + 1) pc ls st = r := by
  rw [xm_sr, hd]
  dsimp only
  rw [hp]
  exact h
theorem hl_TH_of {Q : Nat → Option Nat} {D d j pc x k xx hpc pcr f1 f2 na : Nat} {b : Bool} {I : dI} {J : dJ} {As As' rest st : List Value} {ls ls' : xm_L} {rc : Int32} (hD : d + 1 = D) (hl : (lg_sl As).length ≤ hl_L j) (h1 : xm_sr (hl_b j) (hl_L j) f1 0 (lv_args 0 As) [] = some (pc, ls, st)) (h2 : decode (hl_b j) pc = .ok (.invokevirtual x, 3)) (hc : tb_cr 10 x = some (0, k, b, na)) (hv : xm_sv na st = some (0, As', rest)) (ho : tb_oc k = 8) (he : EO Q D k I J (.ref 0 :: As') (.inr xx)) (hx : xx = 1 ∨ xx = 2) (h3 : hl_to pc xx (hl_h j) = some hpc) (h4 : xm_sr (hl_b j) (hl_L j) f2 hpc [] [.ref 0] = some (pcr, ls', [.int rc])) (h5 : decode (hl_b j) pcr = .ok (.ireturn, 1)) : ∃ F1, ∀ F, F1 ≤ F → hl_TH F d j (bld Q I J) As rc := by
  subst hD
  obtain ⟨F0, he⟩ := he
  refine ⟨F0, fun F hF => ⟨f1, f2, pc, x, k, xx, hpc, pcr, ls, ls', st, .ref 0 :: As', rest, hl, h1, h2, ?_, he F hF, hx, h3, h4, h5⟩⟩
  simp only [xm_ca, hc, if_true, hv, bld_get sk_0, sk_e, ho]
theorem hT_0_1 {Q : Nat → Option Nat} {D : Nat} {x : Int32} {I : dI} {J : dJ} (he : EO Q (D + 1) 39 I J [.ref 0, .int x] (.inr 1)) : ∃ F1, ∀ F, F1 ≤ F → hl_TH F D 0 (bld Q I J) [.ref 0, .int x, .ref 119] 1 := by
  refine hl_TH_of (f1 := 4) (f2 := 2) (pc := 4) (As' := [.int x]) (rest := [.int 0, .ref 119]) (st := [.int x, .ref 0, .int 0, .ref 119]) (ls := [(0, .ref 0), (1, .int x), (2, .ref 119)]) (ls' := [(3, .ref 0)]) (hpc := 12) (pcr := 14) rfl (Nat.le_of_ble_eq_true rfl) ?_ dh_0_4 hc_7.choose_spec rfl rfl he (by decide) rfl ?_ dh_0_14
  · refine sr_s (st' := [.ref 119]) dh_0_0 rfl ?_
    refine sr_s (st' := [.int 0, .ref 119]) dh_0_1 rfl ?_
    refine sr_s (st' := [.ref 0, .int 0, .ref 119]) dh_0_2 rfl ?_
    refine sr_s (st' := [.int x, .ref 0, .int 0, .ref 119]) dh_0_3 rfl ?_
    rfl
  · refine sr_s (ls' := [(3, .ref 0)]) (st' := []) dh_0_12 rfl ?_
    refine sr_s (st' := [.int 1]) dh_0_13 rfl ?_
    rfl
theorem hT_1_1 {Q : Nat → Option Nat} {D : Nat} {x : Int32} {I : dI} {J : dJ} (he : EO Q (D + 1) 85 I J [.ref 0, .int x] (.inr 1)) : ∃ F1, ∀ F, F1 ≤ F → hl_TH F D 1 (bld Q I J) [.ref 0, .int x, .ref 119] 1 := by
  refine hl_TH_of (f1 := 4) (f2 := 2) (pc := 4) (As' := [.int x]) (rest := [.int 0, .ref 119]) (st := [.int x, .ref 0, .int 0, .ref 119]) (ls := [(0, .ref 0), (1, .int x), (2, .ref 119)]) (ls' := [(3, .ref 0)]) (hpc := 19) (pcr := 21) rfl (Nat.le_of_ble_eq_true rfl) ?_ dh_1_4 hc_15.choose_spec rfl rfl he (by decide) rfl ?_ dh_1_21
  · refine sr_s (st' := [.ref 119]) dh_1_0 rfl ?_
    refine sr_s (st' := [.int 0, .ref 119]) dh_1_1 rfl ?_
    refine sr_s (st' := [.ref 0, .int 0, .ref 119]) dh_1_2 rfl ?_
    refine sr_s (st' := [.int x, .ref 0, .int 0, .ref 119]) dh_1_3 rfl ?_
    rfl
  · refine sr_s (ls' := [(3, .ref 0)]) (st' := []) dh_1_19 rfl ?_
    refine sr_s (st' := [.int 1]) dh_1_20 rfl ?_
    rfl
theorem hT_2_1 {Q : Nat → Option Nat} {D : Nat} {x y : Int32} {I : dI} {J : dJ} (he : EO Q (D + 1) 86 I J [.ref 0, .int x, .int y] (.inr 1)) : ∃ F1, ∀ F, F1 ≤ F → hl_TH F D 2 (bld Q I J) [.ref 0, .int x, .int y] 1 := by
  refine hl_TH_of (f1 := 3) (f2 := 2) (pc := 3) (As' := [.int x, .int y]) (rest := []) (st := [.int y, .int x, .ref 0]) (ls := [(0, .ref 0), (1, .int x), (2, .int y)]) (ls' := [(3, .ref 0)]) (hpc := 9) (pcr := 11) rfl (Nat.le_of_ble_eq_true rfl) ?_ dh_2_3 hc_19.choose_spec rfl rfl he (by decide) rfl ?_ dh_2_11
  · refine sr_s (st' := [.ref 0]) dh_2_0 rfl ?_
    refine sr_s (st' := [.int x, .ref 0]) dh_2_1 rfl ?_
    refine sr_s (st' := [.int y, .int x, .ref 0]) dh_2_2 rfl ?_
    rfl
  · refine sr_s (ls' := [(3, .ref 0)]) (st' := []) dh_2_9 rfl ?_
    refine sr_s (st' := [.int 1]) dh_2_10 rfl ?_
    rfl
theorem hT_3_1 {Q : Nat → Option Nat} {D : Nat} {x y : Int32} {I : dI} {J : dJ} (he : EO Q (D + 1) 88 I J [.ref 0, .int x, .int y] (.inr 1)) : ∃ F1, ∀ F, F1 ≤ F → hl_TH F D 3 (bld Q I J) [.ref 0, .int x, .int y] 1 := by
  refine hl_TH_of (f1 := 3) (f2 := 2) (pc := 3) (As' := [.int x, .int y]) (rest := []) (st := [.int y, .int x, .ref 0]) (ls := [(0, .ref 0), (1, .int x), (2, .int y)]) (ls' := [(3, .ref 0)]) (hpc := 9) (pcr := 11) rfl (Nat.le_of_ble_eq_true rfl) ?_ dh_3_3 hc_23.choose_spec rfl rfl he (by decide) rfl ?_ dh_3_11
  · refine sr_s (st' := [.ref 0]) dh_3_0 rfl ?_
    refine sr_s (st' := [.int x, .ref 0]) dh_3_1 rfl ?_
    refine sr_s (st' := [.int y, .int x, .ref 0]) dh_3_2 rfl ?_
    rfl
  · refine sr_s (ls' := [(3, .ref 0)]) (st' := []) dh_3_9 rfl ?_
    refine sr_s (st' := [.int 1]) dh_3_10 rfl ?_
    rfl
theorem hT_4_1 {Q : Nat → Option Nat} {D : Nat} {x y : Int32} {I : dI} {J : dJ} (he : EO Q (D + 1) 90 I J [.ref 0, .int x, .int y] (.inr 1)) : ∃ F1, ∀ F, F1 ≤ F → hl_TH F D 4 (bld Q I J) [.ref 0, .int x, .int y, .ref 119] 1 := by
  refine hl_TH_of (f1 := 5) (f2 := 2) (pc := 5) (As' := [.int x, .int y]) (rest := [.int 0, .ref 119]) (st := [.int y, .int x, .ref 0, .int 0, .ref 119]) (ls := [(0, .ref 0), (1, .int x), (2, .int y), (3, .ref 119)]) (ls' := [(4, .ref 0)]) (hpc := 13) (pcr := 16) rfl (Nat.le_of_ble_eq_true rfl) ?_ dh_4_5 hc_26.choose_spec rfl rfl he (by decide) rfl ?_ dh_4_16
  · refine sr_s (st' := [.ref 119]) dh_4_0 rfl ?_
    refine sr_s (st' := [.int 0, .ref 119]) dh_4_1 rfl ?_
    refine sr_s (st' := [.ref 0, .int 0, .ref 119]) dh_4_2 rfl ?_
    refine sr_s (st' := [.int x, .ref 0, .int 0, .ref 119]) dh_4_3 rfl ?_
    refine sr_s (st' := [.int y, .int x, .ref 0, .int 0, .ref 119]) dh_4_4 rfl ?_
    rfl
  · refine sr_s (ls' := [(4, .ref 0)]) (st' := []) dh_4_13 rfl ?_
    refine sr_s (st' := [.int 1]) dh_4_15 rfl ?_
    rfl
theorem hT_4_2 {Q : Nat → Option Nat} {D : Nat} {x y : Int32} {I : dI} {J : dJ} (he : EO Q (D + 1) 90 I J [.ref 0, .int x, .int y] (.inr 2)) : ∃ F1, ∀ F, F1 ≤ F → hl_TH F D 4 (bld Q I J) [.ref 0, .int x, .int y, .ref 119] 2 := by
  refine hl_TH_of (f1 := 5) (f2 := 2) (pc := 5) (As' := [.int x, .int y]) (rest := [.int 0, .ref 119]) (st := [.int y, .int x, .ref 0, .int 0, .ref 119]) (ls := [(0, .ref 0), (1, .int x), (2, .int y), (3, .ref 119)]) (ls' := [(4, .ref 0)]) (hpc := 17) (pcr := 20) rfl (Nat.le_of_ble_eq_true rfl) ?_ dh_4_5 hc_26.choose_spec rfl rfl he (by decide) rfl ?_ dh_4_20
  · refine sr_s (st' := [.ref 119]) dh_4_0 rfl ?_
    refine sr_s (st' := [.int 0, .ref 119]) dh_4_1 rfl ?_
    refine sr_s (st' := [.ref 0, .int 0, .ref 119]) dh_4_2 rfl ?_
    refine sr_s (st' := [.int x, .ref 0, .int 0, .ref 119]) dh_4_3 rfl ?_
    refine sr_s (st' := [.int y, .int x, .ref 0, .int 0, .ref 119]) dh_4_4 rfl ?_
    rfl
  · refine sr_s (ls' := [(4, .ref 0)]) (st' := []) dh_4_17 rfl ?_
    refine sr_s (st' := [.int 2]) dh_4_19 rfl ?_
    rfl
theorem hT_5_1 {Q : Nat → Option Nat} {D : Nat} {x : Int32} {I : dI} {J : dJ} (he : EO Q (D + 1) 91 I J [.ref 0, .int x] (.inr 1)) : ∃ F1, ∀ F, F1 ≤ F → hl_TH F D 5 (bld Q I J) [.ref 0, .int x, .ref 119] 1 := by
  refine hl_TH_of (f1 := 4) (f2 := 2) (pc := 4) (As' := [.int x]) (rest := [.int 0, .ref 119]) (st := [.int x, .ref 0, .int 0, .ref 119]) (ls := [(0, .ref 0), (1, .int x), (2, .ref 119)]) (ls' := [(3, .ref 0)]) (hpc := 12) (pcr := 14) rfl (Nat.le_of_ble_eq_true rfl) ?_ dh_5_4 hc_32.choose_spec rfl rfl he (by decide) rfl ?_ dh_5_14
  · refine sr_s (st' := [.ref 119]) dh_5_0 rfl ?_
    refine sr_s (st' := [.int 0, .ref 119]) dh_5_1 rfl ?_
    refine sr_s (st' := [.ref 0, .int 0, .ref 119]) dh_5_2 rfl ?_
    refine sr_s (st' := [.int x, .ref 0, .int 0, .ref 119]) dh_5_3 rfl ?_
    rfl
  · refine sr_s (ls' := [(3, .ref 0)]) (st' := []) dh_5_12 rfl ?_
    refine sr_s (st' := [.int 1]) dh_5_13 rfl ?_
    rfl
theorem hT_5_2 {Q : Nat → Option Nat} {D : Nat} {x : Int32} {I : dI} {J : dJ} (he : EO Q (D + 1) 91 I J [.ref 0, .int x] (.inr 2)) : ∃ F1, ∀ F, F1 ≤ F → hl_TH F D 5 (bld Q I J) [.ref 0, .int x, .ref 119] 2 := by
  refine hl_TH_of (f1 := 4) (f2 := 2) (pc := 4) (As' := [.int x]) (rest := [.int 0, .ref 119]) (st := [.int x, .ref 0, .int 0, .ref 119]) (ls := [(0, .ref 0), (1, .int x), (2, .ref 119)]) (ls' := [(3, .ref 0)]) (hpc := 15) (pcr := 17) rfl (Nat.le_of_ble_eq_true rfl) ?_ dh_5_4 hc_32.choose_spec rfl rfl he (by decide) rfl ?_ dh_5_17
  · refine sr_s (st' := [.ref 119]) dh_5_0 rfl ?_
    refine sr_s (st' := [.int 0, .ref 119]) dh_5_1 rfl ?_
    refine sr_s (st' := [.ref 0, .int 0, .ref 119]) dh_5_2 rfl ?_
    refine sr_s (st' := [.int x, .ref 0, .int 0, .ref 119]) dh_5_3 rfl ?_
    rfl
  · refine sr_s (ls' := [(3, .ref 0)]) (st' := []) dh_5_15 rfl ?_
    refine sr_s (st' := [.int 2]) dh_5_16 rfl ?_
    rfl
theorem hT_6_1 {Q : Nat → Option Nat} {D : Nat} {x y : Int32} {I : dI} {J : dJ} (he : EO Q (D + 1) 92 I J [.ref 0, .int x, .int y] (.inr 1)) : ∃ F1, ∀ F, F1 ≤ F → hl_TH F D 6 (bld Q I J) [.ref 0, .int x, .int y, .ref 119] 1 := by
  refine hl_TH_of (f1 := 5) (f2 := 2) (pc := 5) (As' := [.int x, .int y]) (rest := [.int 0, .ref 119]) (st := [.int y, .int x, .ref 0, .int 0, .ref 119]) (ls := [(0, .ref 0), (1, .int x), (2, .int y), (3, .ref 119)]) (ls' := [(4, .ref 0)]) (hpc := 12) (pcr := 15) rfl (Nat.le_of_ble_eq_true rfl) ?_ dh_6_5 hc_35.choose_spec rfl rfl he (by decide) rfl ?_ dh_6_15
  · refine sr_s (st' := [.ref 119]) dh_6_0 rfl ?_
    refine sr_s (st' := [.int 0, .ref 119]) dh_6_1 rfl ?_
    refine sr_s (st' := [.ref 0, .int 0, .ref 119]) dh_6_2 rfl ?_
    refine sr_s (st' := [.int x, .ref 0, .int 0, .ref 119]) dh_6_3 rfl ?_
    refine sr_s (st' := [.int y, .int x, .ref 0, .int 0, .ref 119]) dh_6_4 rfl ?_
    rfl
  · refine sr_s (ls' := [(4, .ref 0)]) (st' := []) dh_6_12 rfl ?_
    refine sr_s (st' := [.int 1]) dh_6_14 rfl ?_
    rfl
theorem hT_6_2 {Q : Nat → Option Nat} {D : Nat} {x y : Int32} {I : dI} {J : dJ} (he : EO Q (D + 1) 92 I J [.ref 0, .int x, .int y] (.inr 2)) : ∃ F1, ∀ F, F1 ≤ F → hl_TH F D 6 (bld Q I J) [.ref 0, .int x, .int y, .ref 119] 2 := by
  refine hl_TH_of (f1 := 5) (f2 := 2) (pc := 5) (As' := [.int x, .int y]) (rest := [.int 0, .ref 119]) (st := [.int y, .int x, .ref 0, .int 0, .ref 119]) (ls := [(0, .ref 0), (1, .int x), (2, .int y), (3, .ref 119)]) (ls' := [(4, .ref 0)]) (hpc := 16) (pcr := 19) rfl (Nat.le_of_ble_eq_true rfl) ?_ dh_6_5 hc_35.choose_spec rfl rfl he (by decide) rfl ?_ dh_6_19
  · refine sr_s (st' := [.ref 119]) dh_6_0 rfl ?_
    refine sr_s (st' := [.int 0, .ref 119]) dh_6_1 rfl ?_
    refine sr_s (st' := [.ref 0, .int 0, .ref 119]) dh_6_2 rfl ?_
    refine sr_s (st' := [.int x, .ref 0, .int 0, .ref 119]) dh_6_3 rfl ?_
    refine sr_s (st' := [.int y, .int x, .ref 0, .int 0, .ref 119]) dh_6_4 rfl ?_
    rfl
  · refine sr_s (ls' := [(4, .ref 0)]) (st' := []) dh_6_16 rfl ?_
    refine sr_s (st' := [.int 2]) dh_6_18 rfl ?_
    rfl
