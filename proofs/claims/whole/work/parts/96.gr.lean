/-! Runs of the law's own bodies: for all fuel from some on, with what they cost. -/
abbrev gXT : Type := Jvm.ClassFile.Instr → Nat → List Value → xm_H → xm_P
abbrev gXC : Type := Jvm.ClassFile.Instr → Nat → List Value → xm_H → Option (List Value × xm_H × Nat × Nat)
def gx (call : Nat → xm_H → List Value → Option xm_R) (xt : gXT) (xc : gXC) (cc : ByteArray) (nL : Nat) (ret : Option FieldType) (f pc : Nat) (ls : xm_L) (st : List Value) (A : xm_H) (nc ns : Nat) : Option xm_R := xm_rn call xt xc tb_cl tb_tt tb_ft (tb_fr 10) none (tb_nr 10) (tb_qr 10) tb_ta tb_oc (tb_cr 10) cc nL ret f pc ls st A nc ns
def GR (D : Nat) (xt : gXT) (xc : Nat → gXC) (cc : ByteArray) (nL : Nat) (ret : Option FieldType) (Q : Nat → Option Nat) (R : dI → dJ → Option Value → Prop) (C S pc : Nat) (ls : xm_L) (st : List Value) (I : dI) (J : dJ) : Prop := ∀ l2, xm_sub ls l2 → ∃ F0 f, ∀ F, F0 ≤ F → ∀ nc ns, ∃ c s I' J' v, c ≤ C ∧ s ≤ S ∧ R I' J' v ∧ gx (tb_ex F D) xt (xc F) cc nL ret f pc l2 st (bld Q I J) nc ns = some (bld Q I' J', .inl v, nc + c, ns + s)
section GRA
variable {D : Nat} {xt : gXT} {xc : Nat → gXC} {cc : ByteArray} {nL : Nat} {ret : Option FieldType} {Q : Nat → Option Nat} {R : dI → dJ → Option Value → Prop} {C S pc n : Nat} {ls ls' : xm_L} {st st' : List Value} {I I1 : dI} {J J1 : dJ} {i : Jvm.ClassFile.Instr}
theorem GR.wk (is : List Nat) (hs : is.filterMap (fun i => ls[i]?) = ls') (h : GR D xt xc cc nL ret Q R C S pc ls' st I J) : GR D xt xc cc nL ret Q R C S pc ls st I J := by
  intro l2 h2
  refine h l2 ⟨fun q hq => h2.1 q ?_, h2.2⟩
  subst hs
  obtain ⟨i, -, hi⟩ := List.mem_filterMap.mp hq
  exact List.mem_of_getElem? hi
theorem GR.le {C' S' : Nat} (hC : C ≤ C') (hS : S ≤ S') (h : GR D xt xc cc nL ret Q R C S pc ls st I J) : GR D xt xc cc nL ret Q R C' S' pc ls st I J := by
  intro l2 h2
  obtain ⟨F0, f, h⟩ := h l2 h2
  refine ⟨F0, f, fun F hF nc ns => ?_⟩
  obtain ⟨c, s, I', J', v, h1, h2, h3⟩ := h F hF nc ns
  exact ⟨c, s, I', J', v, by omega, by omega, h3⟩
theorem GR.pu (hd : decode cc pc = .ok (i, n)) (hp : xm_pu nL i n ls st = some (ls', st')) (h : GR D xt xc cc nL ret Q R C S (pc + n) ls' st' I J) : GR D xt xc cc nL ret Q R C S pc ls st I J := by
  intro l2 h2
  obtain ⟨l2', hp', h2'⟩ := xm_pu_sub h2 hp
  obtain ⟨F0, f, h⟩ := h l2' h2'
  refine ⟨F0, f + 1, fun F hF nc ns => ?_⟩
  obtain ⟨c, s, I', J', v, h1, h2, h3, h4⟩ := h F hF nc ns
  refine ⟨c, s, I', J', v, h1, h2, h3, ?_⟩
  unfold gx at h4 ⊢
  rw [xm_rn, hd]
  dsimp only
  rw [hp']
  exact h4
theorem GR.br {b : Bool} {t : Nat} (hd : decode cc pc = .ok (i, n)) (hp : ∀ nL l, xm_pu nL i n l st = none) (hb : xm_br i n pc st = some (b, t, st')) (h : GR D xt xc cc nL ret Q R C S (if b = true then t else pc + n) ls st' I J) : GR D xt xc cc nL ret Q R C S pc ls st I J := by
  intro l2 h2
  obtain ⟨F0, f, h⟩ := h l2 h2
  refine ⟨F0, f + 1, fun F hF nc ns => ?_⟩
  obtain ⟨c, s, I', J', v, h1, h2, h3, h4⟩ := h F hF nc ns
  refine ⟨c, s, I', J', v, h1, h2, h3, ?_⟩
  unfold gx at h4 ⊢
  rw [xm_rn, hd]
  dsimp only
  rw [hp]
  dsimp only
  rw [hb]
  dsimp only
  cases b with
  | true => rw [if_pos rfl] at h4 ⊢; exact h4
  | false => rw [if_neg Bool.false_ne_true] at h4 ⊢; exact h4
theorem GR.hp (hd : decode cc pc = .ok (i, n)) (hp : ∀ nL l, xm_pu nL i n l st = none) (hb : xm_br i n pc st = none) (hh : xm_hp tb_cl tb_tt tb_ft (tb_fr 10) none i n st (bld Q I J) = some (st', bld Q I1 J1)) (h : GR D xt xc cc nL ret Q R C S (pc + n) ls st' I1 J1) : GR D xt xc cc nL ret Q R C S pc ls st I J := by
  intro l2 h2
  obtain ⟨F0, f, h⟩ := h l2 h2
  refine ⟨F0, f + 1, fun F hF nc ns => ?_⟩
  obtain ⟨c, s, I', J', v, h1, h2, h3, h4⟩ := h F hF nc ns
  refine ⟨c, s, I', J', v, h1, h2, h3, ?_⟩
  unfold gx at h4 ⊢
  rw [xm_rn, hd]
  dsimp only
  rw [hp]
  dsimp only
  rw [hb]
  dsimp only
  rw [hh]
  dsimp only
  exact h4
theorem GR.re {v : Option Value} (hd : decode cc pc = .ok (i, n)) (hp : ∀ nL l, xm_pu nL i n l st = none) (hb : xm_br i n pc st = none) (hh : ∀ A, xm_hp tb_cl tb_tt tb_ft (tb_fr 10) none i n st A = none) (hr : xm_re ret i n st = some v) (h : R I J v) : GR D xt xc cc nL ret Q R C S pc ls st I J := by
  intro l2 h2
  refine ⟨0, 1, fun F hF nc ns => ⟨0, 0, I, J, v, Nat.zero_le _, Nat.zero_le _, h, ?_⟩⟩
  unfold gx
  rw [xm_rn, hd]
  dsimp only
  rw [hp]
  dsimp only
  rw [hb]
  dsimp only
  rw [hh]
  dsimp only
  rw [hr]
  rfl
theorem GR.ca {k' D' : Nat} {As rest : List Value} {w : Option Value} (hd : decode cc pc = .ok (i, n)) (hp : ∀ nL l, xm_pu nL i n l st = none) (hb : xm_br i n pc st = none) (hh : ∀ A, xm_hp tb_cl tb_tt tb_ft (tb_fr 10) none i n st A = none) (hr : ∀ r, xm_re r i n st = none) (hc : xm_ca tb_oc (tb_cr 10) i n st (bld Q I J) = some (k', As, rest)) (he : Ex Q D' k' I J As w I1 J1) (hD : D' ≤ D) (h : GR D xt xc cc nL ret Q R C S (pc + 3) ls (w.toList ++ rest) I1 J1) : GR D xt xc cc nL ret Q R C S pc ls st I J := by
  intro l2 h2
  obtain ⟨F0, f, h⟩ := h l2 h2
  obtain ⟨F1, he⟩ := he
  refine ⟨F0 + F1, f + 1, fun F hF nc ns => ?_⟩
  obtain ⟨c, s, I', J', v, h1, h2, h3, h4⟩ := h F (by omega) nc ns
  refine ⟨c, s, I', J', v, h1, h2, h3, ?_⟩
  unfold gx at h4 ⊢
  rw [xm_rn, hd]
  dsimp only
  rw [hp]
  dsimp only
  rw [hb]
  dsimp only
  rw [hh]
  dsimp only
  rw [hr]
  dsimp only
  rw [hc]
  dsimp only
  rw [tb_ex_up (F' := F) (by omega) _ _ _ _ _ _ hD he]
  dsimp only
  rw [if_pos (Or.inl (by rw [bld_len, bld_len]))]
  exact h4
theorem GR.xtt (hd : decode cc pc = .ok (i, n)) (hp : ∀ nL l, xm_pu nL i n l st = none) (hb : xm_br i n pc st = none) (hh : xm_hp tb_cl tb_tt tb_ft (tb_fr 10) none i n st (bld Q I J) = none) (hr : ∀ r, xm_re r i n st = none) (hc : xm_ca tb_oc (tb_cr 10) i n st (bld Q I J) = none) (hw : xm_nw tb_cl tb_tt tb_ft (tb_nr 10) (tb_qr 10) tb_ta i n st = none) (hx : xt i n st (bld Q I J) = some (st', bld Q I1 J1)) (h : GR D xt xc cc nL ret Q R C S (pc + n) ls st' I1 J1) : GR D xt xc cc nL ret Q R C S pc ls st I J := by
  intro l2 h2
  obtain ⟨F0, f, h⟩ := h l2 h2
  refine ⟨F0, f + 1, fun F hF nc ns => ?_⟩
  obtain ⟨c, s, I', J', v, h1, h2, h3, h4⟩ := h F hF nc ns
  refine ⟨c, s, I', J', v, h1, h2, h3, ?_⟩
  unfold gx at h4 ⊢
  rw [xm_rn, hd]
  dsimp only
  rw [hp]
  dsimp only
  rw [hb]
  dsimp only
  rw [hh]
  dsimp only
  rw [hr]
  dsimp only
  rw [hc]
  dsimp only
  rw [hw]
  dsimp only
  rw [hx]
  dsimp only
  exact h4
theorem GR.xcc {c1 s1 : Nat} (hd : decode cc pc = .ok (i, n)) (hp : ∀ nL l, xm_pu nL i n l st = none) (hb : xm_br i n pc st = none) (hh : xm_hp tb_cl tb_tt tb_ft (tb_fr 10) none i n st (bld Q I J) = none) (hr : ∀ r, xm_re r i n st = none) (hc : xm_ca tb_oc (tb_cr 10) i n st (bld Q I J) = none) (hw : xm_nw tb_cl tb_tt tb_ft (tb_nr 10) (tb_qr 10) tb_ta i n st = none) (hx : xt i n st (bld Q I J) = none) (hy : ∃ F1, ∀ F, F1 ≤ F → xc F i n st (bld Q I J) = some (st', bld Q I1 J1, c1, s1)) (h : GR D xt xc cc nL ret Q R C S (pc + n) ls st' I1 J1) : GR D xt xc cc nL ret Q R (C + c1) (S + s1) pc ls st I J := by
  intro l2 h2
  obtain ⟨F0, f, h⟩ := h l2 h2
  obtain ⟨F1, hy⟩ := hy
  refine ⟨F0 + F1, f + 1, fun F hF nc ns => ?_⟩
  obtain ⟨c, s, I', J', v, h1, h2, h3, h4⟩ := h F (by omega) (nc + c1) (ns + s1)
  refine ⟨c + c1, s + s1, I', J', v, by omega, by omega, h3, ?_⟩
  unfold gx at h4 ⊢
  rw [xm_rn, hd]
  dsimp only
  rw [hp]
  dsimp only
  rw [hb]
  dsimp only
  rw [hh]
  dsimp only
  rw [hr]
  dsimp only
  rw [hc]
  dsimp only
  rw [hw]
  dsimp only
  rw [hx]
  dsimp only
  rw [hy F (by omega)]
  dsimp only
  rw [h4, show nc + c1 + c = nc + (c + c1) by omega, show ns + s1 + s = ns + (s + s1) by omega]
theorem GR.lald {m : Nat} {p : Nat} {j : Int32} (hd : decode cc pc = .ok (.laload, 1)) (hs : SK[p]? = some (.inr (1, m, 1))) (hj : ¬ (j < 0 ∨ m ≤ j.toNatClampNeg)) (h : GR D xt xc cc nL ret Q R C S (pc + 1) ls (.long (J p j.toNatClampNeg) :: st) I J) : GR D xt xc cc nL ret Q R C S pc ls (.int j :: .ref p :: st) I J := by
  refine GR.hp hd (fun _ _ => rfl) rfl ?_ h
  simp only [xm_hp, if_true, xm_al, bld_get hs, sk_e, xm_ix, hj, not_false_eq_true, Option.map_some]
  rfl
theorem GR.last {m : Nat} {p : Nat} {j : Int32} {w : Int64} (hd : decode cc pc = .ok (.lastore, 1)) (hs : SK[p]? = some (.inr (1, m, 1))) (hj : ¬ (j < 0 ∨ m ≤ j.toNatClampNeg)) (h : GR D xt xc cc nL ret Q R C S (pc + 1) ls st I (sJ J p j.toNatClampNeg w)) : GR D xt xc cc nL ret Q R C S pc ls (.long w :: .int j :: .ref p :: st) I J := by
  refine GR.hp hd (fun _ _ => rfl) rfl ?_ h
  have e1 := bld_setJ (Q := Q) (I := I) (J := J) hs (vp_updL (J p) j.toNatClampNeg w)
  simp only [sk_e] at e1
  simp only [xm_hp, if_true, xm_bl, bld_get hs, sk_e, xm_ix, hj, not_false_eq_true, Option.map_some, e1, sJ]
  rfl
theorem GR.go {t : Nat} {off : Int} (hd : decode cc pc = .ok (.goto off, 3)) (ht : xm_tg pc off = some t) (h : GR D xt xc cc nL ret Q R C S t ls st I J) : GR D xt xc cc nL ret Q R C S pc ls st I J := by
  refine GR.br (b := true) (t := t) hd (fun _ _ => rfl) ?_ (by rw [if_pos rfl]; exact h)
  simp only [xm_br, if_true, ht, Option.map_some]
theorem GR.i1t {t : Nat} {a : Jvm.ClassFile.Cond} {off : Int} {y : Int32} (hd : decode cc pc = .ok (.ifCond a off, 3)) (ht : xm_tg pc off = some t) (hc : xm_cd a y 0 = true) (h : GR D xt xc cc nL ret Q R C S t ls st I J) : GR D xt xc cc nL ret Q R C S pc ls (.int y :: st) I J := by
  refine GR.br (b := true) (t := t) hd (fun _ _ => rfl) ?_ (by rw [if_pos rfl]; exact h)
  simp only [xm_br, if_true, ht, Option.map_some, hc]
theorem GR.i1f {t : Nat} {a : Jvm.ClassFile.Cond} {off : Int} {y : Int32} (hd : decode cc pc = .ok (.ifCond a off, 3)) (ht : xm_tg pc off = some t) (hc : xm_cd a y 0 = false) (h : GR D xt xc cc nL ret Q R C S (pc + 3) ls st I J) : GR D xt xc cc nL ret Q R C S pc ls (.int y :: st) I J := by
  refine GR.br (b := false) (t := t) hd (fun _ _ => rfl) ?_ (by rw [if_neg Bool.false_ne_true]; exact h)
  simp only [xm_br, if_true, ht, Option.map_some, hc]
theorem GR.i2t {t : Nat} {a : Jvm.ClassFile.Cond} {off : Int} {y z : Int32} (hd : decode cc pc = .ok (.if_icmp a off, 3)) (ht : xm_tg pc off = some t) (hc : xm_cd a y z = true) (h : GR D xt xc cc nL ret Q R C S t ls st I J) : GR D xt xc cc nL ret Q R C S pc ls (.int z :: .int y :: st) I J := by
  refine GR.br (b := true) (t := t) hd (fun _ _ => rfl) ?_ (by rw [if_pos rfl]; exact h)
  simp only [xm_br, if_true, ht, Option.map_some, hc]
theorem GR.i2f {t : Nat} {a : Jvm.ClassFile.Cond} {off : Int} {y z : Int32} (hd : decode cc pc = .ok (.if_icmp a off, 3)) (ht : xm_tg pc off = some t) (hc : xm_cd a y z = false) (h : GR D xt xc cc nL ret Q R C S (pc + 3) ls st I J) : GR D xt xc cc nL ret Q R C S pc ls (.int z :: .int y :: st) I J := by
  refine GR.br (b := false) (t := t) hd (fun _ _ => rfl) ?_ (by rw [if_neg Bool.false_ne_true]; exact h)
  simp only [xm_br, if_true, ht, Option.map_some, hc]
theorem GR.ri {y : Int32} {ty : FieldType} (hd : decode cc pc = .ok (.ireturn, 1)) (hr : ret = some ty) (hn : narrow ty (.int y) = .int y) (h : R I J (some (.int y))) : GR D xt xc cc nL ret Q R C S pc ls [.int y] I J := GR.re hd (fun _ _ => rfl) rfl (fun _ => rfl) (by rw [hr]; simp [xm_re, hn]) h
end GRA
