/-! A rule for each kind of step. -/
section RUA
variable {Q : Nat → Option Nat} {D k pc p x ci kk : Nat} {b : Bool} {cs : List Nat} {ls : xm_L} {st : List Value} {I I' : dI} {J J' : dJ} {v : Option Value} {t n : Nat}
theorem sk_get0 {cs : List Nat} {f : Nat → Int32} {g : Nat → Int64} {c : Nat} (h : cs[kk]? = some c) : (cs.mapIdx (sk_f f g))[kk]? = some (sk_f f g kk c) := by
  simp [List.getElem?_mapIdx, h]
theorem Rn.gI (hd : decode (tb_mb k) pc = .ok (.getfield x, 3)) (hf : tb_fr (tb_oc k) x = some (ci, kk, b)) (hs : SK[p]? = some (.inl (ci, cs))) (hc : cs[kk]? = some 0) (h : Rn Q D k (pc + 3) ls (.int (I p kk) :: st) I J v I' J') : Rn Q D k pc ls (.ref p :: st) I J v I' J' := by
  refine Rn.hp hd (fun _ _ => rfl) rfl ?_ h
  simp only [xm_hp, hf, if_true, xm_gf, bld_get hs, sk_e, sk_get0 hc, sk_f]
theorem Rn.gJ (hd : decode (tb_mb k) pc = .ok (.getfield x, 3)) (hf : tb_fr (tb_oc k) x = some (ci, kk, b)) (hs : SK[p]? = some (.inl (ci, cs))) (hc : cs[kk]? = some 1) (h : Rn Q D k (pc + 3) ls (.long (J p kk) :: st) I J v I' J') : Rn Q D k pc ls (.ref p :: st) I J v I' J' := by
  refine Rn.hp hd (fun _ _ => rfl) rfl ?_ h
  simp only [xm_hp, hf, if_true, xm_gf, bld_get hs, sk_e, sk_get0 hc, sk_f]
theorem Rn.gR {r : Nat} (hd : decode (tb_mb k) pc = .ok (.getfield x, 3)) (hf : tb_fr (tb_oc k) x = some (ci, kk, b)) (hs : SK[p]? = some (.inl (ci, cs))) (hc : cs[kk]? = some (r + 2)) (h : Rn Q D k (pc + 3) ls (.ref r :: st) I J v I' J') : Rn Q D k pc ls (.ref p :: st) I J v I' J' := by
  refine Rn.hp hd (fun _ _ => rfl) rfl ?_ h
  simp only [xm_hp, hf, if_true, xm_gf, bld_get hs, sk_e, sk_get0 hc, sk_f]
theorem Rn.pI {w : Int32} (hd : decode (tb_mb k) pc = .ok (.putfield x, 3)) (hf : tb_fr (tb_oc k) x = some (ci, kk, b)) (hs : SK[p]? = some (.inl (ci, cs))) (hc : cs[kk]? = some 0) (hg : xm_fin tb_cl (tb_ini k) b ci kk = true) (hn : narrow (tb_ft ci kk) (.int w) = .int w) (hi : fits (tb_ft ci kk) (.int w) = true) (h : Rn Q D k (pc + 3) ls st (sI I p kk w) J v I' J') : Rn Q D k pc ls (.int w :: .ref p :: st) I J v I' J' := by
  refine Rn.hp hd (fun _ _ => rfl) rfl ?_ h
  have hl : kk < cs.length := (List.getElem?_eq_some_iff.mp hc).1
  have e1 := bld_setI (Q := Q) (I := I) (J := J) hs (upd (I p) kk w)
  simp only [sk_e] at e1
  simp only [xm_hp, hf, if_true, xm_pf, bld_get hs, sk_e, List.length_mapIdx, hl, hg, hn, hi, true_and, and_true, sk_setI hc, e1, sI]
theorem Rn.pJ {w : Int64} (hd : decode (tb_mb k) pc = .ok (.putfield x, 3)) (hf : tb_fr (tb_oc k) x = some (ci, kk, b)) (hs : SK[p]? = some (.inl (ci, cs))) (hc : cs[kk]? = some 1) (hg : xm_fin tb_cl (tb_ini k) b ci kk = true) (hn : narrow (tb_ft ci kk) (.long w) = .long w) (hi : fits (tb_ft ci kk) (.long w) = true) (h : Rn Q D k (pc + 3) ls st I (sJ J p kk w) v I' J') : Rn Q D k pc ls (.long w :: .ref p :: st) I J v I' J' := by
  refine Rn.hp hd (fun _ _ => rfl) rfl ?_ h
  have hl : kk < cs.length := (List.getElem?_eq_some_iff.mp hc).1
  have e1 := bld_setJ (Q := Q) (I := I) (J := J) hs (vp_updL (J p) kk w)
  simp only [sk_e] at e1
  simp only [xm_hp, hf, if_true, xm_pf, bld_get hs, sk_e, List.length_mapIdx, hl, hg, hn, hi, true_and, and_true, sk_setJ hc, e1, sJ]
theorem Rn.iald {j : Int32} (hd : decode (tb_mb k) pc = .ok (.iaload, 1)) (hs : SK[p]? = some (.inr (0, n, 0))) (hj : ¬ (j < 0 ∨ n ≤ j.toNatClampNeg)) (h : Rn Q D k (pc + 1) ls (.int (I p j.toNatClampNeg) :: st) I J v I' J') : Rn Q D k pc ls (.int j :: .ref p :: st) I J v I' J' := by
  refine Rn.hp hd (fun _ _ => rfl) rfl ?_ h
  simp only [xm_hp, if_true, xm_ai, bld_get hs, sk_e, xm_ix, hj, not_false_eq_true, Option.map_some]
  rfl
theorem Rn.cald {j : Int32} (hd : decode (tb_mb k) pc = .ok (.caload, 1)) (hs : SK[p]? = some (.inr (2, n, 0))) (hj : ¬ (j < 0 ∨ n ≤ j.toNatClampNeg)) (h : Rn Q D k (pc + 1) ls (.int (I p j.toNatClampNeg) :: st) I J v I' J') : Rn Q D k pc ls (.int j :: .ref p :: st) I J v I' J' := by
  refine Rn.hp hd (fun _ _ => rfl) rfl ?_ h
  simp only [xm_hp, if_true, xm_ai, bld_get hs, sk_e, xm_ix, hj, not_false_eq_true, Option.map_some]
  rfl
theorem Rn.bald {j : Int32} (hd : decode (tb_mb k) pc = .ok (.baload, 1)) (hs : SK[p]? = some (.inr (3, n, 0))) (hj : ¬ (j < 0 ∨ n ≤ j.toNatClampNeg)) (h : Rn Q D k (pc + 1) ls (.int (I p j.toNatClampNeg) :: st) I J v I' J') : Rn Q D k pc ls (.int j :: .ref p :: st) I J v I' J' := by
  refine Rn.hp hd (fun _ _ => rfl) rfl ?_ h
  simp only [xm_hp, if_true, xm_ai, bld_get hs, sk_e, xm_ix, hj, not_false_eq_true, Option.map_some]
  rfl
theorem Rn.lald {j : Int32} (hd : decode (tb_mb k) pc = .ok (.laload, 1)) (hs : SK[p]? = some (.inr (1, n, 1))) (hj : ¬ (j < 0 ∨ n ≤ j.toNatClampNeg)) (h : Rn Q D k (pc + 1) ls (.long (J p j.toNatClampNeg) :: st) I J v I' J') : Rn Q D k pc ls (.int j :: .ref p :: st) I J v I' J' := by
  refine Rn.hp hd (fun _ _ => rfl) rfl ?_ h
  simp only [xm_hp, if_true, xm_al, bld_get hs, sk_e, xm_ix, hj, not_false_eq_true, Option.map_some]
  rfl
theorem Rn.iast {j w : Int32} (hd : decode (tb_mb k) pc = .ok (.iastore, 1)) (hs : SK[p]? = some (.inr (0, n, 0))) (hj : ¬ (j < 0 ∨ n ≤ j.toNatClampNeg)) (h : Rn Q D k (pc + 1) ls st (sI I p j.toNatClampNeg w) J v I' J') : Rn Q D k pc ls (.int w :: .int j :: .ref p :: st) I J v I' J' := by
  refine Rn.hp hd (fun _ _ => rfl) rfl ?_ h
  have e1 := bld_setI (Q := Q) (I := I) (J := J) hs (upd (I p) j.toNatClampNeg w)
  simp only [sk_e] at e1
  simp only [xm_hp, if_true, xm_bi, bld_get hs, sk_e, xm_ix, hj, not_false_eq_true, Option.map_some, e1, sI]
  rfl
theorem Rn.cast {j w : Int32} (hd : decode (tb_mb k) pc = .ok (.castore, 1)) (hs : SK[p]? = some (.inr (2, n, 0))) (hj : ¬ (j < 0 ∨ n ≤ j.toNatClampNeg)) (h : Rn Q D k (pc + 1) ls st (sI I p j.toNatClampNeg (vp_nar .char w)) J v I' J') : Rn Q D k pc ls (.int w :: .int j :: .ref p :: st) I J v I' J' := by
  refine Rn.hp hd (fun _ _ => rfl) rfl ?_ h
  have e1 := bld_setI (Q := Q) (I := I) (J := J) hs (upd (I p) j.toNatClampNeg (vp_nar .char w))
  simp only [sk_e] at e1
  simp only [xm_hp, if_true, xm_bi, bld_get hs, sk_e, xm_ix, hj, not_false_eq_true, Option.map_some, e1, sI]
  rfl
theorem Rn.bast {j w : Int32} (hd : decode (tb_mb k) pc = .ok (.bastore, 1)) (hs : SK[p]? = some (.inr (3, n, 0))) (hj : ¬ (j < 0 ∨ n ≤ j.toNatClampNeg)) (h : Rn Q D k (pc + 1) ls st (sI I p j.toNatClampNeg (vp_nar .boolean w)) J v I' J') : Rn Q D k pc ls (.int w :: .int j :: .ref p :: st) I J v I' J' := by
  refine Rn.hp hd (fun _ _ => rfl) rfl ?_ h
  have e1 := bld_setI (Q := Q) (I := I) (J := J) hs (upd (I p) j.toNatClampNeg (vp_nar .boolean w))
  simp only [sk_e] at e1
  simp only [xm_hp, if_true, xm_bi, bld_get hs, sk_e, xm_ix, hj, not_false_eq_true, Option.map_some, e1, sI]
  rfl
theorem Rn.last {j : Int32} {w : Int64} (hd : decode (tb_mb k) pc = .ok (.lastore, 1)) (hs : SK[p]? = some (.inr (1, n, 1))) (hj : ¬ (j < 0 ∨ n ≤ j.toNatClampNeg)) (h : Rn Q D k (pc + 1) ls st I (sJ J p j.toNatClampNeg w) v I' J') : Rn Q D k pc ls (.long w :: .int j :: .ref p :: st) I J v I' J' := by
  refine Rn.hp hd (fun _ _ => rfl) rfl ?_ h
  have e1 := bld_setJ (Q := Q) (I := I) (J := J) hs (vp_updL (J p) j.toNatClampNeg w)
  simp only [sk_e] at e1
  simp only [xm_hp, if_true, xm_bl, bld_get hs, sk_e, xm_ix, hj, not_false_eq_true, Option.map_some, e1, sJ]
  rfl
theorem Rn.alen {kd : Nat} (hd : decode (tb_mb k) pc = .ok (.arraylength, 1)) (hs : SK[p]? = some (.inr (t, n, kd))) (ht : t < 5) (h : Rn Q D k (pc + 1) ls (.int (Int32.ofNat n) :: st) I J v I' J') : Rn Q D k pc ls (.ref p :: st) I J v I' J' := by
  refine Rn.hp hd (fun _ _ => rfl) rfl ?_ h
  have ht' : t < tb_tt.length := ht
  match kd with
  | 0 => simp only [xm_hp, if_true, xm_an, bld_get hs, sk_e, ht']
  | 1 => simp only [xm_hp, if_true, xm_an, bld_get hs, sk_e, ht']
  | m + 2 => simp only [xm_hp, if_true, xm_an, bld_get hs, sk_e, ht']
/-- the conditions' array -/
theorem Rn.aald {j : Int32} (hQ : ∀ j, j < 8 → Q j = some (20 + 9 * j)) (hd : decode (tb_mb k) pc = .ok (.aaload, 1)) (hj : ¬ (j < 0 ∨ 8 ≤ j.toNatClampNeg)) (h : Rn Q D k (pc + 1) ls (.ref (20 + 9 * j.toNatClampNeg) :: st) I J v I' J') : Rn Q D k pc ls (.int j :: .ref 19 :: st) I J v I' J' := by
  refine Rn.hp hd (fun _ _ => rfl) rfl ?_ h
  have hs : SK[19]? = some (.inr (4, 8, 2)) := rfl
  have hq := hQ j.toNatClampNeg (Nat.not_le.mp fun q => hj (Or.inr q))
  simp only [xm_hp, if_true, xm_aq, bld_get hs, sk_e, xm_ix, hj, not_false_eq_true, Option.map_some, hq]
  rfl
/-- calls -/
theorem Rn.cv {k' na : Nat} {As rest : List Value} {w : Option Value} {I1 : dI} {J1 : dJ} (hd : decode (tb_mb k) pc = .ok (.invokevirtual x, 3)) (hc : tb_cr (tb_oc k) x = some (0, k', b, na)) (hv : xm_sv na st = some (p, As, rest)) (hs : SK[p]? = some (.inl (ci, cs))) (ho : tb_oc k' = ci)
    (he : Ex Q D k' I J (.ref p :: As) w I1 J1) (h : Rn Q D k (pc + 3) ls (w.toList ++ rest) I1 J1 v I' J') : Rn Q D k pc ls st I J v I' J' := by
  refine Rn.ca hd (fun _ _ => rfl) rfl (fun _ _ => rfl) (fun _ => rfl) ?_ he h
  simp only [xm_ca, if_true, hc, hv, bld_get hs, sk_e, ho]
theorem Rn.cst {k' na : Nat} {As rest : List Value} {w : Option Value} {I1 : dI} {J1 : dJ} (hd : decode (tb_mb k) pc = .ok (.invokestatic x, 3)) (hc : tb_cr (tb_oc k) x = some (1, k', b, na)) (hv : xm_ss na st = some (As, rest))
    (he : Ex Q D k' I J As w I1 J1) (h : Rn Q D k (pc + 3) ls (w.toList ++ rest) I1 J1 v I' J') : Rn Q D k pc ls st I J v I' J' := by
  refine Rn.ca hd (fun _ _ => rfl) rfl (fun _ _ => rfl) (fun _ => rfl) ?_ he h
  simp only [xm_ca, if_true, hc, hv]
/-- branches -/
theorem Rn.i1t {a : Jvm.ClassFile.Cond} {off : Int} {y : Int32} (hd : decode (tb_mb k) pc = .ok (.ifCond a off, 3)) (ht : xm_tg pc off = some t) (hc : xm_cd a y 0 = true) (h : Rn Q D k t ls st I J v I' J') : Rn Q D k pc ls (.int y :: st) I J v I' J' := by
  refine Rn.br (b := true) (t := t) hd (fun _ _ => rfl) ?_ (by rw [if_pos rfl]; exact h)
  simp only [xm_br, if_true, ht, Option.map_some, hc]
theorem Rn.i1f {a : Jvm.ClassFile.Cond} {off : Int} {y : Int32} (hd : decode (tb_mb k) pc = .ok (.ifCond a off, 3)) (ht : xm_tg pc off = some t) (hc : xm_cd a y 0 = false) (h : Rn Q D k (pc + 3) ls st I J v I' J') : Rn Q D k pc ls (.int y :: st) I J v I' J' := by
  refine Rn.br (b := false) (t := t) hd (fun _ _ => rfl) ?_ (by rw [if_neg Bool.false_ne_true]; exact h)
  simp only [xm_br, if_true, ht, Option.map_some, hc]
theorem Rn.i2t {a : Jvm.ClassFile.Cond} {off : Int} {y z : Int32} (hd : decode (tb_mb k) pc = .ok (.if_icmp a off, 3)) (ht : xm_tg pc off = some t) (hc : xm_cd a y z = true) (h : Rn Q D k t ls st I J v I' J') : Rn Q D k pc ls (.int z :: .int y :: st) I J v I' J' := by
  refine Rn.br (b := true) (t := t) hd (fun _ _ => rfl) ?_ (by rw [if_pos rfl]; exact h)
  simp only [xm_br, if_true, ht, Option.map_some, hc]
theorem Rn.i2f {a : Jvm.ClassFile.Cond} {off : Int} {y z : Int32} (hd : decode (tb_mb k) pc = .ok (.if_icmp a off, 3)) (ht : xm_tg pc off = some t) (hc : xm_cd a y z = false) (h : Rn Q D k (pc + 3) ls st I J v I' J') : Rn Q D k pc ls (.int z :: .int y :: st) I J v I' J' := by
  refine Rn.br (b := false) (t := t) hd (fun _ _ => rfl) ?_ (by rw [if_neg Bool.false_ne_true]; exact h)
  simp only [xm_br, if_true, ht, Option.map_some, hc]
theorem Rn.gt {off : Int} (hd : decode (tb_mb k) pc = .ok (.goto off, 3)) (ht : xm_tg pc off = some t) (h : Rn Q D k t ls st I J v I' J') : Rn Q D k pc ls st I J v I' J' := by
  refine Rn.br (b := true) (t := t) hd (fun _ _ => rfl) ?_ (by rw [if_pos rfl]; exact h)
  simp only [xm_br, if_true, ht, Option.map_some]
theorem Rn.sw {i : Jvm.ClassFile.Instr} (hd : decode (tb_mb k) pc = .ok (i, n)) (hp : ∀ nL l, xm_pu nL i n l st = none) {st' : List Value} (hb : xm_br i n pc st = some (true, t, st')) (h : Rn Q D k t ls st' I J v I' J') : Rn Q D k pc ls st I J v I' J' :=
  Rn.br (b := true) (t := t) hd hp hb (by rw [if_pos rfl]; exact h)
theorem Rn.sf {i : Jvm.ClassFile.Instr} (hd : decode (tb_mb k) pc = .ok (i, n)) (hp : ∀ nL l, xm_pu nL i n l st = none) {st' : List Value} (hb : xm_br i n pc st = some (false, t, st')) (h : Rn Q D k (pc + n) ls st' I J v I' J') : Rn Q D k pc ls st I J v I' J' :=
  Rn.br (b := false) (t := t) hd hp hb (by rw [if_neg Bool.false_ne_true]; exact h)
/-- returns -/
theorem Rn.rv (hd : decode (tb_mb k) pc = .ok (.return_, 1)) (hr : tb_mr k = none) : Rn Q D k pc ls [] I J none I J := Rn.re hd (fun _ _ => rfl) rfl (fun _ _ => rfl) (by rw [hr]; rfl)
theorem Rn.ri {y : Int32} {ty : FieldType} (hd : decode (tb_mb k) pc = .ok (.ireturn, 1)) (hr : tb_mr k = some ty) (hn : narrow ty (.int y) = .int y) : Rn Q D k pc ls [.int y] I J (some (.int y)) I J := Rn.re hd (fun _ _ => rfl) rfl (fun _ _ => rfl) (by rw [hr]; simp [xm_re, hn])
theorem Rn.rl {y : Int64} (hd : decode (tb_mb k) pc = .ok (.lreturn, 1)) (hr : tb_mr k = some .long) : Rn Q D k pc ls [.long y] I J (some (.long y)) I J := Rn.re hd (fun _ _ => rfl) rfl (fun _ _ => rfl) (by rw [hr]; rfl)
theorem Rn.ra {y : Nat} {C : String} (hd : decode (tb_mb k) pc = .ok (.areturn, 1)) (hr : tb_mr k = some (.object C)) : Rn Q D k pc ls [.ref y] I J (some (.ref y)) I J := Rn.re hd (fun _ _ => rfl) rfl (fun _ _ => rfl) (by rw [hr]; rfl)
theorem Rn.rn {C : String} (hd : decode (tb_mb k) pc = .ok (.areturn, 1)) (hr : tb_mr k = some (.object C)) : Rn Q D k pc ls [.null] I J (some .null) I J := Rn.re hd (fun _ _ => rfl) rfl (fun _ _ => rfl) (by rw [hr]; rfl)
end RUA
theorem bindS {α β : Type} {o : Option α} {f : α → Option β} {b : β} (h : o.bind f = some b) : ∃ a, o = some a ∧ f a = some b := by
  cases o with
  | none => cases h
  | some a => exact ⟨a, rfl, h⟩
theorem nar_b {x : Int32} (h : x = 0 ∨ x = 1) : narrow .boolean (.int x) = .int x := by
  rcases h with rfl | rfl <;> rfl
