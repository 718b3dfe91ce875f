/-! The abstract machine makes cells: the addresses r grow by one; a check that no place is used that isn't there yet. Places from xm_K0 on are the String constants. -/
def xm_K0 : Nat := 1000000000
def xm_okV (n : Nat) : Value → Bool
  | .ref i => decide (i < n) || decide (xm_K0 ≤ i)
  | _ => true
def xm_okE (n : Nat) : va_E → Bool
  | .inl (_, _, .inl _) => true
  | .inl (_, _, .inr (.inl _)) => true
  | .inl (_, _, .inr (.inr (.inl _))) => true
  | .inl (_, _, .inr (.inr (.inr (.inl _)))) => true
  | .inl (_, N, .inr (.inr (.inr (.inr f)))) => (List.range N).all (fun j => match f j with
    | some i => xm_okV n (.ref i)
    | none => true)
  | .inr (_, fs) => fs.all (xm_okV n)
def xm_okS (A : xm_H) (ls : xm_L) (st : List Value) : Bool := A.all (xm_okE A.length) && (ls.all (fun q => xm_okV A.length q.2) && (st.all (xm_okV A.length) && decide (A.length < xm_K0)))
/-- r' is r on all that was there -/
def xm_ag (n : Nat) (r r' : Nat → Nat) : Prop := ∀ i, i < n ∨ xm_K0 ≤ i → r' i = r i
theorem xm_ag.rf {n : Nat} {r : Nat → Nat} : xm_ag n r r := fun _ _ => rfl
theorem xm_ag.trans {n n1 : Nat} {r r1 r2 : Nat → Nat} (h : xm_ag n r r1) (h1 : xm_ag n1 r1 r2) (hn : n ≤ n1) : xm_ag n r r2 := fun i hi => (h1 i (hi.elim (fun q => Or.inl (Nat.lt_of_lt_of_le q hn)) Or.inr)).trans (h i hi)
theorem xm_ag_v {n : Nat} {r r' : Nat → Nat} (h : xm_ag n r r') {v : Value} (hv : xm_okV n v = true) : xm_v r' v = xm_v r v := by
  cases v
  case ref i =>
    have hi : i < n ∨ xm_K0 ≤ i := by simpa [xm_okV] using hv
    show Value.ref (r' i) = Value.ref (r i)
    rw [h i hi]
  all_goals rfl
theorem xm_ag_s {n : Nat} {r r' : Nat → Nat} (h : xm_ag n r r') : ∀ {st : List Value}, st.all (xm_okV n) = true → st.map (xm_v r') = st.map (xm_v r) := by
  intro st hs
  apply List.map_congr_left
  intro v hv
  exact xm_ag_v h (List.all_eq_true.mp hs v hv)
theorem xm_ag_l {n : Nat} {r r' : Nat → Nat} (h : xm_ag n r r') {ls : xm_L} (hs : ls.all (fun q => xm_okV n q.2) = true) : xm_lm r' ls = xm_lm r ls := by
  apply List.map_congr_left
  intro q hq
  rw [xm_ag_v h (List.all_eq_true.mp hs q hq)]
theorem xm_ag_e {n : Nat} {r r' : Nat → Nat} (h : xm_ag n r r') (tys : xm_T) {e : va_E} (he : xm_okE n e = true) : xm_e tys r' e = xm_e tys r e := by
  obtain ⟨t, N, f | f | f | f | f⟩ | ⟨ci, fs⟩ := e
  · rfl
  · rfl
  · rfl
  · rfl
  · simp only [xm_e]
    have e9 : (fun j => if j < N then (f j).map r' else none) = fun j => if j < N then (f j).map r else none := by
      funext j
      by_cases hj : j < N
      · rw [if_pos hj, if_pos hj]
        have h1 := List.all_eq_true.mp he j (List.mem_range.mpr hj)
        cases hf : f j with
        | none => rfl
        | some i =>
          rw [hf] at h1
          have hi : i < n ∨ xm_K0 ≤ i := by simpa [xm_okV] using h1
          show some (r' i) = some (r i)
          rw [h i hi]
      · rw [if_neg hj, if_neg hj]
    rw [e9]
  · simp only [xm_e]
    rw [xm_ag_s h he]
theorem xm_ag_w {r r' : Nat → Nat} {A : xm_H} (h : xm_ag A.length r r') (tys : xm_T) (hA : A.all (xm_okE A.length) = true) : xm_w tys r' A = xm_w tys r A := by
  apply List.ext_getElem?
  intro j
  simp only [xm_w, List.getElem?_mapIdx]
  cases hj : A[j]? with
  | none => rfl
  | some e =>
    have hl : j < A.length := (List.getElem?_eq_some_iff.mp hj).1
    have he := List.all_eq_true.mp hA e (List.mem_of_getElem? hj)
    show some (r' j, xm_e tys r' e) = some (r j, xm_e tys r e)
    rw [h j (Or.inl hl), xm_ag_e h tys he]
def xm_up (r : Nat → Nat) (n q : Nat) : Nat → Nat := fun i => if i = n then q else r i
theorem xm_up_ag {r : Nat → Nat} {n q : Nat} (hn : n < xm_K0) : xm_ag n r (xm_up r n q) := fun i hi => if_neg (fun e => by subst e; omega)
theorem xm_w_push {r : Nat → Nat} {A : xm_H} (tys : xm_T) (e : va_E) (q : Nat) (hA : A.all (xm_okE A.length) = true) (he : xm_okE A.length e = true) (hn : A.length < xm_K0) : xm_w tys (xm_up r A.length q) (A ++ [e]) = xm_w tys r A ++ [(q, xm_e tys r e)] := by
  have h : xm_ag A.length r (xm_up r A.length q) := xm_up_ag hn
  rw [← xm_ag_w h tys hA, ← xm_ag_e h tys he]
  unfold xm_w
  rw [List.mapIdx_append]
  congr 1
  simp [xm_up]
/-- the array types, prim -/
def xm_pr : FieldType → Bool
  | .int | .char | .boolean | .byte | .short | .long => true
  | _ => false
def xm_da (ty : FieldType) (N : Nat) : vp_A := match ty with
  | .long => (N, .inr (.inl (fun _ => 0)))
  | _ => (N, .inl (fun _ => 0))
theorem xm_da_ok {ty : FieldType} (h : xm_pr ty = true) (cA : ClassId) (N : Nat) : vp_cell cA (xm_da ty N) = arrV cA N (fun _ => defaultValue ty) := by
  cases ty <;> first | rfl | cases h
theorem xm_da_e {ty : FieldType} (tys : xm_T) (r : Nat → Nat) (t N : Nat) : xm_e tys r (.inl (t, xm_da ty N)) = .inl (xm_ty tys t, xm_da ty N) := by
  cases ty <;> rfl
theorem xm_da_k {ty : FieldType} (n t N : Nat) : xm_okE n (.inl (t, xm_da ty N)) = true := by
  cases ty <;> rfl
theorem xm_cb {ty : FieldType} (h : xm_pr ty = true) {N : Nat} (hN : N ≤ 1000000) : N * componentBytes ty ≤ 536870912 := by
  cases ty <;> first | (simp only [componentBytes]; omega) | cases h
theorem xm_ra_eq {U : State} {a b : ClassId} {ty : FieldType} (h1 : va_RA U a ty) (h2 : va_RA U b ty) : a = b := by
  cases ty
  case object C =>
    obtain ⟨_, _, -, -, -, e1⟩ := h1
    obtain ⟨_, _, -, -, -, e2⟩ := h2
    exact Option.some.inj (e1.symm.trans e2)
  all_goals exact Option.some.inj (h1.symm.trans h2)
def xm_def (ft : Nat → Nat → FieldType) (ci N : Nat) : List Value := (List.range N).map (fun k => defaultValue (ft ci k))
theorem xm_def_v (ft : Nat → Nat → FieldType) (ci N : Nat) : ∀ j, j < N → defaultValue (ft ci j) = vp_V (xm_def ft ci N) j := by
  intro j hj
  simp [vp_V, xm_def, hj]
theorem xm_dv_m (r : Nat → Nat) (ty : FieldType) : xm_v r (defaultValue ty) = defaultValue ty := by cases ty <;> rfl
theorem xm_def_m (r : Nat → Nat) (ft : Nat → Nat → FieldType) (ci N : Nat) : (xm_def ft ci N).map (xm_v r) = xm_def ft ci N := by
  simp only [xm_def, List.map_map, Function.comp_def, xm_dv_m]
theorem xm_def_k (n : Nat) (ft : Nat → Nat → FieldType) (ci N : Nat) : (xm_def ft ci N).all (xm_okV n) = true := by
  rw [List.all_eq_true]
  intro v hv
  obtain ⟨k, -, rfl⟩ := List.mem_map.mp hv
  cases ft ci k <;> rfl
/-- the new cell, the stack without it, its slots -/
def xm_nw (cl : List vw_C) (tt : List FieldType) (ft : Nat → Nat → FieldType) (nr qr : Nat → Option Nat) (ta : Jvm.ClassFile.ArrayType → Option Nat) (i : Jvm.ClassFile.Instr) (n : Nat) (st : List Value) : Option (List Value × va_E × Nat) :=
  match i with
  | .new x => if n = 3 then (match nr x with
    | some ci => (match cl[ci]? with
      | some q => some (st, .inr (ci, xm_def ft ci q.2.2), q.2.2)
      | none => none)
    | none => none) else none
  | .newarray a => if n = 2 then (match st, ta a with
    | .int x :: rest, some t => if ¬ x < 0 ∧ x.toNatClampNeg ≤ 1000000 ∧ tt[t]? = some (newarray.typeOf a) ∧ xm_pr (newarray.typeOf a) = true then some (rest, .inl (t, xm_da (newarray.typeOf a) x.toNatClampNeg), x.toNatClampNeg) else none
    | _, _ => none) else none
  | .anewarray x => if n = 3 then (match st, qr x with
    | .int x :: rest, some t => if ¬ x < 0 ∧ x.toNatClampNeg ≤ 1000000 then some (rest, .inl (t, x.toNatClampNeg, .inr (.inr (.inr (.inr (fun _ => none))))), x.toNatClampNeg) else none
    | _, _ => none) else none
  | _ => none
/-- the classes and arrays that the pool of 'own' names for making -/
def xm_NR (cl : List vw_C) (Ts : List Cond) (own : String) (args : Array Value) (s : State) (nr : Nat → Option Nat) : Prop :=
  ∀ x ci, nr x = some ci → ∀ C T N, cl[ci]? = some (C, T, N) → (∀ w ∈ u_ws C T N, w ∈ Ts) ∧ (Cond.classLink own x C).before args s = true ∧ (Cond.instantiable C N).before args s = true ∧ (Cond.initialized C).before args s = true
def xm_QR (tt : List FieldType) (own : String) (args : Array Value) (s : State) (qr : Nat → Option Nat) : Prop :=
  ∀ x t, qr x = some t → ∃ C, tt[t]? = some (.object C) ∧ (Cond.classLink own x C).before args s = true ∧ va_AO C s
def xm_TA (args : Array Value) (s : State) (ta : Jvm.ClassFile.ArrayType → Option Nat) : Prop :=
  ∀ a t, ta a = some t → (Cond.arrayClass (newarray.typeOf a)).before args s = true
section XM4
variable {p : Program} {l : Launch} {e : Env} {R : Room} {s : State} {m : MethodId} {args : Array Value} {below : List Frame} {meth : Method} {c : Code} {H H0 : Heap} {locs : List Loc} {cells slots : Nat} {Q : State → Prop}
variable {cc : ByteArray} {pc n : Nat} {lsR : Array Slot} {r : Nat → Nat} {st st' : List Value} {A : xm_H} {ev : va_E} {ns : Nat}
variable {cl : List vw_C} {tt : List FieldType} {ft : Nat → Nat → FieldType} {nr qr : Nat → Option Nat} {ta : Jvm.ClassFile.ArrayType → Option Nat} {Ts : List Cond} {own : String} {D : va_G} {tys : xm_T} {Ad : Nat → Prop}
set_option maxHeartbeats 4000000 in
theorem xm_nw_ok {i : Jvm.ClassFile.Instr} (hx : p.tables.exec = Jvm.exec) (hb : c.code = cc) (h : xm_nw cl tt ft nr qr ta i n st = some (st', ev, ns)) (hdg : decode cc pc = .ok (i, n)) (hts : ∀ w ∈ Ts, w.before args s = true) (hown : s.vm.findClass own = some m.cls)
    (hCL : xm_CL cl ft) (hNR : xm_NR cl Ts own args s nr) (hQR : xm_QR tt own args s qr) (hTA : xm_TA args s ta) (hTT : xm_TT tt tys) (hA : A.all (xm_okE A.length) = true) (hst : st'.all (xm_okV A.length) = true) (hn0 : A.length < xm_K0)
    (hK : va_K D cl tys s) (hP : va_P D cl (xm_w tys r A) H) (hD : va_D Ad (xm_w tys r A)) (hS : va_S Ad H0 H locs) (hAd : ∀ q, H0.size ≤ q → Ad q) (hc : cells + 1 ≤ R.cells) (hs : slots + ns ≤ R.slots)
    (k : ∀ r' H1, xm_ag A.length r r' → va_P D cl (xm_w tys r' (A ++ [ev])) H1 → va_D Ad (xm_w tys r' (A ++ [ev])) → va_S Ad H0 H1 locs → W p l e R s m args below meth c H1 locs (cells + 1) (slots + ns) Q (F0 m (pc + n) lsR ((.ref A.length :: st').map (xm_v r')))) : W p l e R s m args below meth c H locs cells slots Q (F0 m pc lsR (st.map (xm_v r))) := by
  have key : ∀ (q : Nat) (ev' : va_E) (H1 : Heap) (n1 ns1 : Nat), xm_okE A.length ev = true → xm_e tys r ev = ev' → ns1 = ns → n1 = n → va_P D cl (xm_w tys r A ++ [(q, ev')]) H1 → va_D Ad (xm_w tys r A ++ [(q, ev')]) → va_S Ad H0 H1 locs → W p l e R s m args below meth c H1 locs (cells + 1) (slots + ns1) Q (F0 m (pc + n1) lsR (.ref q :: st'.map (xm_v r))) := by
    intro q ev' H1 n1 ns1 he hev hns hn1 a1 a2 a3
    subst hev; subst hns; subst hn1
    have h9 := k (xm_up r A.length q) H1 (xm_up_ag hn0) (by rw [xm_w_push tys ev q hA he hn0]; exact a1) (by rw [xm_w_push tys ev q hA he hn0]; exact a2) a3
    rw [List.map_cons, xm_ag_s (xm_up_ag hn0) hst] at h9
    have e9 : xm_v (xm_up r A.length q) (.ref A.length) = .ref q := by simp [xm_v, xm_up]
    rw [e9] at h9
    exact h9
  cases i
  case new x =>
    simp only [xm_nw] at h
    obtain ⟨rfl, h0⟩ := xm_if h
    split at h0
    · rename_i ci hci
      split at h0
      · rename_i q hq
        obtain ⟨C, T, N⟩ := q
        simp only [Option.some.injEq, Prod.mk.injEq] at h0
        obtain ⟨rfl, rfl, rfl⟩ := h0
        obtain ⟨hin, h1, h2, h3⟩ := hNR x ci hci C T N hq
        obtain ⟨hty, -⟩ := hCL ci C T N hq
        refine va_new (fs := xm_def ft ci N) hx hb hts hin (ft ci) hty hown h1 h2 h3 hK hP hD hS hAd hq (xm_def_v ft ci N) hc hs hdg (fun q H1 a1 a2 a3 => ?_)
        exact key q _ H1 3 N (xm_def_k _ _ _ _) (by simp only [xm_e, xm_def_m]) rfl rfl a1 a2 a3
      · cases h0
    · cases h0
  case newarray a =>
    simp only [xm_nw] at h
    obtain ⟨rfl, h0⟩ := xm_if h
    split at h0
    · rename_i x rest t ht
      obtain ⟨⟨h1, h2, h3, h4⟩, h5⟩ := xm_if h0
      simp only [Option.some.injEq, Prod.mk.injEq] at h5
      obtain ⟨rfl, rfl, rfl⟩ := h5
      have hc9 := hTA a t ht
      refine va_newa (ty := newarray.typeOf a) (a0 := xm_da (newarray.typeOf a) x.toNatClampNeg) hx hb hc9 rfl hK hP hD hS hAd (fun cA => xm_da_ok h4 cA _) h1 rfl (xm_cb h4 h2) hc hs hdg (fun q cA H1 a0 a1 a2 a3 => ?_)
      have e9 : xm_ty tys t = cA := xm_ra_eq (hK.2 t _ (hTT t _ h3)).2 (a0.2 tys.length (cA, newarray.typeOf a) (by simp)).2
      exact key q _ H1 2 _ (xm_da_k _ _ _) (by rw [xm_da_e, e9]) rfl rfl a1 a2 a3
    · cases h0
  case anewarray y =>
    simp only [xm_nw] at h
    obtain ⟨rfl, h0⟩ := xm_if h
    split at h0
    · rename_i x rest t ht
      obtain ⟨⟨h1, h2⟩, h5⟩ := xm_if h0
      simp only [Option.some.injEq, Prod.mk.injEq] at h5
      obtain ⟨rfl, rfl, rfl⟩ := h5
      obtain ⟨C, h3, h4, h6⟩ := hQR y t ht
      refine va_newq hx hb hown h4 h6 hK hP hD hS hAd h1 rfl (by omega) hc hs hdg (fun q cA H1 a0 a1 a2 a3 => ?_)
      have e9 : xm_ty tys t = cA := xm_ra_eq (hK.2 t _ (hTT t _ h3)).2 (a0.2 tys.length (cA, .object C) (by simp)).2
      refine key q _ H1 3 _ (by simp [xm_okE]) ?_ rfl rfl a1 a2 a3
      simp [xm_e, e9]
    · cases h0
  all_goals exact absurd h (by simp [xm_nw])
end XM4
