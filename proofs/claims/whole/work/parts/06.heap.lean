/-! The abstract machine's heap: a list of cells, as the kit's worlds have them; an array's class is a place in the list of array types, a reference a place in the heap. -/
abbrev xm_H : Type := List va_E
abbrev xm_T : Type := List (ClassId × FieldType)
def xm_ty (tys : xm_T) (t : Nat) : ClassId := (tys.getD t (0, .int)).1
def xm_e (tys : xm_T) (r : Nat → Nat) : va_E → va_E
  | .inl (t, n, .inl f) => .inl (xm_ty tys t, n, .inl f)
  | .inl (t, n, .inr (.inl f)) => .inl (xm_ty tys t, n, .inr (.inl f))
  | .inl (t, n, .inr (.inr (.inl f))) => .inl (xm_ty tys t, n, .inr (.inr (.inl f)))
  | .inl (t, n, .inr (.inr (.inr (.inl f)))) => .inl (xm_ty tys t, n, .inr (.inr (.inr (.inl f))))
  | .inl (t, n, .inr (.inr (.inr (.inr f)))) => .inl (xm_ty tys t, n, .inr (.inr (.inr (.inr (fun j => if j < n then (f j).map r else none)))))
  | .inr (ci, fs) => .inr (ci, fs.map (xm_v r))
def xm_w (tys : xm_T) (r : Nat → Nat) (A : xm_H) : va_W := A.mapIdx (fun i e => (r i, xm_e tys r e))
theorem xm_w_get {tys : xm_T} {r : Nat → Nat} {A : xm_H} {i : Nat} {e : va_E} (h : A[i]? = some e) : (xm_w tys r A)[i]? = some (r i, xm_e tys r e) := by
  simp [xm_w, List.getElem?_mapIdx, h]
theorem xm_w_set (tys : xm_T) (r : Nat → Nat) (A : xm_H) (i : Nat) (e : va_E) : (xm_w tys r A).set i (r i, xm_e tys r e) = xm_w tys r (A.set i e) := by
  apply List.ext_getElem?
  intro j
  by_cases h : i = j
  · subst h
    by_cases hl : i < A.length
    · simp [xm_w, List.getElem?_mapIdx, List.getElem?_set, hl]
    · simp [xm_w, List.getElem?_mapIdx, List.getElem?_set, hl]
  · simp [xm_w, List.getElem?_mapIdx, List.getElem?_set, h]
/-- the types of the arrays, without their classes -/
def xm_TT (tt : List FieldType) (tys : xm_T) : Prop := ∀ t ty, tt[t]? = some ty → tys[t]? = some (xm_ty tys t, ty)
def xm_ix (j : Int32) (n : Nat) : Option Nat := if ¬ (j < 0 ∨ n ≤ j.toNatClampNeg) then some j.toNatClampNeg else none
theorem xm_ix_s {j : Int32} {n k : Nat} (h : xm_ix j n = some k) : vp_in j n ∧ k = j.toNatClampNeg ∧ k < n := by
  unfold xm_ix at h
  obtain ⟨h1, h2⟩ := xm_if h
  cases h2
  exact ⟨h1, rfl, Nat.not_le.mp fun q => h1 (Or.inr q)⟩
abbrev xm_P : Type := Option (List Value × xm_H)
def xm_gf (q : Option (Nat × Nat × Bool)) (A : xm_H) : List Value → xm_P
  | .ref a :: st => (match q, A[a]? with
    | some (ci, k, _), some (.inr (cj, fs)) => if cj = ci then (match fs[k]? with
      | some v => some (v :: st, A)
      | none => none) else none
    | _, _ => none)
  | _ => none
theorem xm_gf_s {q : Option (Nat × Nat × Bool)} {A A' : xm_H} {st st' : List Value} (h : xm_gf q A st = some (st', A')) : ∃ a t ci k b fs v, st = .ref a :: t ∧ q = some (ci, k, b) ∧ A[a]? = some (.inr (ci, fs)) ∧ fs[k]? = some v ∧ v :: t = st' ∧ A = A' := by
  unfold xm_gf at h
  split at h
  · split at h
    · obtain ⟨rfl, h2⟩ := xm_if h
      split at h2
      · simp only [Option.some.injEq, Prod.mk.injEq] at h2
        exact ⟨_, _, _, _, _, _, _, rfl, rfl, by assumption, by assumption, h2.1, h2.2⟩
      · cases h2
    · cases h
  · cases h
/-- may the field be written here? a final one in its own class's constructor alone -/
def xm_fin (cl : List vw_C) (ini : Option Nat) (b : Bool) (ci k : Nat) : Bool := match cl[ci]? with
  | some q => if (q.2.1 k).2.2.2 = true then (match ini with
    | some c => !b && (c == ci && (q.2.1 k).1 == q.1)
    | none => false) else true
  | none => false
def xm_pf (cl : List vw_C) (ft : Nat → Nat → FieldType) (ini : Option Nat) (q : Option (Nat × Nat × Bool)) (A : xm_H) : List Value → xm_P
  | v :: .ref a :: st => (match q, A[a]? with
    | some (ci, k, b), some (.inr (cj, fs)) => if cj = ci ∧ k < fs.length ∧ xm_fin cl ini b ci k = true ∧ narrow (ft ci k) v = v ∧ fits (ft ci k) v = true then some (st, A.set a (.inr (ci, fs.set k v))) else none
    | _, _ => none)
  | _ => none
theorem xm_pf_s {cl : List vw_C} {ft : Nat → Nat → FieldType} {ini : Option Nat} {q : Option (Nat × Nat × Bool)} {A A' : xm_H} {st st' : List Value} (h : xm_pf cl ft ini q A st = some (st', A')) : ∃ v a ci k b fs, st = v :: .ref a :: st' ∧ q = some (ci, k, b) ∧ A[a]? = some (.inr (ci, fs)) ∧ k < fs.length ∧ xm_fin cl ini b ci k = true ∧ narrow (ft ci k) v = v ∧ fits (ft ci k) v = true ∧ A.set a (.inr (ci, fs.set k v)) = A' := by
  unfold xm_pf at h
  split at h
  · split at h
    · obtain ⟨⟨rfl, h1, h2, h3, h4⟩, h5⟩ := xm_if h
      simp only [Option.some.injEq, Prod.mk.injEq] at h5
      exact ⟨_, _, _, _, _, _, by rw [h5.1], rfl, by assumption, h1, h2, h3, h4, h5.2⟩
    · cases h
  · cases h
def xm_ai (tt : List FieldType) (ty : FieldType) (A : xm_H) : List Value → xm_P
  | .int j :: .ref a :: st => (match A[a]? with
    | some (.inl (t, n, .inl f)) => if tt[t]? = some ty then (xm_ix j n).map (fun k => (.int (f k) :: st, A)) else none
    | _ => none)
  | _ => none
theorem xm_ai_s {tt : List FieldType} {ty : FieldType} {A A' : xm_H} {st st' : List Value} (h : xm_ai tt ty A st = some (st', A')) : ∃ j a u t n f, st = .int j :: .ref a :: u ∧ A[a]? = some (.inl (t, n, .inl f)) ∧ tt[t]? = some ty ∧ vp_in j n ∧ .int (f j.toNatClampNeg) :: u = st' ∧ A = A' := by
  unfold xm_ai at h
  split at h
  · split at h
    · obtain ⟨h1, h2⟩ := xm_if h
      obtain ⟨k, hk, h3⟩ := xm_map h2
      obtain ⟨q1, rfl, -⟩ := xm_ix_s hk
      simp only [Prod.mk.injEq] at h3
      exact ⟨_, _, _, _, _, _, rfl, by assumption, h1, q1, h3.1, h3.2⟩
    · cases h
  · cases h
def xm_al (tt : List FieldType) (A : xm_H) : List Value → xm_P
  | .int j :: .ref a :: st => (match A[a]? with
    | some (.inl (t, n, .inr (.inl f))) => if tt[t]? = some .long then (xm_ix j n).map (fun k => (.long (f k) :: st, A)) else none
    | _ => none)
  | _ => none
theorem xm_al_s {tt : List FieldType} {A A' : xm_H} {st st' : List Value} (h : xm_al tt A st = some (st', A')) : ∃ j a u t n f, st = .int j :: .ref a :: u ∧ A[a]? = some (.inl (t, n, .inr (.inl f))) ∧ tt[t]? = some .long ∧ vp_in j n ∧ .long (f j.toNatClampNeg) :: u = st' ∧ A = A' := by
  unfold xm_al at h
  split at h
  · split at h
    · obtain ⟨h1, h2⟩ := xm_if h
      obtain ⟨k, hk, h3⟩ := xm_map h2
      obtain ⟨q1, rfl, -⟩ := xm_ix_s hk
      simp only [Prod.mk.injEq] at h3
      exact ⟨_, _, _, _, _, _, rfl, by assumption, h1, q1, h3.1, h3.2⟩
    · cases h
  · cases h
def xm_isO (ty : Option FieldType) : Bool := match ty with
  | some (.object _) => true
  | _ => false
def xm_aq (tt : List FieldType) (A : xm_H) : List Value → xm_P
  | .int j :: .ref a :: st => (match A[a]? with
    | some (.inl (t, n, .inr (.inr (.inr (.inr f))))) => if xm_isO tt[t]? = true then (xm_ix j n).map (fun k => (va_rf (f k) :: st, A)) else none
    | _ => none)
  | _ => none
theorem xm_aq_s {tt : List FieldType} {A A' : xm_H} {st st' : List Value} (h : xm_aq tt A st = some (st', A')) : ∃ j a u t n f C, st = .int j :: .ref a :: u ∧ A[a]? = some (.inl (t, n, .inr (.inr (.inr (.inr f))))) ∧ tt[t]? = some (.object C) ∧ vp_in j n ∧ va_rf (f j.toNatClampNeg) :: u = st' ∧ A = A' := by
  unfold xm_aq at h
  split at h
  · split at h
    · obtain ⟨h1, h2⟩ := xm_if h
      obtain ⟨k, hk, h3⟩ := xm_map h2
      obtain ⟨q1, rfl, -⟩ := xm_ix_s hk
      simp only [Prod.mk.injEq] at h3
      unfold xm_isO at h1
      split at h1
      · exact ⟨_, _, _, _, _, _, _, rfl, by assumption, by assumption, q1, h3.1, h3.2⟩
      · cases h1
    · cases h
  · cases h
/-- a store into an array of ints; nw: what is kept of the number -/
def xm_bi (tt : List FieldType) (ty : FieldType) (nw : Int32 → Int32) (A : xm_H) : List Value → xm_P
  | .int x :: .int j :: .ref a :: st => (match A[a]? with
    | some (.inl (t, n, .inl f)) => if tt[t]? = some ty then (xm_ix j n).map (fun k => (st, A.set a (.inl (t, n, .inl (upd f k (nw x)))))) else none
    | _ => none)
  | _ => none
theorem xm_bi_s {tt : List FieldType} {ty : FieldType} {nw : Int32 → Int32} {A A' : xm_H} {st st' : List Value} (h : xm_bi tt ty nw A st = some (st', A')) : ∃ x j a t n f, st = .int x :: .int j :: .ref a :: st' ∧ A[a]? = some (.inl (t, n, .inl f)) ∧ tt[t]? = some ty ∧ vp_in j n ∧ A.set a (.inl (t, n, .inl (upd f j.toNatClampNeg (nw x)))) = A' := by
  unfold xm_bi at h
  split at h
  · split at h
    · obtain ⟨h1, h2⟩ := xm_if h
      obtain ⟨k, hk, h3⟩ := xm_map h2
      obtain ⟨q1, rfl, -⟩ := xm_ix_s hk
      simp only [Prod.mk.injEq] at h3
      exact ⟨_, _, _, _, _, _, by rw [h3.1], by assumption, h1, q1, h3.2⟩
    · cases h
  · cases h
def xm_bl (tt : List FieldType) (A : xm_H) : List Value → xm_P
  | .long x :: .int j :: .ref a :: st => (match A[a]? with
    | some (.inl (t, n, .inr (.inl f))) => if tt[t]? = some .long then (xm_ix j n).map (fun k => (st, A.set a (.inl (t, n, .inr (.inl (vp_updL f k x)))))) else none
    | _ => none)
  | _ => none
theorem xm_bl_s {tt : List FieldType} {A A' : xm_H} {st st' : List Value} (h : xm_bl tt A st = some (st', A')) : ∃ x j a t n f, st = .long x :: .int j :: .ref a :: st' ∧ A[a]? = some (.inl (t, n, .inr (.inl f))) ∧ tt[t]? = some .long ∧ vp_in j n ∧ A.set a (.inl (t, n, .inr (.inl (vp_updL f j.toNatClampNeg x)))) = A' := by
  unfold xm_bl at h
  split at h
  · split at h
    · obtain ⟨h1, h2⟩ := xm_if h
      obtain ⟨k, hk, h3⟩ := xm_map h2
      obtain ⟨q1, rfl, -⟩ := xm_ix_s hk
      simp only [Prod.mk.injEq] at h3
      exact ⟨_, _, _, _, _, _, by rw [h3.1], by assumption, h1, q1, h3.2⟩
    · cases h
  · cases h
/-- a store of an object into an array of its own class -/
def xm_bq (cl : List vw_C) (tt : List FieldType) (A : xm_H) : List Value → xm_P
  | .ref v :: .int j :: .ref a :: st => (match A[a]?, A[v]? with
    | some (.inl (t, n, .inr (.inr (.inr (.inr f))))), some (.inr (ci, _)) => (match cl[ci]? with
      | some q => if tt[t]? = some (.object q.1) then (xm_ix j n).map (fun k => (st, A.set a (.inl (t, n, .inr (.inr (.inr (.inr (va_up f k (some v))))))))) else none
      | none => none)
    | _, _ => none)
  | _ => none
theorem xm_bq_s {cl : List vw_C} {tt : List FieldType} {A A' : xm_H} {st st' : List Value} (h : xm_bq cl tt A st = some (st', A')) : ∃ v j a t n f ci vs q, st = .ref v :: .int j :: .ref a :: st' ∧ A[a]? = some (.inl (t, n, .inr (.inr (.inr (.inr f))))) ∧ A[v]? = some (.inr (ci, vs)) ∧ cl[ci]? = some q ∧ tt[t]? = some (.object q.1) ∧ vp_in j n ∧ j.toNatClampNeg < n ∧ A.set a (.inl (t, n, .inr (.inr (.inr (.inr (va_up f j.toNatClampNeg (some v))))))) = A' := by
  unfold xm_bq at h
  split at h
  · split at h
    · split at h
      · obtain ⟨h1, h2⟩ := xm_if h
        obtain ⟨k, hk, h3⟩ := xm_map h2
        obtain ⟨q1, rfl, q2⟩ := xm_ix_s hk
        simp only [Prod.mk.injEq] at h3
        exact ⟨_, _, _, _, _, _, _, _, _, by rw [h3.1], by assumption, by assumption, by assumption, h1, q1, q2, h3.2⟩
      · cases h
    · cases h
  · cases h
def xm_an (tt : List FieldType) (A : xm_H) : List Value → xm_P
  | .ref a :: st => (match A[a]? with
    | some (.inl (t, x)) => if t < tt.length then some (.int (Int32.ofNat x.1) :: st, A) else none
    | _ => none)
  | _ => none
theorem xm_an_s {tt : List FieldType} {A A' : xm_H} {st st' : List Value} (h : xm_an tt A st = some (st', A')) : ∃ a u t x, st = .ref a :: u ∧ A[a]? = some (.inl (t, x)) ∧ t < tt.length ∧ .int (Int32.ofNat x.1) :: u = st' ∧ A = A' := by
  unfold xm_an at h
  split at h
  · split at h
    · obtain ⟨h1, h2⟩ := xm_if h
      simp only [Option.some.injEq, Prod.mk.injEq] at h2
      exact ⟨_, _, _, _, rfl, by assumption, h1, h2.1, h2.2⟩
    · cases h
  · cases h
/-- instructions that read and write the heap -/
def xm_hp (cl : List vw_C) (tt : List FieldType) (ft : Nat → Nat → FieldType) (fr : Nat → Option (Nat × Nat × Bool)) (ini : Option Nat) (i : Jvm.ClassFile.Instr) (n : Nat) (st : List Value) (A : xm_H) : xm_P :=
  match i with
  | .getfield x => if n = 3 then xm_gf (fr x) A st else none
  | .putfield x => if n = 3 then xm_pf cl ft ini (fr x) A st else none
  | .iaload => if n = 1 then xm_ai tt .int A st else none
  | .caload => if n = 1 then xm_ai tt .char A st else none
  | .laload => if n = 1 then xm_al tt A st else none
  | .aaload => if n = 1 then xm_aq tt A st else none
  | .iastore => if n = 1 then xm_bi tt .int (fun x => x) A st else none
  | .castore => if n = 1 then xm_bi tt .char (vp_nar .char) A st else none
  | .lastore => if n = 1 then xm_bl tt A st else none
  | .aastore => if n = 1 then xm_bq cl tt A st else none
  | .arraylength => if n = 1 then xm_an tt A st else none
  | .baload => if n = 1 then xm_ai tt .boolean A st else none
  | .bastore => if n = 1 then xm_bi tt .boolean (vp_nar .boolean) A st else none
  | _ => none
theorem xm_nar (r : Nat → Nat) {ty : FieldType} {v : Value} (h : narrow ty v = v) : narrow ty (xm_v r v) = xm_v r v := by
  cases v
  case ref i => cases ty <;> rfl
  all_goals exact h
theorem xm_fits (r : Nat → Nat) (ty : FieldType) (v : Value) : fits ty (xm_v r v) = fits ty v := by
  cases v
  case ref i => cases ty <;> rfl
  all_goals rfl
/-- the fields that the pool of the class 'own' names: links that the tables have -/
def xm_FR (cl : List vw_C) (Ts : List Cond) (own : String) (args : Array Value) (s : State) (fr : Nat → Option (Nat × Nat × Bool)) : Prop :=
  ∀ x ci k b, fr x = some (ci, k, b) → ∃ C T N, cl[ci]? = some (C, T, N) ∧ k < N ∧ (∀ w ∈ u_ws C T N, w ∈ Ts) ∧ (b = false → (Cond.fieldLink own x (T k).1 (T k).2.1 (T k).2.2.1).before args s = true) ∧ (b = true → ∃ host, (Cond.fieldLinkNest own x (T k).1 (T k).2.1 (T k).2.2.1 host).before args s = true)
def xm_CL (cl : List vw_C) (ft : Nat → Nat → FieldType) : Prop :=
  ∀ ci C T N, cl[ci]? = some (C, T, N) → (∀ k, k < N → parseFieldDescriptor (T k).2.2.1 = some (ft ci k)) ∧ ∀ a, a < N → ∀ b, b < N → a ≠ b → (T a).2.1 ≠ (T b).2.1
def xm_NI (cl : List vw_C) (own : String) (meth : Method) (ini : Option Nat) : Prop := ∀ ci, ini = some ci → meth.name = "<init>" ∧ ∀ q, cl[ci]? = some q → q.1 = own
section XM3
variable {p : Program} {l : Launch} {e : Env} {R : Room} {s : State} {m : MethodId} {args : Array Value} {below : List Frame} {meth : Method} {c : Code} {H H0 : Heap} {locs : List Loc} {cells slots : Nat} {Q : State → Prop}
variable {cc : ByteArray} {pc n : Nat} {lsR : Array Slot} {r : Nat → Nat} {st st' : List Value} {A A' : xm_H}
variable {cl : List vw_C} {tt : List FieldType} {ft : Nat → Nat → FieldType} {fr : Nat → Option (Nat × Nat × Bool)} {ini : Option Nat} {Ts : List Cond} {own : String} {D : va_G} {tys : xm_T} {Ad : Nat → Prop}
set_option maxHeartbeats 4000000 in
theorem xm_hp_ok {i : Jvm.ClassFile.Instr} (hx : p.tables.exec = Jvm.exec) (hb : c.code = cc) (h : xm_hp cl tt ft fr ini i n st A = some (st', A')) (hdg : decode cc pc = .ok (i, n)) (hts : ∀ w ∈ Ts, w.before args s = true) (hown : s.vm.findClass own = some m.cls)
    (hCL : xm_CL cl ft) (hFR : xm_FR cl Ts own args s fr) (hNI : xm_NI cl own meth ini) (hTT : xm_TT tt tys) (hK : va_K D cl tys s) (hP : va_P D cl (xm_w tys r A) H) (hD : va_D Ad (xm_w tys r A)) (hS : va_S Ad H0 H locs)
    (k : ∀ H1 locs1, va_P D cl (xm_w tys r A') H1 → va_D Ad (xm_w tys r A') → va_S Ad H0 H1 locs1 → W p l e R s m args below meth c H1 locs1 cells slots Q (F0 m (pc + n) lsR (st'.map (xm_v r)))) : W p l e R s m args below meth c H locs cells slots Q (F0 m pc lsR (st.map (xm_v r))) := by
  cases i
  case getfield x =>
    obtain ⟨rfl, h0⟩ := xm_if h; replace h := h0; clear h0
    obtain ⟨a, t, ci, kk, b, fs, v, rfl, hq, ha, hv, rfl, rfl⟩ := xm_gf_s h
    obtain ⟨C, T, N, hc, hk, hin, hl0, hl1⟩ := hFR _ _ _ _ hq
    cases b with
    | false => exact va_get (v := xm_v r v) hx hb hts hin hown hK hP a (xm_w_get ha) hc kk hk (hl0 rfl) (fun _ h9 => h9) (by rw [List.getElem?_map, hv]; rfl) hdg (k H locs hP hD hS)
    | true =>
      obtain ⟨host, hl⟩ := hl1 rfl
      exact va_getN (v := xm_v r v) hx hb hts hin hown hK hP a (xm_w_get ha) hc kk hk hl (fun _ h9 => h9) (by rw [List.getElem?_map, hv]; rfl) hdg (k H locs hP hD hS)
  case putfield x =>
    obtain ⟨rfl, h0⟩ := xm_if h; replace h := h0; clear h0
    obtain ⟨v, a, ci, kk, b, fs, rfl, hq, ha, hlen, hf, hn, hfit, rfl⟩ := xm_pf_s h
    obtain ⟨C, T, N, hc, hk, hin, hl0, hl1⟩ := hFR _ _ _ _ hq
    obtain ⟨hty, hnm⟩ := hCL ci C T N hc
    have he : (xm_w tys r A).set a (r a, .inr (ci, (fs.map (xm_v r)).set kk (xm_v r v))) = xm_w tys r (A.set a (.inr (ci, fs.set kk v))) := by
      rw [← xm_w_set]
      simp only [xm_e, List.map_set]
    simp only [xm_fin, hc] at hf
    by_cases hfin : (T kk).2.2.2 = true
    · rw [if_pos hfin] at hf
      split at hf
      · rename_i c0
        simp only [Bool.and_eq_true, Bool.not_eq_true', beq_iff_eq] at hf
        obtain ⟨rfl, rfl, hd⟩ := hf
        obtain ⟨hmn, hq1⟩ := hNI _ rfl
        exact va_putF (v := xm_v r v) hx hb hts hin (ft c0) hty hnm hown hK hP hD hS a (xm_w_get ha) hc kk hk (hl0 rfl) (fun _ h9 => h9) hfin hmn (hd.trans (hq1 _ hc)) (hty kk hk) (xm_nar r hn) ((xm_fits r _ v).trans hfit) (by rw [List.length_map]; exact hlen) hdg (fun H1 locs1 a1 a2 a3 => k H1 locs1 (he ▸ a1) (he ▸ a2) a3)
      · cases hf
    · have hfin : (T kk).2.2.2 = false := by simpa using hfin
      cases b with
      | false => exact va_put (v := xm_v r v) hx hb hts hin (ft ci) hty hnm hown hK hP hD hS a (xm_w_get ha) hc kk hk (hl0 rfl) (fun _ h9 => h9) hfin (hty kk hk) (xm_nar r hn) ((xm_fits r _ v).trans hfit) (by rw [List.length_map]; exact hlen) hdg (fun H1 locs1 a1 a2 a3 => k H1 locs1 (he ▸ a1) (he ▸ a2) a3)
      | true =>
        obtain ⟨host, hl⟩ := hl1 rfl
        exact va_putN (v := xm_v r v) hx hb hts hin (ft ci) hty hnm hown hK hP hD hS a (xm_w_get ha) hc kk hk hl (fun _ h9 => h9) hfin (hty kk hk) (xm_nar r hn) ((xm_fits r _ v).trans hfit) (by rw [List.length_map]; exact hlen) hdg (fun H1 locs1 a1 a2 a3 => k H1 locs1 (he ▸ a1) (he ▸ a2) a3)
  case iaload =>
    obtain ⟨rfl, h0⟩ := xm_if h; replace h := h0; clear h0
    obtain ⟨j, a, u, t, N, f, rfl, ha, ht, hin, rfl, rfl⟩ := xm_ai_s h
    exact va_iald hx hb hK hP a t (xm_w_get ha) (hTT t _ ht) hin hdg (k H locs hP hD hS)
  case caload =>
    obtain ⟨rfl, h0⟩ := xm_if h; replace h := h0; clear h0
    obtain ⟨j, a, u, t, N, f, rfl, ha, ht, hin, rfl, rfl⟩ := xm_ai_s h
    exact va_cald hx hb hK hP a t (xm_w_get ha) (hTT t _ ht) hin hdg (k H locs hP hD hS)
  case baload =>
    obtain ⟨rfl, h0⟩ := xm_if h; replace h := h0; clear h0
    obtain ⟨j, a, u, t, N, f, rfl, ha, ht, hin, rfl, rfl⟩ := xm_ai_s h
    exact va_zald hx hb hK hP a t (xm_w_get ha) (hTT t _ ht) hin hdg (k H locs hP hD hS)
  case laload =>
    obtain ⟨rfl, h0⟩ := xm_if h; replace h := h0; clear h0
    obtain ⟨j, a, u, t, N, f, rfl, ha, ht, hin, rfl, rfl⟩ := xm_al_s h
    exact va_lald hx hb hK hP a t (xm_w_get ha) (hTT t _ ht) hin hdg (k H locs hP hD hS)
  case aaload =>
    obtain ⟨rfl, h0⟩ := xm_if h; replace h := h0; clear h0
    obtain ⟨j, a, u, t, N, f, C, rfl, ha, ht, hin, rfl, rfl⟩ := xm_aq_s h
    have hlt : j.toNatClampNeg < N := Nat.not_le.mp fun q => hin (Or.inr q)
    refine va_aldq hx hb hK hP a t (xm_w_get ha) (hTT t _ ht) hin hdg ?_
    have k := k H locs hP hD hS
    have e9 : va_rf (if j.toNatClampNeg < N then (f j.toNatClampNeg).map r else none) = xm_v r (va_rf (f j.toNatClampNeg)) := by
      rw [if_pos hlt]
      cases f j.toNatClampNeg <;> rfl
    show W p l e R s m args below meth c H locs cells slots Q (F0 m (pc + 1) lsR (va_rf (if j.toNatClampNeg < N then (f j.toNatClampNeg).map r else none) :: u.map (xm_v r)))
    rw [e9]
    exact k
  case iastore =>
    obtain ⟨rfl, h0⟩ := xm_if h; replace h := h0; clear h0
    obtain ⟨x, j, a, t, N, f, rfl, ha, ht, hin, rfl⟩ := xm_bi_s h
    have he := xm_w_set tys r A a (.inl (t, N, .inl (upd f j.toNatClampNeg x)))
    exact va_iast hx hb hK hP hD hS a t (xm_w_get ha) (hTT t _ ht) hin hdg (fun H1 locs1 a1 a2 a3 => k H1 locs1 (he ▸ a1) (he ▸ a2) a3)
  case castore =>
    obtain ⟨rfl, h0⟩ := xm_if h; replace h := h0; clear h0
    obtain ⟨x, j, a, t, N, f, rfl, ha, ht, hin, rfl⟩ := xm_bi_s h
    have he := xm_w_set tys r A a (.inl (t, N, .inl (upd f j.toNatClampNeg (vp_nar .char x))))
    exact va_cast hx hb hK hP hD hS a t (xm_w_get ha) (hTT t _ ht) hin hdg (fun H1 locs1 a1 a2 a3 => k H1 locs1 (he ▸ a1) (he ▸ a2) a3)
  case bastore =>
    obtain ⟨rfl, h0⟩ := xm_if h; replace h := h0; clear h0
    obtain ⟨x, j, a, t, N, f, rfl, ha, ht, hin, rfl⟩ := xm_bi_s h
    have he := xm_w_set tys r A a (.inl (t, N, .inl (upd f j.toNatClampNeg (vp_nar .boolean x))))
    exact va_zast hx hb hK hP hD hS a t (xm_w_get ha) (hTT t _ ht) hin hdg (fun H1 locs1 a1 a2 a3 => k H1 locs1 (he ▸ a1) (he ▸ a2) a3)
  case lastore =>
    obtain ⟨rfl, h0⟩ := xm_if h; replace h := h0; clear h0
    obtain ⟨x, j, a, t, N, f, rfl, ha, ht, hin, rfl⟩ := xm_bl_s h
    have he := xm_w_set tys r A a (.inl (t, N, .inr (.inl (vp_updL f j.toNatClampNeg x))))
    exact va_last hx hb hK hP hD hS a t (xm_w_get ha) (hTT t _ ht) hin hdg (fun H1 locs1 a1 a2 a3 => k H1 locs1 (he ▸ a1) (he ▸ a2) a3)
  case aastore =>
    obtain ⟨rfl, h0⟩ := xm_if h; replace h := h0; clear h0
    obtain ⟨v, j, a, t, N, f, ci, vs, q, rfl, ha, hv, hc, ht, hin, hlt, rfl⟩ := xm_bq_s h
    have he : (xm_w tys r A).set a (r a, .inl (xm_ty tys t, N, .inr (.inr (.inr (.inr (va_up (fun j => if j < N then (f j).map r else none) j.toNatClampNeg (some (r v)))))))) = xm_w tys r (A.set a (.inl (t, N, .inr (.inr (.inr (.inr (va_up f j.toNatClampNeg (some v)))))))) := by
      rw [← xm_w_set]
      have e9 : va_up (fun j => if j < N then (f j).map r else none) j.toNatClampNeg (some (r v)) = fun i => if i < N then ((va_up f j.toNatClampNeg (some v)) i).map r else none := by
        funext i
        by_cases hi : i = j.toNatClampNeg
        · subst hi
          simp [va_up, hlt]
        · simp [va_up, hi]
      simp only [xm_e, e9]
    exact va_astq hx hb hK hP hD hS a t v ci (xm_w_get ha) (hTT t _ ht) (xm_w_get hv) hc hin hdg (fun H1 locs1 a1 a2 a3 => k H1 locs1 (he ▸ a1) (he ▸ a2) a3)
  case arraylength =>
    obtain ⟨rfl, h0⟩ := xm_if h; replace h := h0; clear h0
    obtain ⟨a, u, t, x, rfl, ha, ht, rfl, rfl⟩ := xm_an_s h
    have hty : tt[t]? = some tt[t] := List.getElem?_eq_getElem ht
    obtain ⟨N, f | f | f | f | f⟩ := x
    · exact va_alen hx hb hK hP a t (xm_w_get ha) (hTT t _ hty) rfl hdg (k H locs hP hD hS)
    · exact va_alen hx hb hK hP a t (xm_w_get ha) (hTT t _ hty) rfl hdg (k H locs hP hD hS)
    · exact va_alen hx hb hK hP a t (xm_w_get ha) (hTT t _ hty) rfl hdg (k H locs hP hD hS)
    · exact va_alen hx hb hK hP a t (xm_w_get ha) (hTT t _ hty) rfl hdg (k H locs hP hD hS)
    · exact va_alen hx hb hK hP a t (xm_w_get ha) (hTT t _ hty) rfl hdg (k H locs hP hD hS)
  all_goals exact absurd h (by simp [xm_hp])
end XM3
