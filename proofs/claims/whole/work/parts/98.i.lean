/-! The constructors, by the kernel: a run that refuses to store into arrays of numbers leaves them zero; the rest is decided. -/
def gz (i : Jvm.ClassFile.Instr) : Bool := match i with
  | .iastore => false
  | .castore => false
  | .bastore => false
  | .lastore => false
  | .invokestatic _ => false
  | _ => true
def zc (e : va_E) : Prop := match e with
  | .inl (_, _, .inl f) => f = fun _ => 0
  | .inl (_, _, .inr (.inl g)) => g = fun _ => 0
  | _ => True
def zz (A : xm_H) : Prop := ∀ e ∈ A, zc e
theorem zz_set {A : xm_H} {a : Nat} {e : va_E} (h : zz A) (he : zc e) : zz (A.set a e) := by
  intro x hx
  rcases List.mem_or_eq_of_mem_set hx with h1 | h1
  · exact h x h1
  · rw [h1]; exact he
theorem zz_app {A : xm_H} {e : va_E} (h : zz A) (he : zc e) : zz (A ++ [e]) := by
  intro x hx
  rcases List.mem_append.mp hx with h1 | h1
  · exact h x h1
  · rw [List.mem_singleton.mp h1]; exact he
theorem zz_hp {cl : List vw_C} {tt : List FieldType} {ft : Nat → Nat → FieldType} {fr : Nat → Option (Nat × Nat × Bool)} {ini : Option Nat} {i : Jvm.ClassFile.Instr} {n : Nat} {st st' : List Value} {A A' : xm_H} (hg : gz i = true) (h : xm_hp cl tt ft fr ini i n st A = some (st', A')) (hz : zz A) : zz A' := by
  cases i
  case getfield x => obtain ⟨-, h0⟩ := xm_if h; obtain ⟨_, _, _, _, _, _, _, -, -, -, -, -, rfl⟩ := xm_gf_s h0; exact hz
  case putfield x => obtain ⟨-, h0⟩ := xm_if h; obtain ⟨_, _, _, _, _, _, -, -, -, -, -, -, -, rfl⟩ := xm_pf_s h0; exact zz_set hz trivial
  case iaload => obtain ⟨-, h0⟩ := xm_if h; obtain ⟨_, _, _, _, _, _, -, -, -, -, -, rfl⟩ := xm_ai_s h0; exact hz
  case caload => obtain ⟨-, h0⟩ := xm_if h; obtain ⟨_, _, _, _, _, _, -, -, -, -, -, rfl⟩ := xm_ai_s h0; exact hz
  case baload => obtain ⟨-, h0⟩ := xm_if h; obtain ⟨_, _, _, _, _, _, -, -, -, -, -, rfl⟩ := xm_ai_s h0; exact hz
  case laload => obtain ⟨-, h0⟩ := xm_if h; obtain ⟨_, _, _, _, _, _, -, -, -, -, -, rfl⟩ := xm_al_s h0; exact hz
  case aaload => obtain ⟨-, h0⟩ := xm_if h; obtain ⟨_, _, _, _, _, _, _, -, -, -, -, -, rfl⟩ := xm_aq_s h0; exact hz
  case iastore => cases hg
  case castore => cases hg
  case bastore => cases hg
  case lastore => cases hg
  case aastore => obtain ⟨-, h0⟩ := xm_if h; obtain ⟨_, _, _, _, _, _, _, _, _, -, -, -, -, -, -, -, rfl⟩ := xm_bq_s h0; exact zz_set hz trivial
  case arraylength => obtain ⟨-, h0⟩ := xm_if h; obtain ⟨_, _, _, _, -, -, -, -, rfl⟩ := xm_an_s h0; exact hz
  all_goals exact absurd h (by simp [xm_hp])
theorem zc_da (t : Nat) (ty : FieldType) (N : Nat) : zc (.inl (t, xm_da ty N)) := by
  cases ty <;> exact rfl
theorem zz_nw {cl : List vw_C} {tt : List FieldType} {ft : Nat → Nat → FieldType} {nr qr : Nat → Option Nat} {ta : Jvm.ClassFile.ArrayType → Option Nat} {i : Jvm.ClassFile.Instr} {n m : Nat} {st st' : List Value} {e : va_E} (h : xm_nw cl tt ft nr qr ta i n st = some (st', e, m)) : zc e := by
  cases i
  case new x =>
    obtain ⟨-, h⟩ := xm_if h
    split at h
    · split at h
      · simp only [Option.some.injEq, Prod.mk.injEq] at h
        obtain ⟨-, rfl, -⟩ := h
        trivial
      · cases h
    · cases h
  case newarray a =>
    obtain ⟨-, h⟩ := xm_if h
    split at h
    · obtain ⟨-, h⟩ := xm_if h
      simp only [Option.some.injEq, Prod.mk.injEq] at h
      obtain ⟨-, rfl, -⟩ := h
      exact zc_da _ _ _
    · cases h
  case anewarray x =>
    obtain ⟨-, h⟩ := xm_if h
    split at h
    · obtain ⟨-, h⟩ := xm_if h
      simp only [Option.some.injEq, Prod.mk.injEq] at h
      obtain ⟨-, rfl, -⟩ := h
      trivial
    · cases h
  all_goals exact absurd h (by simp [xm_nw])
theorem zz_xo {o : Nat} {i : Jvm.ClassFile.Instr} {n : Nat} {st st' : List Value} {A A' : xm_H} (hg : gz i = true) (h : tb_xo o i n st A = some (st', A')) : A' = A := by
  cases i
  case ldc2_w x => obtain ⟨-, h⟩ := xm_if h; obtain ⟨v, -, h⟩ := xm_map h; cases h; rfl
  case ldc x => obtain ⟨-, h⟩ := xm_if h; obtain ⟨v, -, h⟩ := xm_map h; cases h; rfl
  case invokespecial x =>
    simp only [tb_xo] at h
    obtain ⟨-, h⟩ := xm_if h
    split at h
    · obtain ⟨-, h⟩ := xm_if h; cases h; rfl
    · cases h
  case invokestatic x => cases hg
  case invokevirtual x =>
    simp only [tb_xo] at h
    obtain ⟨-, h⟩ := xm_if h
    split at h
    · split at h
      · obtain ⟨-, h⟩ := xm_if h; obtain ⟨v, -, h⟩ := xm_map h; cases h; rfl
      · cases h
    · obtain ⟨-, h⟩ := xm_if h
      split at h
      · obtain ⟨-, h⟩ := xm_if h
        split at h
        · obtain ⟨v, -, h⟩ := xm_map h; cases h; rfl
        · cases h
      · cases h
  all_goals exact absurd h (by simp [tb_xo])
section ZZA
variable (call : Nat → xm_H → List Value → Option xm_R) (xt : Jvm.ClassFile.Instr → Nat → List Value → xm_H → xm_P)
variable (cl : List vw_C) (tt : List FieldType) (ft : Nat → Nat → FieldType) (fr : Nat → Option (Nat × Nat × Bool)) (ini : Option Nat) (nr qr : Nat → Option Nat) (ta : Jvm.ClassFile.ArrayType → Option Nat) (oc : Nat → Nat) (cr : Nat → Option (Nat × Nat × Bool × Nat))
variable (cc : ByteArray) (nL : Nat) (ret : Option FieldType)
def xm_rz : Nat → Nat → xm_L → List Value → xm_H → Nat → Nat → Option xm_R
  | 0, _, _, _, _, _, _ => none
  | f + 1, pc, ls, st, A, nc, ns => match decode cc pc with
    | .error _ => none
    | .ok (i, n) => if gz i = true then (match xm_pu nL i n ls st with
      | some q => xm_rz f (pc + n) q.1 q.2 A nc ns
      | none => match xm_br i n pc st with
        | some q => if q.1 = true then xm_rz f q.2.1 ls q.2.2 A nc ns else xm_rz f (pc + n) ls q.2.2 A nc ns
        | none => match xm_hp cl tt ft fr ini i n st A with
          | some q => xm_rz f (pc + n) ls q.1 q.2 nc ns
          | none => match xm_re ret i n st with
            | some v => some (A, .inl v, nc, ns)
            | none => match xm_ca oc cr i n st A with
              | some q => (match call q.1 A q.2.1 with
                | some (A', .inl v, c1, s1) => if A'.length = A.length ∨ xm_okS A ls q.2.2 = true then xm_rz f (pc + 3) ls (v.toList ++ q.2.2) A' (nc + c1) (ns + s1) else none
                | _ => none)
              | none => match xm_nw cl tt ft nr qr ta i n st with
                | some q => if xm_okS A ls q.1 = true then xm_rz f (pc + n) ls (.ref A.length :: q.1) (A ++ [q.2.1]) (nc + 1) (ns + q.2.2) else none
                | none => match xt i n st A with
                  | some q => xm_rz f (pc + n) ls q.1 q.2 nc ns
                  | none => none) else none
end ZZA
section ZZB
variable {call call' : Nat → xm_H → List Value → Option xm_R} {xt : Jvm.ClassFile.Instr → Nat → List Value → xm_H → xm_P} {xc : Jvm.ClassFile.Instr → Nat → List Value → xm_H → Option (List Value × xm_H × Nat × Nat)}
variable {cl : List vw_C} {tt : List FieldType} {ft : Nat → Nat → FieldType} {fr : Nat → Option (Nat × Nat × Bool)} {ini : Option Nat} {nr qr : Nat → Option Nat} {ta : Jvm.ClassFile.ArrayType → Option Nat} {oc : Nat → Nat} {cr : Nat → Option (Nat × Nat × Bool × Nat)}
variable {cc : ByteArray} {nL : Nat} {ret : Option FieldType}
theorem xm_rz_ok (hcall : ∀ k A As A' v c s, call k A As = some (A', .inl v, c, s) → call' k A As = some (A', .inl v, c, s) ∧ (zz A → zz A')) (hxt : ∀ i n st A st' A', gz i = true → xt i n st A = some (st', A') → A' = A) :
    ∀ f pc ls st A nc ns A' v c s, xm_rz call xt cl tt ft fr ini nr qr ta oc cr cc nL ret f pc ls st A nc ns = some (A', .inl v, c, s) → xm_rn call' xt xc cl tt ft fr ini nr qr ta oc cr cc nL ret f pc ls st A nc ns = some (A', .inl v, c, s) ∧ (zz A → zz A') := by
  intro f
  induction f with
  | zero => intro pc ls st A nc ns A' v c s h; cases h
  | succ f ih =>
    intro pc ls st A nc ns A' v c s h
    rw [xm_rz] at h
    rw [xm_rn]
    cases hd : decode cc pc with
    | error e => rw [hd] at h; cases h
    | ok p =>
      obtain ⟨i, n⟩ := p
      rw [hd] at h
      dsimp only at h ⊢
      obtain ⟨hg, h⟩ := xm_if h
      cases h1 : xm_pu nL i n ls st with
      | some q => rw [h1] at h; exact ih _ _ _ _ _ _ _ _ _ _ h
      | none =>
        rw [h1] at h
        dsimp only at h ⊢
        cases h2 : xm_br i n pc st with
        | some q =>
          rw [h2] at h
          dsimp only at h ⊢
          by_cases hq : q.1 = true
          · rw [if_pos hq] at h ⊢; exact ih _ _ _ _ _ _ _ _ _ _ h
          · rw [if_neg hq] at h ⊢; exact ih _ _ _ _ _ _ _ _ _ _ h
        | none =>
          rw [h2] at h
          dsimp only at h ⊢
          cases h3 : xm_hp cl tt ft fr ini i n st A with
          | some q =>
            rw [h3] at h
            obtain ⟨a, b⟩ := ih _ _ _ _ _ _ _ _ _ _ h
            exact ⟨a, fun z => b (zz_hp (st' := q.1) hg h3 z)⟩
          | none =>
            rw [h3] at h
            dsimp only at h ⊢
            cases h4 : xm_re ret i n st with
            | some w =>
              rw [h4] at h
              dsimp only at h ⊢
              simp only [Option.some.injEq, Prod.mk.injEq] at h
              obtain ⟨rfl, h5, rfl, rfl⟩ := h
              rw [h5]
              exact ⟨rfl, id⟩
            | none =>
              rw [h4] at h
              dsimp only at h ⊢
              cases h5 : xm_ca oc cr i n st A with
              | some q =>
                rw [h5] at h
                dsimp only at h ⊢
                split at h
                · rename_i A1 v1 c1 s1 h6
                  obtain ⟨g1, g2⟩ := hcall _ _ _ _ _ _ _ h6
                  obtain ⟨g3, h⟩ := xm_if h
                  obtain ⟨a, b⟩ := ih _ _ _ _ _ _ _ _ _ _ h
                  rw [g1]
                  dsimp only
                  rw [if_pos g3]
                  exact ⟨a, fun z => b (g2 z)⟩
                · cases h
              | none =>
                rw [h5] at h
                dsimp only at h ⊢
                cases h6 : xm_nw cl tt ft nr qr ta i n st with
                | some q =>
                  rw [h6] at h
                  dsimp only at h ⊢
                  obtain ⟨g3, h⟩ := xm_if h
                  obtain ⟨a, b⟩ := ih _ _ _ _ _ _ _ _ _ _ h
                  rw [if_pos g3]
                  exact ⟨a, fun z => b (zz_app z (zz_nw (st' := q.1) (m := q.2.2) h6))⟩
                | none =>
                  rw [h6] at h
                  dsimp only at h ⊢
                  cases h7 : xt i n st A with
                  | some q =>
                    rw [h7] at h
                    dsimp only at h ⊢
                    obtain ⟨a, b⟩ := ih _ _ _ _ _ _ _ _ _ _ h
                    refine ⟨a, fun z => b ?_⟩
                    rw [hxt i n st A q.1 q.2 hg h7]
                    exact z
                  | none => rw [h7] at h; cases h
end ZZB
def tb_zx (F : Nat) : Nat → Nat → xm_H → List Value → Option xm_R
  | 0, _, _, _ => none
  | d + 1, k, A, As => if tb_mok k = true ∧ (lg_sl As).length ≤ tb_mL k then xm_rz (tb_zx F d) (tb_xt k) tb_cl tb_tt tb_ft (tb_fr (tb_oc k)) (tb_ini k) (tb_nr (tb_oc k)) (tb_qr (tb_oc k)) tb_ta tb_oc (tb_cr (tb_oc k)) (tb_mb k) (tb_mL k) (tb_mr k) F 0 (lv_args 0 As) [] A 0 0 else none
theorem tb_zx_ok {F : Nat} : ∀ d k A As A' v c s, tb_zx F d k A As = some (A', .inl v, c, s) → tb_ex F d k A As = some (A', .inl v, c, s) ∧ (zz A → zz A') := by
  intro d
  induction d with
  | zero => intro k A As A' v c s h; cases h
  | succ d ih =>
    intro k A As A' v c s h
    rw [tb_zx] at h
    obtain ⟨g, h⟩ := xm_if h
    unfold tb_ex
    rw [xm_ex, if_pos g]
    exact xm_rz_ok ih (fun i n st A st' A' hg hx => zz_xo hg hx) _ _ _ _ _ _ _ _ _ _ _ h
def ev_ (v : Value) : Nat × Int := match v with
  | .int x => (0, x.toInt)
  | .long x => (1, x.toInt)
  | .ref r => (2, r)
  | .null => (3, 0)
  | _ => (4, 0)
def er_ (e : va_E) : Nat × Nat × List (Nat × Int) := match e with
  | .inr (ci, fs) => (0, ci, fs.map ev_)
  | .inl (t, n, .inl _) => (1, t, [(n, 0)])
  | .inl (t, n, .inr (.inl _)) => (2, t, [(n, 0)])
  | .inl (t, n, .inr (.inr (.inr (.inr q)))) => (3, t, (n, 0) :: (List.range 8).map (fun j => match q j with
    | some r => (r, 1)
    | none => (0, 0)))
  | _ => (4, 0, [])
def es_ (e : sk_E) : Nat × Nat × List (Nat × Int) := match e with
  | .inl (ci, cs) => (0, ci, cs.map (fun c => match c with
    | 0 => (0, 0)
    | 1 => (1, 0)
    | r + 2 => (2, (r : Int))))
  | .inr (t, n, 0) => (1, t, [(n, 0)])
  | .inr (t, n, 1) => (2, t, [(n, 0)])
  | .inr (t, n, _ + 2) => (3, t, (n, 0) :: (List.range 8).map (fun j => (20 + 9 * j, 1)))
def zA (o : Option xm_R) : xm_H := match o with
  | some (A, _) => A
  | none => []
def zK (o : Option xm_R) : Nat × Nat := match o with
  | some (_, .inl none, c, s) => (c, s)
  | _ => (1000000, 0)
def z_0 : va_E := .inr (8, xm_def tb_ft 8 5)
def z_1 : va_E := .inr (9, xm_def tb_ft 9 41)
def z_2 : va_E := .inl (1, 1, .inr (.inl (fun _ => 0)))
def zo_0 : Option xm_R := tb_zx 400 10 0 [z_0] [.ref 0]
