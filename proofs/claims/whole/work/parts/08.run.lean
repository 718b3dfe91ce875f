/-! The abstract machine runs: a method's body with fuel (xm_rn), over what calls answer. -/
abbrev xm_R : Type := xm_H × (Option Value ⊕ Nat) × Nat × Nat
def xm_re (ret : Option FieldType) (i : Jvm.ClassFile.Instr) (n : Nat) (st : List Value) : Option (Option Value) :=
  match i with
  | .return_ => if n = 1 then (match st, ret with
    | [], none => some none
    | _, _ => none) else none
  | .ireturn => if n = 1 then (match st, ret with
    | [.int x], some ty => if narrow ty (.int x) = .int x then some (some (.int x)) else none
    | _, _ => none) else none
  | .lreturn => if n = 1 then (match st, ret with
    | [.long x], some .long => some (some (.long x))
    | _, _ => none) else none
  | .areturn => if n = 1 then (match st, ret with
    | [.ref a], some (.object _) => some (some (.ref a))
    | [.null], some (.object _) => some (some .null)
    | _, _ => none) else none
  | _ => none
def xm_sv (na : Nat) (st : List Value) : Option (Nat × List Value × List Value) := match st.drop na with
  | .ref b :: rest => if na ≤ st.length ∧ (rest.map (fun v => v.category)).sum ≤ 8 then some (b, (st.take na).reverse, rest) else none
  | _ => none
theorem xm_sv_s {na b : Nat} {st As rest : List Value} (h : xm_sv na st = some (b, As, rest)) : st = As.reverse ++ .ref b :: rest ∧ As.length = na ∧ (rest.map (fun v => v.category)).sum ≤ 8 := by
  unfold xm_sv at h
  split at h
  · rename_i b' rest' hd
    obtain ⟨⟨h1, h2⟩, h3⟩ := xm_if h
    simp only [Option.some.injEq, Prod.mk.injEq] at h3
    obtain ⟨rfl, rfl, rfl⟩ := h3
    refine ⟨?_, by simp [h1], h2⟩
    rw [List.reverse_reverse, ← hd, List.take_append_drop]
  · cases h
def xm_ss (na : Nat) (st : List Value) : Option (List Value × List Value) := if na ≤ st.length ∧ ((st.drop na).map (fun v => v.category)).sum ≤ 8 then some ((st.take na).reverse, st.drop na) else none
theorem xm_ss_s {na : Nat} {st As rest : List Value} (h : xm_ss na st = some (As, rest)) : st = As.reverse ++ rest ∧ As.length = na ∧ (rest.map (fun v => v.category)).sum ≤ 8 := by
  unfold xm_ss at h
  obtain ⟨⟨h1, h2⟩, h3⟩ := xm_if h
  simp only [Option.some.injEq, Prod.mk.injEq] at h3
  obtain ⟨rfl, rfl⟩ := h3
  refine ⟨?_, by simp [h1], h2⟩
  rw [List.reverse_reverse, List.take_append_drop]
/-- a call: the method, its arguments, the stack below -/
def xm_ca (oc : Nat → Nat) (cr : Nat → Option (Nat × Nat × Bool × Nat)) (i : Jvm.ClassFile.Instr) (n : Nat) (st : List Value) (A : xm_H) : Option (Nat × List Value × List Value) :=
  match i with
  | .invokevirtual x => if n = 3 then (match cr x with
    | some (0, k, _, na) => (match xm_sv na st with
      | some (b, As, rest) => (match A[b]? with
        | some (.inr (cj, _)) => if cj = oc k then some (k, .ref b :: As, rest) else none
        | _ => none)
      | none => none)
    | _ => none) else none
  | .invokestatic x => if n = 3 then (match cr x with
    | some (1, k, _, na) => (match xm_ss na st with
      | some (As, rest) => some (k, As, rest)
      | none => none)
    | _ => none) else none
  | .invokespecial x => if n = 3 then (match cr x with
    | some (2, k, _, na) => (match xm_sv na st with
      | some (b, As, rest) => some (k, .ref b :: As, rest)
      | none => none)
    | _ => none) else none
  | _ => none
section XM5
variable (call : Nat → xm_H → List Value → Option xm_R) (xt : Jvm.ClassFile.Instr → Nat → List Value → xm_H → xm_P) (xc : Jvm.ClassFile.Instr → Nat → List Value → xm_H → Option (List Value × xm_H × Nat × Nat))
variable (cl : List vw_C) (tt : List FieldType) (ft : Nat → Nat → FieldType) (fr : Nat → Option (Nat × Nat × Bool)) (ini : Option Nat) (nr qr : Nat → Option Nat) (ta : Jvm.ClassFile.ArrayType → Option Nat) (oc : Nat → Nat) (cr : Nat → Option (Nat × Nat × Bool × Nat))
variable (cc : ByteArray) (nL : Nat) (ret : Option FieldType)
def xm_rn : Nat → Nat → xm_L → List Value → xm_H → Nat → Nat → Option xm_R
  | 0, _, _, _, _, _, _ => none
  | f + 1, pc, ls, st, A, nc, ns => match decode cc pc with
    | .error _ => none
    | .ok (i, n) => match xm_pu nL i n ls st with
      | some q => xm_rn f (pc + n) q.1 q.2 A nc ns
      | none => match xm_br i n pc st with
        | some q => if q.1 = true then xm_rn f q.2.1 ls q.2.2 A nc ns else xm_rn f (pc + n) ls q.2.2 A nc ns
        | none => match xm_hp cl tt ft fr ini i n st A with
          | some q => xm_rn f (pc + n) ls q.1 q.2 nc ns
          | none => match xm_re ret i n st with
            | some v => some (A, .inl v, nc, ns)
            | none => match xm_ca oc cr i n st A with
              | some q => (match call q.1 A q.2.1 with
                | some (A', .inl v, c1, s1) => if A'.length = A.length ∨ xm_okS A ls q.2.2 = true then xm_rn f (pc + 3) ls (v.toList ++ q.2.2) A' (nc + c1) (ns + s1) else none
                | _ => none)
              | none => match xm_nw cl tt ft nr qr ta i n st with
                | some q => if xm_okS A ls q.1 = true then xm_rn f (pc + n) ls (.ref A.length :: q.1) (A ++ [q.2.1]) (nc + 1) (ns + q.2.2) else none
                | none => match xt i n st A with
                  | some q => xm_rn f (pc + n) ls q.1 q.2 nc ns
                  | none => match xc i n st A with
                    | some q => xm_rn f (pc + n) ls q.1 q.2.1 (nc + q.2.2.1) (ns + q.2.2.2)
                    | none => none
end XM5
theorem xm_hp_len {cl : List vw_C} {tt : List FieldType} {ft : Nat → Nat → FieldType} {fr : Nat → Option (Nat × Nat × Bool)} {ini : Option Nat} {i : Jvm.ClassFile.Instr} {n : Nat} {st st' : List Value} {A A' : xm_H} (h : xm_hp cl tt ft fr ini i n st A = some (st', A')) : A'.length = A.length := by
  cases i
  case getfield x => obtain ⟨-, h0⟩ := xm_if h; obtain ⟨_, _, _, _, _, _, _, -, -, -, -, -, rfl⟩ := xm_gf_s h0; rfl
  case putfield x => obtain ⟨-, h0⟩ := xm_if h; obtain ⟨_, _, _, _, _, _, -, -, -, -, -, -, -, rfl⟩ := xm_pf_s h0; exact List.length_set
  case iaload => obtain ⟨-, h0⟩ := xm_if h; obtain ⟨_, _, _, _, _, _, -, -, -, -, -, rfl⟩ := xm_ai_s h0; rfl
  case caload => obtain ⟨-, h0⟩ := xm_if h; obtain ⟨_, _, _, _, _, _, -, -, -, -, -, rfl⟩ := xm_ai_s h0; rfl
  case baload => obtain ⟨-, h0⟩ := xm_if h; obtain ⟨_, _, _, _, _, _, -, -, -, -, -, rfl⟩ := xm_ai_s h0; rfl
  case laload => obtain ⟨-, h0⟩ := xm_if h; obtain ⟨_, _, _, _, _, _, -, -, -, -, -, rfl⟩ := xm_al_s h0; rfl
  case aaload => obtain ⟨-, h0⟩ := xm_if h; obtain ⟨_, _, _, _, _, _, _, -, -, -, -, -, rfl⟩ := xm_aq_s h0; rfl
  case iastore => obtain ⟨-, h0⟩ := xm_if h; obtain ⟨_, _, _, _, _, _, -, -, -, -, rfl⟩ := xm_bi_s h0; exact List.length_set
  case castore => obtain ⟨-, h0⟩ := xm_if h; obtain ⟨_, _, _, _, _, _, -, -, -, -, rfl⟩ := xm_bi_s h0; exact List.length_set
  case bastore => obtain ⟨-, h0⟩ := xm_if h; obtain ⟨_, _, _, _, _, _, -, -, -, -, rfl⟩ := xm_bi_s h0; exact List.length_set
  case lastore => obtain ⟨-, h0⟩ := xm_if h; obtain ⟨_, _, _, _, _, _, -, -, -, -, rfl⟩ := xm_bl_s h0; exact List.length_set
  case aastore => obtain ⟨-, h0⟩ := xm_if h; obtain ⟨_, _, _, _, _, _, _, _, _, -, -, -, -, -, -, -, rfl⟩ := xm_bq_s h0; exact List.length_set
  case arraylength => obtain ⟨-, h0⟩ := xm_if h; obtain ⟨_, _, _, _, -, -, -, -, rfl⟩ := xm_an_s h0; rfl
  all_goals exact absurd h (by simp [xm_hp])
/-- nothing is lost: the heap and the two counts grow -/
theorem xm_rn_mono {call : Nat → xm_H → List Value → Option xm_R} {xt : Jvm.ClassFile.Instr → Nat → List Value → xm_H → xm_P} {xc : Jvm.ClassFile.Instr → Nat → List Value → xm_H → Option (List Value × xm_H × Nat × Nat)}
    {cl : List vw_C} {tt : List FieldType} {ft : Nat → Nat → FieldType} {fr : Nat → Option (Nat × Nat × Bool)} {ini : Option Nat} {nr qr : Nat → Option Nat} {ta : Jvm.ClassFile.ArrayType → Option Nat} {oc : Nat → Nat} {cr : Nat → Option (Nat × Nat × Bool × Nat)} {cc : ByteArray} {nL : Nat} {ret : Option FieldType}
    (hcall : ∀ k A As A' o c1 s1, call k A As = some (A', o, c1, s1) → A.length ≤ A'.length) (hxt : ∀ i n st A st' A', xt i n st A = some (st', A') → A'.length = A.length) (hxc : ∀ i n st A st' A' c1 s1, xc i n st A = some (st', A', c1, s1) → A'.length = A.length) :
    ∀ (f pc : Nat) (ls : xm_L) (st : List Value) (A : xm_H) (nc ns : Nat) (A' : xm_H) (o : Option Value ⊕ Nat) (nc' ns' : Nat), xm_rn call xt xc cl tt ft fr ini nr qr ta oc cr cc nL ret f pc ls st A nc ns = some (A', o, nc', ns') → A.length ≤ A'.length ∧ nc ≤ nc' ∧ ns ≤ ns' := by
  intro f
  induction f with
  | zero => intro pc ls st A nc ns A' o nc' ns' h; cases h
  | succ f ih =>
    intro pc ls st A nc ns A' o nc' ns' h
    rw [xm_rn] at h
    split at h
    · cases h
    · split at h
      · exact ih _ _ _ _ _ _ _ _ _ _ h
      · split at h
        · split at h
          · exact ih _ _ _ _ _ _ _ _ _ _ h
          · exact ih _ _ _ _ _ _ _ _ _ _ h
        · split at h
          · rename_i q hq
            have h1 := ih _ _ _ _ _ _ _ _ _ _ h
            rw [xm_hp_len hq] at h1
            exact h1
          · split at h
            · simp only [Option.some.injEq, Prod.mk.injEq] at h
              obtain ⟨rfl, -, rfl, rfl⟩ := h
              exact ⟨Nat.le_refl _, Nat.le_refl _, Nat.le_refl _⟩
            · split at h
              · split at h
                · rename_i A1 v c1 s1 hc
                  obtain ⟨-, h⟩ := xm_if h
                  have h1 := ih _ _ _ _ _ _ _ _ _ _ h
                  have h2 := hcall _ _ _ _ _ _ _ hc
                  exact ⟨by omega, by omega, by omega⟩
                · cases h
              · split at h
                · obtain ⟨-, h⟩ := xm_if h
                  have h1 := ih _ _ _ _ _ _ _ _ _ _ h
                  simp only [List.length_append, List.length_cons, List.length_nil] at h1
                  exact ⟨by omega, by omega, by omega⟩
                · split at h
                  · rename_i q hq
                    have h1 := ih _ _ _ _ _ _ _ _ _ _ h
                    rw [hxt _ _ _ _ _ _ hq] at h1
                    exact h1
                  · split at h
                    · rename_i q hq
                      have h1 := ih _ _ _ _ _ _ _ _ _ _ h
                      rw [hxc _ _ _ _ _ _ _ _ hq] at h1
                      exact ⟨by omega, by omega, by omega⟩
                    · cases h
