/-! More fuel, and callees that answer more, give the same. -/
set_option maxHeartbeats 4000000 in
theorem xm_rn_up {call call' : Nat → xm_H → List Value → Option xm_R} {xt : Jvm.ClassFile.Instr → Nat → List Value → xm_H → xm_P} {xc xc' : Jvm.ClassFile.Instr → Nat → List Value → xm_H → Option (List Value × xm_H × Nat × Nat)}
    {cl : List vw_C} {tt : List FieldType} {ft : Nat → Nat → FieldType} {fr : Nat → Option (Nat × Nat × Bool)} {ini : Option Nat} {nr qr : Nat → Option Nat} {ta : Jvm.ClassFile.ArrayType → Option Nat} {oc : Nat → Nat} {cr : Nat → Option (Nat × Nat × Bool × Nat)} {cc : ByteArray} {nL : Nat} {ret : Option FieldType} {R : xm_R}
    (hcall : ∀ k A As r, call k A As = some r → call' k A As = some r) (hxc : ∀ i n st A q, xc i n st A = some q → xc' i n st A = some q) :
    ∀ (f f' pc : Nat) (ls : xm_L) (st : List Value) (A : xm_H) (nc ns : Nat), f ≤ f' → xm_rn call xt xc cl tt ft fr ini nr qr ta oc cr cc nL ret f pc ls st A nc ns = some R → xm_rn call' xt xc' cl tt ft fr ini nr qr ta oc cr cc nL ret f' pc ls st A nc ns = some R := by
  intro f
  induction f with
  | zero => intro f' pc ls st A nc ns hf h; cases h
  | succ f ih =>
    intro f' pc ls st A nc ns hf h
    cases f' with
    | zero => omega
    | succ f' =>
      have hf' : f ≤ f' := Nat.le_of_succ_le_succ hf
      rw [xm_rn] at h ⊢
      cases hd : decode cc pc with
      | error e => rw [hd] at h; cases h
      | ok q =>
        obtain ⟨i, n⟩ := q
        rw [hd] at h
        dsimp only at h ⊢
        cases h1 : xm_pu nL i n ls st with
        | some q => rw [h1] at h; exact ih _ _ _ _ _ _ _ hf' h
        | none =>
          rw [h1] at h
          dsimp only at h ⊢
          cases h2 : xm_br i n pc st with
          | some q =>
            rw [h2] at h
            dsimp only at h ⊢
            by_cases hb : q.1 = true
            · rw [if_pos hb] at h ⊢; exact ih _ _ _ _ _ _ _ hf' h
            · rw [if_neg hb] at h ⊢; exact ih _ _ _ _ _ _ _ hf' h
          | none =>
            rw [h2] at h
            dsimp only at h ⊢
            cases h3 : xm_hp cl tt ft fr ini i n st A with
            | some q => rw [h3] at h; exact ih _ _ _ _ _ _ _ hf' h
            | none =>
              rw [h3] at h
              dsimp only at h ⊢
              cases h4 : xm_re ret i n st with
              | some v => rw [h4] at h; exact h
              | none =>
                rw [h4] at h
                dsimp only at h ⊢
                cases h5 : xm_ca oc cr i n st A with
                | some q =>
                  rw [h5] at h
                  dsimp only at h ⊢
                  cases h6 : call q.1 A q.2.1 with
                  | none => rw [h6] at h; cases h
                  | some r =>
                    rw [h6] at h
                    rw [hcall _ _ _ _ h6]
                    obtain ⟨A', o, c1, s1⟩ := r
                    cases o with
                    | inr x => cases h
                    | inl v =>
                      dsimp only at h ⊢
                      obtain ⟨hc, h⟩ := xm_if h
                      rw [if_pos hc]
                      exact ih _ _ _ _ _ _ _ hf' h
                | none =>
                  rw [h5] at h
                  dsimp only at h ⊢
                  cases h7 : xm_nw cl tt ft nr qr ta i n st with
                  | some q =>
                    rw [h7] at h
                    dsimp only at h ⊢
                    obtain ⟨hc, h⟩ := xm_if h
                    rw [if_pos hc]
                    exact ih _ _ _ _ _ _ _ hf' h
                  | none =>
                    rw [h7] at h
                    dsimp only at h ⊢
                    cases h8 : xt i n st A with
                    | some q => rw [h8] at h; exact ih _ _ _ _ _ _ _ hf' h
                    | none =>
                      rw [h8] at h
                      dsimp only at h ⊢
                      cases h9 : xc i n st A with
                      | none => rw [h9] at h; cases h
                      | some q =>
                        rw [h9] at h
                        rw [hxc _ _ _ _ _ h9]
                        exact ih _ _ _ _ _ _ _ hf' h
theorem tb_ex_up {F F' : Nat} (hF : F ≤ F') : ∀ (d d' k : Nat) (A : xm_H) (As : List Value) (R : xm_R), d ≤ d' → tb_ex F d k A As = some R → tb_ex F' d' k A As = some R := by
  intro d
  induction d with
  | zero => intro d' k A As R _ h; cases h
  | succ d ih =>
    intro d' k A As R hd h
    cases d' with
    | zero => omega
    | succ d' =>
      have hd' : d ≤ d' := Nat.le_of_succ_le_succ hd
      unfold tb_ex at h ⊢
      rw [xm_ex] at h ⊢
      obtain ⟨hc, h⟩ := xm_if h
      rw [if_pos hc]
      exact xm_rn_up (fun k A As r h => ih d' k A As r hd' h) (fun _ _ _ _ _ h => h) _ _ _ _ _ _ _ _ hF h
