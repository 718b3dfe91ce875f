/-! A read-only run: the heap and what was written stay as they are; it returns, or throws. -/
def xm_hr (tt : List FieldType) (fr : Nat → Option (Nat × Nat × Bool)) (i : Jvm.ClassFile.Instr) (n : Nat) (st : List Value) (A : xm_H) : Option (List Value) :=
  match i with
  | .getfield x => if n = 3 then (xm_gf (fr x) A st).map (fun q => q.1) else none
  | .iaload => if n = 1 then (xm_ai tt .int A st).map (fun q => q.1) else none
  | .aaload => if n = 1 then (xm_aq tt A st).map (fun q => q.1) else none
  | .arraylength => if n = 1 then (xm_an tt A st).map (fun q => q.1) else none
  | _ => none
section XRA
variable {p : Program} {l : Launch} {e : Env} {R : Room} {s : State} {m : MethodId} {args : Array Value} {below : List Frame} {meth : Method} {c : Code} {H : Heap} {locs : List Loc} {cells slots : Nat} {Q : State → Prop}
variable {cc : ByteArray} {pc n : Nat} {lsR : Array Slot} {r : Nat → Nat} {st st' : List Value} {A : xm_H}
variable {cl : List vw_C} {tt : List FieldType} {fr : Nat → Option (Nat × Nat × Bool)} {Ts : List Cond} {own : String} {D : va_G} {tys : xm_T}
set_option maxHeartbeats 4000000 in
theorem xm_hr_ok {i : Jvm.ClassFile.Instr} (hx : p.tables.exec = Jvm.exec) (hb : c.code = cc) (h : xm_hr tt fr i n st A = some st') (hdg : decode cc pc = .ok (i, n)) (hts : ∀ w ∈ Ts, w.before args s = true) (hown : s.vm.findClass own = some m.cls)
    (hFR : xm_FR cl Ts own args s fr) (hTT : xm_TT tt tys) (hK : va_K D cl tys s) (hP : va_P D cl (xm_w tys r A) H)
    (k : W p l e R s m args below meth c H locs cells slots Q (F0 m (pc + n) lsR (st'.map (xm_v r)))) : W p l e R s m args below meth c H locs cells slots Q (F0 m pc lsR (st.map (xm_v r))) := by
  cases i
  case getfield x =>
    obtain ⟨rfl, h0⟩ := xm_if h
    obtain ⟨⟨_, A'⟩, h1, rfl⟩ := xm_map h0
    obtain ⟨a, t, ci, kk, b, fs, v, rfl, hq, ha, hv, rfl, rfl⟩ := xm_gf_s h1
    obtain ⟨C, T, N, hc, hk, hin, hl0, hl1⟩ := hFR _ _ _ _ hq
    cases b with
    | false => exact va_get (v := xm_v r v) hx hb hts hin hown hK hP a (xm_w_get ha) hc kk hk (hl0 rfl) (fun _ h9 => h9) (by rw [List.getElem?_map, hv]; rfl) hdg k
    | true =>
      obtain ⟨host, hl⟩ := hl1 rfl
      exact va_getN (v := xm_v r v) hx hb hts hin hown hK hP a (xm_w_get ha) hc kk hk hl (fun _ h9 => h9) (by rw [List.getElem?_map, hv]; rfl) hdg k
  case iaload =>
    obtain ⟨rfl, h0⟩ := xm_if h
    obtain ⟨⟨_, A'⟩, h1, rfl⟩ := xm_map h0
    obtain ⟨j, a, u, t, N, f, rfl, ha, ht, hin, rfl, rfl⟩ := xm_ai_s h1
    exact va_iald hx hb hK hP a t (xm_w_get ha) (hTT t _ ht) hin hdg k
  case aaload =>
    obtain ⟨rfl, h0⟩ := xm_if h
    obtain ⟨⟨_, A'⟩, h1, rfl⟩ := xm_map h0
    obtain ⟨j, a, u, t, N, f, C, rfl, ha, ht, hin, rfl, rfl⟩ := xm_aq_s h1
    have hlt : j.toNatClampNeg < N := Nat.not_le.mp fun q => hin (Or.inr q)
    refine va_aldq hx hb hK hP a t (xm_w_get ha) (hTT t _ ht) hin hdg ?_
    have e9 : va_rf (if j.toNatClampNeg < N then (f j.toNatClampNeg).map r else none) = xm_v r (va_rf (f j.toNatClampNeg)) := by
      rw [if_pos hlt]
      cases f j.toNatClampNeg <;> rfl
    show W p l e R s m args below meth c H locs cells slots Q (F0 m (pc + 1) lsR (va_rf (if j.toNatClampNeg < N then (f j.toNatClampNeg).map r else none) :: u.map (xm_v r)))
    rw [e9]
    exact k
  case arraylength =>
    obtain ⟨rfl, h0⟩ := xm_if h
    obtain ⟨⟨_, A'⟩, h1, rfl⟩ := xm_map h0
    obtain ⟨a, u, t, x, rfl, ha, ht, rfl, rfl⟩ := xm_an_s h1
    have hty : tt[t]? = some tt[t] := List.getElem?_eq_getElem ht
    obtain ⟨N, f | f | f | f | f⟩ := x
    · exact va_alen hx hb hK hP a t (xm_w_get ha) (hTT t _ hty) rfl hdg k
    · exact va_alen hx hb hK hP a t (xm_w_get ha) (hTT t _ hty) rfl hdg k
    · exact va_alen hx hb hK hP a t (xm_w_get ha) (hTT t _ hty) rfl hdg k
    · exact va_alen hx hb hK hP a t (xm_w_get ha) (hTT t _ hty) rfl hdg k
    · exact va_alen hx hb hK hP a t (xm_w_get ha) (hTT t _ hty) rfl hdg k
  all_goals exact absurd h (by simp [xm_hr])
end XRA
section XRB
variable {p : Program} {l : Launch} {e : Env} {R : Room} {s : State} {m : MethodId} {args : Array Value} {below : List Frame} {meth : Method} {c : Code} {H : Heap} {locs : List Loc} {cells slots : Nat} {Q : State → Prop}
variable {cc : ByteArray} {pc n nL d : Nat} {lsR : Array Slot} {r : Nat → Nat} {st rest As : List Value} {A : xm_H} {k : Nat} {v : Option Value}
variable {cl : List vw_C} {Ts gd : List Cond} {own : String} {D : va_G} {tys : xm_T} {my : Nat → MethodName} {mb : Nat → ByteArray} {mL : Nat → Nat} {mr : Nat → Option FieldType} {oc : Nat → Nat} {cr : Nat → Option (Nat × Nat × Bool × Nat)} {Pc Qc : Array Value → State → Prop}
set_option maxHeartbeats 4000000 in
/-- a virtual call of a method that reads alone -/
theorem xm_cr_ok {i : Jvm.ClassFile.Instr} {Pc : Array Value → State → Prop} (S : CallFix p m c cc nL s args Ts own) (h : xm_ca oc cr i n st A = some (k, As, rest)) (hvi : ∃ x, i = .invokevirtual x) (hdg : decode cc pc = .ok (i, n)) (hCR : xm_CR own args s gd my mb mL mr cl oc cr) (hgd : ∀ w ∈ gd, w ∈ Ts) (hgood : ∀ w ∈ gd, goodWord w = true)
    (hM : Met l (my k) (xm_ws gd my mb mL mr k) (xm_rm d 0 0) Pc (st_Q (v.map (xm_v r))) 0 0 (fun _ => False)) (hblind : FrameBlind Pc) (hpre : ∀ U : State, U.heap = H → s.WarmedH U.vm → Pc (As.map (xm_v r)).toArray U)
    (hRf : d + 21 ≤ R.frames) (hRl : 64 * d + 2064 ≤ R.locals) (hRc : cells ≤ R.cells) (hRs : slots ≤ R.slots) (hl : lsR.size = nL) (hK : va_K D cl tys s) (hP : va_P D cl (xm_w tys r A) H)
    (kk : W p l e R s m args below meth c H locs cells slots Q (F0 m (pc + 3) lsR ((v.map (xm_v r)).toList ++ rest.map (xm_v r)))) : W p l e R s m args below meth c H locs cells slots Q (F0 m pc lsR (st.map (xm_v r))) := by
  obtain ⟨x, rfl⟩ := hvi
  have hts := S.2.2.2.2
  have hgw : ∀ w ∈ xm_ws gd my mb mL mr k, Cond.code (my k) (mb k) (mL k) (mr k) ∈ gd → w ∈ gd := fun w hw hc => (List.mem_cons.mp hw).elim (fun e => e ▸ hc) (fun h => h)
  simp only [xm_ca] at h
  obtain ⟨rfl, h0⟩ := xm_if h
  split at h0
  · rename_i k' b na hcr
    split at h0
    · rename_i ob As' rest' hsv
      split at h0
      · rename_i cj fs hob
        obtain ⟨rfl, h1⟩ := xm_if h0
        simp only [Option.some.injEq, Prod.mk.injEq] at h1
        obtain ⟨rfl, rfl, rfl⟩ := h1
        obtain ⟨hst, hlen, hcat⟩ := xm_sv_s hsv
        obtain ⟨hcode, hmL, hMH, hna, hini, hl0, hl1, hk0, -, -⟩ := hCR x _ _ _ _ hcr
        obtain ⟨hinst, hsel, q, hq, hq1⟩ := hk0 rfl
        have hws : ∀ w ∈ xm_ws gd my mb mL mr k', ∀ (a' : Array Value) (U : State), s.WarmedH U.vm → w.before a' U = true := fun w hw a' U hW => word_at hW (good_of_word (hgood w (hgw w hw hcode))) (hts w (hgd w (hgw w hw hcode)))
        have hcw : (Cond.code (my k') (mb k') (mL k') (mr k')).before args s = true := hts _ (hgd _ hcode)
        have hsig : ∀ sig, parseMethodDescriptor (my k').desc = some sig → na = sig.parameters.length := fun sig h2 => by rw [h2] at hna; exact (Option.some.inj hna).symm
        have hstk : (F0 m pc lsR (st.map (xm_v r))).stack = (As'.map (xm_v r)).reverse ++ .ref (r ob) :: rest'.map (xm_v r) := by
          show st.map (xm_v r) = _
          rw [hst, List.map_append, List.map_reverse, List.map_cons]
          rfl
        have hrecv := va_recv hK hP hq (xm_w_get hob)
        rw [hq1] at hrecv
        have hRl' : 8 + (mL k' + 11) + (64 * d + 2000) ≤ R.locals := xm_loc hmL hRl
        have hct : 2 * (F0 m pc lsR (st.map (xm_v r))).monitorRoom + ((rest'.map (xm_v r)).map fun v => v.category).sum ≤ 8 := lv_room (Nat.le_trans (Nat.le_of_eq (xm_cat_m r rest')) hcat)
        cases b with
        | false => exact st_back (va_runV (As := As'.map (xm_v r)) (rest := rest'.map (xm_v r)) S hM ⟨⟨rfl, rfl, hRf, hRl', hws, List.mem_cons_self, hcw, hini, hMH, hsig, hl0 rfl⟩, hinst, hsel⟩ ⟨hblind, hrecv, hpre⟩ rfl (by rw [List.length_map]; exact hlen) hl hstk hct hdg ⟨hRc, hRs⟩) kk
        | true =>
          obtain ⟨host, hlk⟩ := hl1 rfl
          exact st_back (va_runVN (As := As'.map (xm_v r)) (rest := rest'.map (xm_v r)) S hM ⟨⟨⟨rfl, rfl, hRf, hRl', hws, List.mem_cons_self⟩, hcw, hini, hMH, hsig, hlk⟩, hinst, hsel⟩ ⟨hblind, hrecv, hpre⟩ rfl (by rw [List.length_map]; exact hlen) hl hstk hct hdg ⟨hRc, hRs⟩) kk
      · cases h0
    · cases h0
  · cases h0
end XRB
section XRC
variable (call : Nat → xm_H → List Value → Option (Option Value ⊕ Nat)) (th : Nat → Option Nat) (tt : List FieldType) (fr : Nat → Option (Nat × Nat × Bool)) (oc : Nat → Nat) (cr : Nat → Option (Nat × Nat × Bool × Nat)) (cc : ByteArray) (nL : Nat) (ret : Option FieldType) (A : xm_H)
def xm_rr : Nat → Nat → xm_L → List Value → Option (Option Value ⊕ Nat)
  | 0, _, _, _ => none
  | f + 1, pc, ls, st => match decode cc pc with
    | .error _ => none
    | .ok (i, n) => match xm_pu nL i n ls st with
      | some q => xm_rr f (pc + n) q.1 q.2
      | none => match xm_br i n pc st with
        | some q => if q.1 = true then xm_rr f q.2.1 ls q.2.2 else xm_rr f (pc + n) ls q.2.2
        | none => match xm_hr tt fr i n st A with
          | some q => xm_rr f (pc + n) ls q
          | none => match xm_re ret i n st with
            | some v => some (.inl v)
            | none => (match i with
              | .invokevirtual _ => (match xm_ca oc cr i n st A with
                | some q => (match call q.1 A q.2.1 with
                  | some (.inl v) => xm_rr f (pc + 3) ls (v.toList ++ q.2.2)
                  | _ => none)
                | none => none)
              | _ => (match th pc with
                | some x => if xm_cat st ≤ 8 then some (.inr x) else none
                | none => none))
end XRC
section XRD
variable {p : Program} {l : Launch} {e : Env} {R : Room} {s : State} {m : MethodId} {args : Array Value} {below : List Frame} {meth : Method} {c : Code} {Q : State → Prop}
variable {cc : ByteArray} {nL d : Nat} {Ts gd : List Cond} {own : String} {D : va_G} {tys : xm_T} {my : Nat → MethodName} {mb : Nat → ByteArray} {mL : Nat → Nat} {mr : Nat → Option FieldType}
variable {call : Nat → xm_H → List Value → Option (Option Value ⊕ Nat)} {th : Nat → Option Nat} {cl : List vw_C} {tt : List FieldType} {fr : Nat → Option (Nat × Nat × Bool)} {oc : Nat → Nat} {cr : Nat → Option (Nat × Nat × Bool × Nat)} {ret : Option FieldType} {A : xm_H} {r : Nat → Nat} {o : Option Value ⊕ Nat}
set_option maxHeartbeats 8000000 in
theorem xm_rr_ok {Pk : List Value → Array Value → State → Prop} (S : CallFix p m c cc nL s args Ts own) (hFR : xm_FR cl Ts own args s fr) (hTT : xm_TT tt tys) (hCR : xm_CR own args s gd my mb mL mr cl oc cr) (hgd : ∀ w ∈ gd, w ∈ Ts) (hgood : ∀ w ∈ gd, goodWord w = true)
    (hcall : ∀ k As v, call k A As = some (.inl v) → Met l (my k) (xm_ws gd my mb mL mr k) (xm_rm d 0 0) (Pk As) (st_Q (v.map (xm_v r))) 0 0 (fun _ => False)) (hblind : ∀ As, FrameBlind (Pk As)) (hpre : ∀ (As : List Value) (U : State), U.heap = s.heap → s.WarmedH U.vm → Pk As (As.map (xm_v r)).toArray U)
    (hRf : d + 21 ≤ R.frames) (hRl : 64 * d + 2064 ≤ R.locals) (hK : va_K D cl tys s) (hP : va_P D cl (xm_w tys r A) s.heap)
    (hret : ∀ v, o = .inl v → ∀ (i : Jvm.ClassFile.Instr) (n pc : Nat) (st : List Value) (lsR : Array Slot), decode cc pc = .ok (i, n) → xm_re ret i n st = some v → W p l e R s m args below meth c s.heap [] 0 0 Q (F0 m pc lsR (st.map (xm_v r))))
    (hthr : ∀ x, o = .inr x → ∀ (pc : Nat) (st : List Value) (lsR : Array Slot), th pc = some x → lsR.size = nL → xm_cat st ≤ 8 → W p l e R s m args below meth c s.heap [] 0 0 Q (F0 m pc lsR (st.map (xm_v r)))) :
    ∀ (f pc : Nat) (ls : xm_L) (st : List Value) (lsR : Array Slot), xm_rr call th tt fr oc cr cc nL ret A f pc ls st = some o → lv_has lsR nL (xm_lm r ls) → W p l e R s m args below meth c s.heap [] 0 0 Q (F0 m pc lsR (st.map (xm_v r))) := by
  have hx := S.1
  have hb := S.2.1
  have hown := S.2.2.2.1
  have hts := S.2.2.2.2
  intro f
  induction f with
  | zero => intro pc ls st lsR h; cases h
  | succ f ih =>
    intro pc ls st lsR h hl
    rw [xm_rr] at h
    split at h
    · cases h
    · rename_i i n hdg
      split at h
      · rename_i q hq
        exact xm_pu_ok hx hb hq hdg hl (fun lsR' hl' => ih _ _ _ lsR' h hl')
      · split at h
        · rename_i q hq
          obtain ⟨b, t, st'⟩ := q
          refine xm_br_ok hx hb hq hdg (fun hbt => ?_) (fun hbf => ?_)
          · rw [if_pos hbt] at h
            exact ih _ _ _ lsR h hl
          · rw [if_neg (by rw [hbf]; exact Bool.false_ne_true)] at h
            exact ih _ _ _ lsR h hl
        · split at h
          · rename_i q hq
            exact xm_hr_ok hx hb hq hdg hts hown hFR hTT hK hP (ih _ _ _ lsR h hl)
          · split at h
            · rename_i v hv
              simp only [Option.some.injEq] at h
              exact hret v h.symm i n pc st lsR hdg hv
            · split at h
              · split at h
                · rename_i q hq
                  obtain ⟨k, As, rest⟩ := q
                  split at h
                  · rename_i v hc
                    refine xm_cr_ok S hq ⟨_, rfl⟩ hdg hCR hgd hgood (hcall _ _ _ hc) (hblind _) (hpre _) hRf hRl (Nat.zero_le _) (Nat.zero_le _) hl.1 hK hP ?_
                    have ev : (v.map (xm_v r)).toList ++ rest.map (xm_v r) = (v.toList ++ rest).map (xm_v r) := by
                      rw [List.map_append]
                      cases v <;> rfl
                    rw [ev]
                    exact ih _ _ _ lsR h hl
                  · cases h
                · cases h
              · split at h
                · rename_i x hth
                  obtain ⟨hcat, h⟩ := xm_if h
                  simp only [Option.some.injEq] at h
                  exact hthr x h.symm pc st lsR hth hl.1 hcat
                · cases h
end XRD
