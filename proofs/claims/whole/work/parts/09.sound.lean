/-! What the abstract machine runs, the machine does. -/
section XM6
variable {p : Program} {l : Launch} {e : Env} {R : Room} {s : State} {m : MethodId} {args : Array Value} {below : List Frame} {meth : Method} {c : Code} {H H0 : Heap} {locs : List Loc} {cells slots : Nat} {Q : State → Prop}
variable {cc : ByteArray} {pc n : Nat} {lsR : Array Slot} {r : Nat → Nat} {st : List Value}
set_option maxHeartbeats 4000000 in
/-- a return: the answer, under the addresses at the end -/
theorem xm_re_ok {i : Jvm.ClassFile.Instr} {ret : Option FieldType} {v : Option Value} {Qc : Array Value → State → Outcome → State → Prop} {Ad : Nat → Prop} (hx : p.tables.exec = Jvm.exec) (hb : c.code = cc) (h : xm_re ret i n st = some v) (hdg : decode cc pc = .ok (i, n)) (hr : meth.sig.returnType = ret) (hlocks : meth.locks = false)
    (hq : ∀ t : State, t.heap = H → s.WarmedH t.vm → Qc args s (.returned (v.map (xm_v r))) t) (hf : ∀ q ∈ locs, Ad q.base) : W p l e R s m args below meth c H locs cells slots (MQ below Qc args s cells slots Ad) (F0 m pc lsR (st.map (xm_v r))) := by
  cases i
  case return_ =>
    obtain ⟨rfl, h0⟩ := xm_if h
    split at h0
    · cases h0
      exact W.vret hx hb hr hq hf hdg
    · cases h0
  case ireturn =>
    obtain ⟨rfl, h0⟩ := xm_if h
    split at h0
    · obtain ⟨h1, h2⟩ := xm_if h0
      cases h2
      exact W.zret hx hb hr h1 hq hf hdg
    · cases h0
  case lreturn =>
    obtain ⟨rfl, h0⟩ := xm_if h
    split at h0
    · cases h0
      exact W.lret hx hb hr hq hf hdg
    · cases h0
  case areturn =>
    obtain ⟨rfl, h0⟩ := xm_if h
    split at h0
    · cases h0
      exact W.aret hx hb hr (Or.inl ⟨_, rfl⟩) (Or.inr ⟨_, rfl⟩) hq hf hdg
    · cases h0
      exact W.aret hx hb hr (Or.inl ⟨_, rfl⟩) (Or.inl rfl) hq hf hdg
    · cases h0
  all_goals exact absurd h (by simp [xm_re])
end XM6
/-- the cells that a method may change: its world's, and new ones -/
def xm_ad (r : Nat → Nat) (n0 sz : Nat) : Nat → Prop := fun q => (∃ i, i < n0 ∧ q = r i) ∨ sz ≤ q
theorem xm_w_in {tys : xm_T} {r : Nat → Nat} {A : xm_H} {k : Nat} {q : Nat × va_E} (h : (xm_w tys r A)[k]? = some q) : k < A.length ∧ q.1 = r k := by
  simp only [xm_w, List.getElem?_mapIdx] at h
  cases hj : A[k]? with
  | none => rw [hj] at h; cases h
  | some e => rw [hj] at h; cases h; exact ⟨(List.getElem?_eq_some_iff.mp hj).1, rfl⟩
theorem xm_ad_D {tys : xm_T} {r : Nat → Nat} {A : xm_H} {B : Nat → Prop} (sz : Nat) (h : va_D B (xm_w tys r A)) : va_D (xm_ad r A.length sz) (xm_w tys r A) := h.weaken (fun k q hk _ => Or.inl ⟨k, (xm_w_in hk).1, (xm_w_in hk).2⟩)
theorem xm_ad_sub {tys : xm_T} {r : Nat → Nat} {A : xm_H} {B : Nat → Prop} {sz : Nat} (h : va_D B (xm_w tys r A)) (hB : ∀ q, sz ≤ q → B q) : ∀ q, xm_ad r A.length sz q → B q := by
  intro q hq
  rcases hq with ⟨i, hi, rfl⟩ | hq
  · exact h.2 i _ (xm_w_get (List.getElem?_eq_getElem hi))
  · exact hB q hq
theorem xm_SN {A B : Nat → Prop} {H0 H : Heap} {locs : List Loc} (hAB : ∀ q, A q → B q) (h : va_S A H0 H locs) : va_S B H0 H locs := ⟨h.1, fun q h1 h2 => h.2.1 q h1 (fun z => h2 (hAB q z)), fun q hq => hAB _ (h.2.2 q hq)⟩
/-- a contract's start: the abstract heap A stands under the addresses r, all from N0 on, and the heap is of size sz; G: what holds of the tables and of the constants all along -/
def xm_Pc (D : va_G) (cl : List vw_C) (tys : xm_T) (N0 : Nat) (G : State → Prop) (r : Nat → Nat) (A : xm_H) (sz : Nat) (As : List Value) : Array Value → State → Prop :=
  va_Pc (As.map (xm_v r)) (fun U => (N0 ≤ sz ∧ U.heap.size = sz) ∧ va_P D cl (xm_w tys r A) U.heap ∧ va_K D cl tys U ∧ va_D (fun q => N0 ≤ q) (xm_w tys r A) ∧ G U)
/-- its end: the heap A', under addresses that go on from r; nothing below N0 has changed -/
def xm_Q (D : va_G) (cl : List vw_C) (tys : xm_T) (r : Nat → Nat) (n0 sz : Nat) (A' : xm_H) (v : Option Value) : Array Value → State → Outcome → State → Prop := fun _ st oc t =>
  (∃ r' : Nat → Nat, xm_ag n0 r r' ∧ (A'.length = n0 → r' = r) ∧ oc = .returned (v.map (xm_v r')) ∧ va_P D cl (xm_w tys r' A') t.heap ∧ va_D (xm_ad r n0 sz) (xm_w tys r' A')) ∧ va_F (xm_ad r n0 sz) st t
theorem xm_Pc_blind {D : va_G} {cl : List vw_C} {tys : xm_T} {N0 : Nat} {G : State → Prop} {r : Nat → Nat} {A : xm_H} {sz : Nat} {As : List Value} (hG : ∀ (U : State) (g : JFrame) (mk : MethodId) (a : Array Value), G U → G (U.calling g mk a)) : FrameBlind (xm_Pc D cl tys N0 G r A sz As) := by
  intro a U g mk h
  obtain ⟨h0, h1, h2, h3, h4, h5⟩ := h
  exact ⟨h0, h1, h2, va_K.moved (u := U) (U := U.calling g mk a) (Vm.Alike.refl U.vm) h3, h4, hG U g mk a h5⟩
section XM7
variable {p : Program} {l : Launch} {e : Env} {R : Room} {s : State} {m : MethodId} {args : Array Value} {below : List Frame} {meth : Method} {c : Code} {H H0 : Heap} {locs : List Loc} {cells slots : Nat} {Q : State → Prop}
variable {cc : ByteArray} {pc : Nat} {lsR : Array Slot} {st0 rest : List Value} {a : Array Value} {D : va_G} {cl : List vw_C} {tys : xm_T} {n0 sz mc ms : Nat} {r : Nat → Nat} {A' : xm_H} {v : Option Value} {Ad : Nat → Prop}
/-- behind a call -/
theorem xm_back (hr : va_Run p l e R s m args below meth c H locs cells slots mc ms (F0 m pc lsR st0) rest (xm_Q D cl tys r n0 sz A' v a) (xm_ad r n0 sz)) (hsub : ∀ q, xm_ad r n0 sz q → Ad q) (hS : va_S Ad H0 H locs)
    (kk : ∀ (r' : Nat → Nat) (H1 : Heap) (locs1 : List Loc), xm_ag n0 r r' → (A'.length = n0 → r' = r) → va_P D cl (xm_w tys r' A') H1 → va_D Ad (xm_w tys r' A') → va_S Ad H0 H1 locs1 → W p l e R s m args below meth c H1 locs1 (cells + mc) (slots + ms) Q (F0 m (pc + 3) lsR ((v.map (xm_v r')).toList ++ rest))) : W p l e R s m args below meth c H locs cells slots Q (F0 m pc lsR st0) := by
  intro T hT X
  obtain ⟨v', st₀, t, T', L, h0, X', hL, e1, e2, ⟨⟨r', ha, hb, hv, hp, hd⟩, hz, hk⟩, st⟩ := hr T hT X
  cases hv
  rw [h0] at hz hk
  obtain ⟨t2, a1, b1⟩ := kk r' T'.heap (locs ++ L) ha hb (by rw [e1]; exact hp) (hd.weaken (fun _ _ _ z => hsub _ z))
    ⟨Nat.le_trans hS.1 (by rw [e1]; exact hz), fun q h1 h2 => by rw [e1, hk q (Nat.lt_of_lt_of_le h1 hS.1) (fun z => h2 (hsub q z))]; exact hS.2.1 q h1 h2, fun q hq => by
      rcases List.mem_append.mp hq with h | h
      · exact hS.2.2 q h
      · exact hsub _ (hL q h)⟩ T' rfl X'
  exact ⟨t2, st t2 a1, b1⟩
end XM7
/-- the methods that the pool of 'own' names: links and words that the tables have -/
def xm_CR (own : String) (args : Array Value) (s : State) (gd : List Cond) (my : Nat → MethodName) (mb : Nat → ByteArray) (mL : Nat → Nat) (mr : Nat → Option FieldType) (cl : List vw_C) (oc : Nat → Nat) (cr : Nat → Option (Nat × Nat × Bool × Nat)) : Prop :=
  ∀ x kd k b na, cr x = some (kd, k, b, na) → Cond.code (my k) (mb k) (mL k) (mr k) ∈ gd ∧ mL k ≤ 40 ∧ ((my k).cls ≠ "java/lang/invoke/MethodHandle" ∧ (my k).cls ≠ "java/lang/invoke/VarHandle") ∧ (parseMethodDescriptor (my k).desc).map (fun d => d.parameters.length) = some na ∧ (Cond.initialized (my k).cls).before args s = true
    ∧ (b = false → (Cond.methodLink own x (my k)).before args s = true) ∧ (b = true → ∃ host, (Cond.methodLinkNest own x (my k) host).before args s = true)
    ∧ (kd = 0 → (Cond.instanceMethod (my k)).before args s = true ∧ (Cond.selects (my k).cls (my k) (my k)).before args s = true ∧ ∃ q, cl[oc k]? = some q ∧ q.1 = (my k).cls)
    ∧ (kd = 1 → (Cond.static (my k)).before args s = true)
    ∧ (kd = 2 → (my k).name = "<init>" ∧ (Cond.instanceMethod (my k)).before args s = true ∧ mr k = none)
def xm_ws (gd : List Cond) (my : Nat → MethodName) (mb : Nat → ByteArray) (mL : Nat → Nat) (mr : Nat → Option FieldType) (k : Nat) : List Cond := Cond.code (my k) (mb k) (mL k) (mr k) :: gd
set_option maxRecDepth 100000 in
theorem xm_loc {a d L : Nat} (h1 : a ≤ 40) (h2 : 64 * d + 2064 ≤ L) : 8 + (a + 11) + (64 * d + 2000) ≤ L := by omega
/-- the room of a method below which d calls may stand -/
def xm_rm (d c1 s1 : Nat) : Room := { frames := d + 20, cells := c1, slots := s1, locals := 64 * d + 2000 }
section XM8
variable {p : Program} {l : Launch} {e : Env} {R : Room} {s : State} {m : MethodId} {args : Array Value} {below : List Frame} {meth : Method} {c : Code} {H H0 : Heap} {locs : List Loc} {cells slots : Nat} {Q : State → Prop}
variable {cc : ByteArray} {pc n nL d : Nat} {lsR : Array Slot} {r : Nat → Nat} {st rest As : List Value} {A A' : xm_H} {v : Option Value} {k c1 s1 : Nat}
variable {cl : List vw_C} {Ts gd : List Cond} {own : String} {D : va_G} {tys : xm_T} {N0 : Nat} {Ad : Nat → Prop} {G : State → Prop} {my : Nat → MethodName} {mb : Nat → ByteArray} {mL : Nat → Nat} {mr : Nat → Option FieldType} {oc : Nat → Nat} {cr : Nat → Option (Nat × Nat × Bool × Nat)}
set_option maxHeartbeats 4000000 in
theorem xm_ca_ok {i : Jvm.ClassFile.Instr} (S : CallFix p m c cc nL s args Ts own) (h : xm_ca oc cr i n st A = some (k, As, rest)) (hdg : decode cc pc = .ok (i, n)) (hCR : xm_CR own args s gd my mb mL mr cl oc cr) (hgd : ∀ w ∈ gd, w ∈ Ts) (hgood : ∀ w ∈ gd, goodWord w = true)
    (hG1 : ∀ (U : State) (g : JFrame) (mk : MethodId) (a : Array Value), G U → G (U.calling g mk a)) (hG2 : ∀ (H1 : Heap) (locs1 : List Loc) (U : State), va_S Ad s.heap H1 locs1 → U.heap = H1 → s.WarmedH U.vm → G U)
    (hM : Met l (my k) (xm_ws gd my mb mL mr k) (xm_rm d c1 s1) (xm_Pc D cl tys N0 G r A H.size As) (xm_Q D cl tys r A.length H.size A' v) c1 s1 (xm_ad r A.length H.size))
    (hRf : d + 21 ≤ R.frames) (hRl : 64 * d + 2064 ≤ R.locals) (hRc : cells + c1 ≤ R.cells) (hRs : slots + s1 ≤ R.slots) (hl : lsR.size = nL) (hN0 : N0 ≤ s.heap.size) (hAd : ∀ q, s.heap.size ≤ q → Ad q) (hAdN : ∀ q, Ad q → N0 ≤ q)
    (hK : va_K D cl tys s) (hP : va_P D cl (xm_w tys r A) H) (hD : va_D Ad (xm_w tys r A)) (hS : va_S Ad s.heap H locs)
    (kk : ∀ (r' : Nat → Nat) (H1 : Heap) (locs1 : List Loc), xm_ag A.length r r' → (A'.length = A.length → r' = r) → va_P D cl (xm_w tys r' A') H1 → va_D Ad (xm_w tys r' A') → va_S Ad s.heap H1 locs1 → W p l e R s m args below meth c H1 locs1 (cells + c1) (slots + s1) Q (F0 m (pc + 3) lsR ((v.map (xm_v r')).toList ++ rest.map (xm_v r)))) : W p l e R s m args below meth c H locs cells slots Q (F0 m pc lsR (st.map (xm_v r))) := by
  have hts := S.2.2.2.2
  have hblind : FrameBlind (xm_Pc D cl tys N0 G r A H.size As) := xm_Pc_blind hG1
  have hpre : ∀ U : State, U.heap = H → s.WarmedH U.vm → xm_Pc D cl tys N0 G r A H.size As (As.map (xm_v r)).toArray U := fun U hU hW => ⟨rfl, ⟨Nat.le_trans hN0 hS.1, by rw [hU]⟩, by rw [hU]; exact hP, va_K.moved hW.alike hK, hD.weaken (fun _ _ _ z => hAdN _ z), hG2 H locs U hS hU hW⟩
  have hsub : ∀ q, xm_ad r A.length H.size q → Ad q := xm_ad_sub hD (fun q hq => hAd q (Nat.le_trans hS.1 hq))
  have hgw : ∀ w ∈ xm_ws gd my mb mL mr k, Cond.code (my k) (mb k) (mL k) (mr k) ∈ gd → w ∈ gd := fun w hw hc => (List.mem_cons.mp hw).elim (fun e => e ▸ hc) (fun h => h)
  have hcats : ∀ {t : List Value}, (t.map (fun v => v.category)).sum ≤ 8 → 2 * (F0 m pc lsR (st.map (xm_v r))).monitorRoom + ((t.map (xm_v r)).map fun v => v.category).sum ≤ 8 := by
    intro t ht
    refine lv_room ?_
    rw [List.map_map]
    simpa only [Function.comp_def, xm_v_cat] using ht
  cases i
  case invokevirtual x =>
    simp only [xm_ca] at h
    obtain ⟨rfl, h0⟩ := xm_if h
    split at h0
    · rename_i k' b na hcr
      split at h0
      · rename_i ob As' rest' hsv
        split at h0
        · rename_i cj fs hob
          obtain ⟨rfl, h1⟩ := xm_if h0
          simp only [Option.some.injEq, Prod.mk.injEq] at h1
          obtain ⟨rfl, rfl, rfl⟩ := h1
          obtain ⟨hst, hlen, hcat⟩ := xm_sv_s hsv
          obtain ⟨hcode, hmL, hMH, hna, hini, hl0, hl1, hk0, -, -⟩ := hCR x _ _ _ _ hcr
          obtain ⟨hinst, hsel, q, hq, hq1⟩ := hk0 rfl
          have hws : ∀ w ∈ xm_ws gd my mb mL mr k', ∀ (a' : Array Value) (U : State), s.WarmedH U.vm → w.before a' U = true := fun w hw a' U hW => word_at hW (good_of_word (hgood w (hgw w hw hcode))) (hts w (hgd w (hgw w hw hcode)))
          have hcw : (Cond.code (my k') (mb k') (mL k') (mr k')).before args s = true := hts _ (hgd _ hcode)
          have hsig : ∀ sig, parseMethodDescriptor (my k').desc = some sig → na = sig.parameters.length := fun sig h2 => by rw [h2] at hna; exact (Option.some.inj hna).symm
          have hstk : (F0 m pc lsR (st.map (xm_v r))).stack = (As'.map (xm_v r)).reverse ++ .ref (r ob) :: rest'.map (xm_v r) := by
            show st.map (xm_v r) = _
            rw [hst, List.map_append, List.map_reverse, List.map_cons]
            rfl
          have hrecv := va_recv hK hP hq (xm_w_get hob)
          rw [hq1] at hrecv
          have hRl' : 8 + (mL k' + 11) + (64 * d + 2000) ≤ R.locals := xm_loc hmL hRl
          cases b with
          | false => exact xm_back (va_runV (As := As'.map (xm_v r)) (rest := rest'.map (xm_v r)) S hM ⟨⟨rfl, rfl, hRf, hRl', hws, List.mem_cons_self, hcw, hini, hMH, hsig, hl0 rfl⟩, hinst, hsel⟩ ⟨hblind, hrecv, hpre⟩ rfl (by rw [List.length_map]; exact hlen) hl hstk (hcats hcat) hdg ⟨hRc, hRs⟩) hsub hS kk
          | true =>
            obtain ⟨host, hlk⟩ := hl1 rfl
            exact xm_back (va_runVN (As := As'.map (xm_v r)) (rest := rest'.map (xm_v r)) S hM ⟨⟨⟨rfl, rfl, hRf, hRl', hws, List.mem_cons_self⟩, hcw, hini, hMH, hsig, hlk⟩, hinst, hsel⟩ ⟨hblind, hrecv, hpre⟩ rfl (by rw [List.length_map]; exact hlen) hl hstk (hcats hcat) hdg ⟨hRc, hRs⟩) hsub hS kk
        · cases h0
      · cases h0
    · cases h0
  case invokestatic x =>
    simp only [xm_ca] at h
    obtain ⟨rfl, h0⟩ := xm_if h
    split at h0
    · rename_i k' b na hcr
      split at h0
      · rename_i As' rest' hss
        simp only [Option.some.injEq, Prod.mk.injEq] at h0
        obtain ⟨rfl, rfl, rfl⟩ := h0
        obtain ⟨hst, hlen, hcat⟩ := xm_ss_s hss
        obtain ⟨hcode, hmL, hMH, hna, hini, hl0, hl1, -, hk1, -⟩ := hCR x _ _ _ _ hcr
        have hstat := hk1 rfl
        have hws : ∀ w ∈ xm_ws gd my mb mL mr k', ∀ (a' : Array Value) (U : State), s.WarmedH U.vm → w.before a' U = true := fun w hw a' U hW => word_at hW (good_of_word (hgood w (hgw w hw hcode))) (hts w (hgd w (hgw w hw hcode)))
        have hcw : (Cond.code (my k') (mb k') (mL k') (mr k')).before args s = true := hts _ (hgd _ hcode)
        have hsig : ∀ sig, parseMethodDescriptor (my k').desc = some sig → na = sig.parameters.length := fun sig h2 => by rw [h2] at hna; exact (Option.some.inj hna).symm
        have hstk : (F0 m pc lsR (st.map (xm_v r))).stack = (As'.map (xm_v r)).reverse ++ rest'.map (xm_v r) := by
          show st.map (xm_v r) = _
          rw [hst, List.map_append, List.map_reverse]
        have hRl' : 8 + (mL k' + 11) + (64 * d + 2000) ≤ R.locals := xm_loc hmL hRl
        cases b with
        | false => exact xm_back (va_runS (As := As'.map (xm_v r)) (rest := rest'.map (xm_v r)) S hM ⟨⟨rfl, rfl, hRf, hRl', hws, List.mem_cons_self, hcw, hini, hMH, hsig, hl0 rfl⟩, hstat⟩ ⟨hblind, hpre⟩ rfl (by rw [List.length_map]; exact hlen) hl hstk (hcats hcat) hdg ⟨hRc, hRs⟩) hsub hS kk
        | true =>
          obtain ⟨host, hlk⟩ := hl1 rfl
          exact xm_back (va_runSN (As := As'.map (xm_v r)) (rest := rest'.map (xm_v r)) S hM ⟨⟨⟨rfl, rfl, hRf, hRl', hws, List.mem_cons_self⟩, hcw, hini, hMH, hsig, hlk⟩, hstat, trivial⟩ ⟨hblind, hpre⟩ rfl (by rw [List.length_map]; exact hlen) hl hstk (hcats hcat) hdg ⟨hRc, hRs⟩) hsub hS kk
      · cases h0
    · cases h0
  case invokespecial x =>
    simp only [xm_ca] at h
    obtain ⟨rfl, h0⟩ := xm_if h
    split at h0
    · rename_i k' b na hcr
      split at h0
      · rename_i ob As' rest' hsv
        simp only [Option.some.injEq, Prod.mk.injEq] at h0
        obtain ⟨rfl, rfl, rfl⟩ := h0
        obtain ⟨hst, hlen, hcat⟩ := xm_sv_s hsv
        obtain ⟨hcode, hmL, hMH, hna, hini, hl0, hl1, -, -, hk2⟩ := hCR x _ _ _ _ hcr
        obtain ⟨hnm, hinst, hret⟩ := hk2 rfl
        have hws : ∀ w ∈ xm_ws gd my mb mL mr k', ∀ (a' : Array Value) (U : State), s.WarmedH U.vm → w.before a' U = true := fun w hw a' U hW => word_at hW (good_of_word (hgood w (hgw w hw hcode))) (hts w (hgd w (hgw w hw hcode)))
        have hcw : (Cond.code (my k') (mb k') (mL k') none).before args s = true := hret ▸ hts _ (hgd _ hcode)
        have hcm : Cond.code (my k') (mb k') (mL k') none ∈ xm_ws gd my mb mL mr k' := by rw [← hret]; exact List.mem_cons_self
        have hsig : ∀ sig, parseMethodDescriptor (my k').desc = some sig → na = sig.parameters.length := fun sig h2 => by rw [h2] at hna; exact (Option.some.inj hna).symm
        have hstk : (F0 m pc lsR (st.map (xm_v r))).stack = (As'.map (xm_v r)).reverse ++ .ref (r ob) :: rest'.map (xm_v r) := by
          show st.map (xm_v r) = _
          rw [hst, List.map_append, List.map_reverse, List.map_cons]
          rfl
        have hRl' : 8 + (mL k' + 11) + (64 * d + 2000) ≤ R.locals := xm_loc hmL hRl
        cases b with
        | false => exact xm_back (va_runI (As := As'.map (xm_v r)) (rest := rest'.map (xm_v r)) S hM ⟨⟨rfl, rfl, hRf, hRl', hws, hcm, hcw, hini, hMH, hsig, hl0 rfl⟩, hnm, hinst⟩ ⟨hblind, hpre⟩ rfl (by rw [List.length_map]; exact hlen) hl hstk (hcats hcat) hdg ⟨hRc, hRs⟩) hsub hS kk
        | true =>
          obtain ⟨host, hlk⟩ := hl1 rfl
          exact xm_back (va_runIN (As := As'.map (xm_v r)) (rest := rest'.map (xm_v r)) S hM ⟨⟨⟨rfl, rfl, hRf, hRl', hws, hcm⟩, hcw, hini, hMH, hsig, hlk⟩, hnm, hinst⟩ ⟨hblind, hpre⟩ rfl (by rw [List.length_map]; exact hlen) hl hstk (hcats hcat) hdg ⟨hRc, hRs⟩) hsub hS kk
      · cases h0
    · cases h0
  all_goals exact absurd h (by simp [xm_ca])
end XM8
