/-! Catching in the law's helpers: the first fitting row of a method's table, whose class entry may be resolved or not yet. -/
section CTA
variable {e : Env} {S : State} {f : JFrame} {a : Addr}
/-- the search ends at pc, and leaves the tables v -/
def ct_F (e : Env) (S : State) (f : JFrame) (a : Addr) (pc : Nat) (v : Vm) : Prop := ∀ (Q : Handler → Pre) (E : CtlPost) (d : Bool) (acts : List Action), wp (findHandler f a) Q E e d acts S ↔ Q (.found pc) d acts (S.setVm v)
/-- one row that covers the place -/
theorem ct_row {Q : Handler → Pre} {E : CtlPost} {d : Bool} {acts : List Action} {x : ExceptionTableEntry} {t : List ExceptionTableEntry} {c : ClassId} {cell : Cell} (hx : covers x f.pc = true) (h0 : x.catchType ≠ 0) (hl : S.vm.ClassLinks e.platform f.method.cls x.catchType c)
    (hcell : S.heap[a]? = some cell) (hobj : cell.vm = .none) (hk : ∃ k, S.vm.classes[cell.cls]? = some k) :
    wp (findHandler.go f a (x :: t)) Q E e d acts S ↔ (if S.vm.assignable cell.cls c = true then Q (.found x.handlerPc) d acts (S.setVm (S.vm.noted f.method.cls x.catchType (.cls c))) else wp (findHandler.go f a t) Q E e d acts (S.setVm (S.vm.noted f.method.cls x.catchType (.cls c)))) := by
  have hcv : (decide (x.startPc ≤ f.pc) && decide (f.pc < x.endPc)) = true := hx
  obtain ⟨g1, g2⟩ := (resolveClass_links e.toSetting hl).op (op := VmOp.resolveClass f.method.cls x.catchType) rfl
  obtain ⟨dk, cf, nm, ck, -, -, -, -, -, hck, -, -⟩ := hl.here
  have hal : S.vm.Alike (S.vm.noted f.method.cls x.catchType (.cls c)) := (Vm.Alike.refl S.vm).noted _ _ _
  obtain ⟨q1, hq1⟩ := hk
  obtain ⟨z1, hz1, -⟩ := hal.2.2 _ _ hq1
  obtain ⟨z2, hz2, -⟩ := hal.2.2 _ _ hck
  have hno : ∀ k, cell.vm ≠ .statics k := fun k hk => by rw [hobj] at hk; cases hk
  have has := hal.assignable cell.cls c
  cases hb : S.vm.assignable cell.cls c <;> rw [hb] at has <;> simp [findHandler.go, hcv, h0, g1, g2, hcell, hno, hz1, hz2, has, VmOp.dirties, VmOp.acts]
theorem ct_step {r : List Frame} {pc : Nat} {v : Vm} (h : ct_F e S f a pc v) : (stepThrowing e S a (.java f :: r)).1 = (S.setVm v).setFrames (.java { f with pc := pc, stack := [.ref a] } :: r) := by
  simp only [stepThrowing, searchFrame, vmDo]
  generalize hr : Sem.go _ e false [] S = res
  obtain ⟨as, rfl, ha⟩ := Sem.eq_ok_of hr (a := Handler.found pc) (s' := S.setVm v) (acts' := []) (by simp [h _ _ _ _])
  rfl
end CTA
/-- a row of a table as a word has it -/
def ct_q (x : ExceptionTableEntry) : Nat × Nat × Nat × Nat := (x.startPc, x.endPc, x.handlerPc, x.catchType)
section CTB
variable {p : Program} {l : Launch} {e : Env} {R : Room} {s : State} {m : MethodId} {args : Array Value} {below : List Frame} {meth : Method} {c : Code} {T : State} {locs : List Loc} {cells slots : Nat}
/-- the rows 'hh' of a table lead an exception of class number 'cx', thrown at pc, to the place 'h': rows of other classes come before -/
def ct_to (s : State) (pl : Platform) (d : ClassId) (cx : ClassId) (pc h : Nat) : List (Nat × Nat × Nat × Nat) → Prop
  | [] => False
  | (a, b, t, k) :: hh => a ≤ pc ∧ pc < b ∧ k ≠ 0 ∧ ∃ cc, s.vm.ClassLinks pl d k cc ∧ (s.vm.assignable cx cc = true ∧ h = t ∨ s.vm.assignable cx cc = false ∧ ct_to s pl d cx pc h hh)
theorem ct_go {f : JFrame} {a : Addr} {cell : Cell} {h : Nat} (hobj : cell.vm = .none) (hk : ∃ k, s.vm.classes[cell.cls]? = some k) : ∀ (tb : List ExceptionTableEntry) (S : State), s.WarmedH S.vm → S.heap[a]? = some cell → ct_to s e.platform f.method.cls cell.cls f.pc h (tb.map ct_q) →
    ∃ v, s.WarmedH v ∧ ∀ (Q : Handler → Pre) (E : CtlPost) (d : Bool) (acts : List Action), wp (findHandler.go f a tb) Q E e d acts S ↔ Q (.found h) d acts (S.setVm v)
  | [], S, _, _, ht => ht.elim
  | x :: tb, S, hW, hcell, ht => by
    obtain ⟨h1, h2, h3, cc, hl, hend⟩ := ht
    obtain ⟨dk, cf, nm, ck, hdk, -, -, -, -, hck, -, hopen⟩ := hl.here
    have hk' : ∃ k, S.vm.classes[cell.cls]? = some k := by
      obtain ⟨k, hk0⟩ := hk
      obtain ⟨z, hz, -⟩ := hW.alike.2.2 _ _ hk0
      exact ⟨z, hz⟩
    have hW' : s.WarmedH (S.vm.noted f.method.cls x.catchType (.cls cc)) := hW.noted hdk hopen (State.rightAt_cls hl)
    have hcv : covers x f.pc = true := by
      show (decide (x.startPc ≤ f.pc) && decide (f.pc < x.endPc)) = true
      rw [Bool.and_eq_true]
      exact ⟨decide_eq_true h1, decide_eq_true h2⟩
    rcases hend with ⟨ha, rfl⟩ | ⟨ha, ht'⟩
    · refine ⟨_, hW', fun Q E d acts => ?_⟩
      rw [ct_row hcv h3 (hW.classLinks hl) hcell hobj hk', if_pos (by rw [hW.alike.assignable]; exact ha)]
    · obtain ⟨v, hv, hq⟩ := ct_go hobj hk tb (S.setVm (S.vm.noted f.method.cls x.catchType (.cls cc))) hW' hcell ht'
      refine ⟨v, hv, fun Q E d acts => ?_⟩
      rw [ct_row hcv h3 (hW.classLinks hl) hcell hobj hk', if_neg (by rw [hW.alike.assignable, ha]; exact Bool.false_ne_true)]
      exact hq Q E d acts
/-- caught: the walk goes on at the handler -/
theorem ct_at (X : Stand p l e R s m args below meth c T locs cells slots) {g : JFrame} (hg : g.method = m) {a : Addr} {cell : Cell} {h : Nat} (hcell : T.heap[a]? = some cell) (hobj : cell.vm = .none) (hk : ∃ k, s.vm.classes[cell.cls]? = some k) (ht : ct_to s e.platform m.cls cell.cls g.pc h (c.exceptionTable.toList.map ct_q)) :
    ∃ v, Stand p l e R s m args below meth c (T.setVm v) locs cells slots ∧ ∀ target, Steps p.tables e below ((T.setVm v).setTop { g with pc := h, stack := [.ref a] }) target → Steps p.tables e below ((T.setTop g).pushFrame (.throwing a)) target := by
  subst hg
  obtain ⟨v, hv, hq⟩ := ct_go (e := e) (f := g) hobj hk c.exceptionTable.toList ((T.setTop g).pushFrame (.throwing a)) X.warmed hcell ht
  have hF : ct_F e ((T.setTop g).pushFrame (.throwing a)) g a h v := fun Q E d acts => by
    exact (W.findHandler_eq (s := (T.setTop g).pushFrame (.throwing a)) (meth := meth) (code := c) X.method' X.code).trans (hq Q E d acts)
  refine ⟨v, X.noted hv, fun target hrest => ?_⟩
  obtain ⟨hgo, hw⟩ := X.here.throwing (g := g) a
  refine Steps.head hgo hw ?_
  rw [stepThread_throwing (frames_entered X.here.top _), ct_step hF]
  obtain ⟨g₀, hg0⟩ := Option.isSome_iff_exists.mp X.here.top
  obtain ⟨r, hr⟩ := State.topJava?_eq_some.mp hg0
  have hr2 : (T.setVm v).frames = .java g₀ :: r := hr
  rw [State.setTop_of_frames _ hr2] at hrest
  have e1 : (((T.setTop g).pushFrame (.throwing a)).setVm v).setFrames (.java { g with pc := h, stack := [.ref a] } :: T.frames.tail) = (T.setVm v).setFrames (.java { g with pc := h, stack := [.ref a] } :: r) := by
    rw [hr, List.tail_cons, State.pushFrame, State.setTop_of_frames _ hr, State.setFrames_setFrames]
    show ((T.setVm v).setFrames _).setFrames _ = _
    rw [State.setFrames_setFrames]
  rw [e1]
  exact hrest
end CTB
theorem ct_heap {st t : State} {k n : Nat} (h : st.sameButNew t [] k n) : st.heap.size ≤ t.heap.size ∧ ∀ q, q < st.heap.size → t.heap[q]? = st.heap[q]? := by
  obtain ⟨-, h1, -, -, -, h2⟩ := h
  refine ⟨h1, fun q hq => ?_⟩
  have h3 : st.heap[q]? = some st.heap[q] := Array.getElem?_eq_getElem hq
  obtain ⟨c', g1, g2, g3, g4⟩ := h2 q _ h3
  rw [g1, h3, g2]
  have g5 : c'.slots = st.heap[q].slots := by
    refine Array.ext g3 (fun i hi hj => ?_)
    have := g4 i (by simp)
    rw [Array.getElem?_eq_getElem hi, Array.getElem?_eq_getElem hj] at this
    exact Option.some.inj this
  rw [g5]
section CTC
variable {p : Program} {l : Launch} {e : Env} {R : Room} {s : State} {m : MethodId} {args : Array Value} {below : List Frame} {meth : Method} {c : Code} {H : Heap} {locs : List Loc} {cells slots : Nat} {Q : State → Prop}
variable {cc : ByteArray} {pc nL d : Nat} {lsR : Array Slot} {r : Nat → Nat} {st rest As : List Value} {A : xm_H} {k x hpc : Nat}
variable {cl : List vw_C} {Ts gd : List Cond} {own : String} {D : va_G} {tys : xm_T} {my : Nat → MethodName} {mb : Nat → ByteArray} {mL : Nat → Nat} {mr : Nat → Option FieldType} {oc : Nat → Nat} {cr : Nat → Option (Nat × Nat × Bool × Nat)}
set_option maxHeartbeats 4000000 in
/-- a call that throws, and the throw is caught here -/
theorem ct_call {Pc : Array Value → State → Prop} {XC : String} {cx : ClassId} (S : CallFix p m c cc nL s args Ts own) (h : xm_ca oc cr (.invokevirtual x) 3 st A = some (k, As, rest)) (hb0 : ∀ kd k b na, cr x = some (kd, k, b, na) → b = false) (hdg : decode cc pc = .ok (.invokevirtual x, 3)) (hCR : xm_CR own args s gd my mb mL mr cl oc cr) (hgd : ∀ w ∈ gd, w ∈ Ts) (hgood : ∀ w ∈ gd, goodWord w = true)
    (hM : MetFree l (my k) (headSpec (xm_ws gd my mb mL mr k) (xm_rm d 1 6)) Pc (fun _ _ _ _ _ => True) (xm_QT XC)) (hblind : FrameBlind Pc) (hpre : ∀ U : State, U.heap = H → s.WarmedH U.vm → Pc (As.map (xm_v r)).toArray U)
    (hRf : d + 21 ≤ R.frames) (hRl : 64 * d + 2064 ≤ R.locals) (hRc : cells + 1 ≤ R.cells) (hRs : slots + 6 ≤ R.slots) (hl : lsR.size = nL) (hK : va_K D cl tys s) (hP : va_P D cl (xm_w tys r A) H)
    (hX : s.vm.findClass XC = some cx) (hkx : ∃ kx, s.vm.classes[cx]? = some kx) (ht : ct_to s e.platform m.cls cx pc hpc (c.exceptionTable.toList.map ct_q))
    (kk : ∀ (a : Nat) (H1 : Heap), H.size ≤ H1.size → (∀ q, q < H.size → H1[q]? = H[q]?) → W p l e R s m args below meth c H1 locs (cells + 1) (slots + 6) Q (F0 m hpc lsR [.ref a])) : W p l e R s m args below meth c H locs cells slots Q (F0 m pc lsR (st.map (xm_v r))) := by
  have hts := S.2.2.2.2
  have hgw : ∀ w ∈ xm_ws gd my mb mL mr k, Cond.code (my k) (mb k) (mL k) (mr k) ∈ gd → w ∈ gd := fun w hw hc => (List.mem_cons.mp hw).elim (fun e => e ▸ hc) (fun h => h)
  simp only [xm_ca] at h
  obtain ⟨-, h0⟩ := xm_if h
  split at h0
  · rename_i k' b na hcr
    split at h0
    · rename_i ob As' rest' hsv
      split at h0
      · rename_i cj fs hob
        obtain ⟨rfl, h1⟩ := xm_if h0
        simp only [Option.some.injEq, Prod.mk.injEq] at h1
        obtain ⟨rfl, rfl, rfl⟩ := h1
        obtain rfl := hb0 _ _ _ _ hcr
        obtain ⟨hst, hlen, hcat⟩ := xm_sv_s hsv
        obtain ⟨hcode, hmL, hMH, hna, hini, hl0, hl1, hk0, -, -⟩ := hCR x _ _ _ _ hcr
        obtain ⟨hinst, hsel, q, hq, hq1⟩ := hk0 rfl
        have hws : ∀ w ∈ xm_ws gd my mb mL mr k', ∀ (a' : Array Value) (U : State), s.WarmedH U.vm → w.before a' U = true := fun w hw a' U hW => word_at hW (good_of_word (hgood w (hgw w hw hcode))) (hts w (hgd w (hgw w hw hcode)))
        have hcw : (Cond.code (my k') (mb k') (mL k') (mr k')).before args s = true := hts _ (hgd _ hcode)
        have hsig : ∀ sig, parseMethodDescriptor (my k').desc = some sig → na = sig.parameters.length := fun sig h2 => by rw [h2] at hna; exact (Option.some.inj hna).symm
        have hstk : (F0 m pc lsR (st.map (xm_v r))).stack = (As'.map (xm_v r)).reverse ++ .ref (r ob) :: rest'.map (xm_v r) := by
          show st.map (xm_v r) = _
          rw [hst, List.map_append, List.map_reverse, List.map_cons]
          rfl
        have hrecv := va_recv hK hP hq (xm_w_get hob)
        rw [hq1] at hrecv
        obtain ⟨cellB, hcB, hoB, hclB⟩ := hrecv
        have hRl' : 8 + (mL k' + 11) + (64 * d + 2000) ≤ R.locals := xm_loc hmL hRl
        have hct : 2 * (F0 m pc lsR (rest'.map (xm_v r))).monitorRoom + ((rest'.map (xm_v r)).map fun v => v.category).sum ≤ 8 := lv_room (Nat.le_trans (Nat.le_of_eq (xm_cat_m r rest')) hcat)
        obtain ⟨hx, hb, hml, ho, -⟩ := S
        intro T hT X
        obtain ⟨mk, methM, hnamed, hmethM, hstM, habM⟩ := Cond.instanceMethod_spec hinst
        obtain ⟨methM', cM, hmethM', -, -, -, -, -, -, hsigM⟩ := Cond.code_spec hnamed hcw
        cases hmethM.symm.trans hmethM'
        obtain ⟨c2, r2, m2, q1, q2, q3, q4, kP, hkP, hkPi⟩ := Cond.selects_spec hsel
        cases hclB.symm.trans q1
        cases (State.methodFound?_of_named hnamed hMH).symm.trans q2
        cases hnamed.symm.trans q3
        have hselP : selectMethod e.platform s.vm cellB.cls mk = .method mk := by rw [Launch.admits_selectMethod X.admits]; exact q4
        obtain ⟨vm₁, X₁, hstep₁⟩ := X.invokevirtual hx ho (hl0 rfl) hnamed hmethM hstM hkP hkPi hMH (a := r ob) (cell := cellB) (by rw [hT]; exact hcB) (fun z h => by rw [h] at hoB; cases hoB) hselP hmethM habM hkP hkPi (g := F0 m pc lsR (st.map (xm_v r))) rfl (argsL := As'.map (xm_v r)) (rest := rest'.map (xm_v r)) (by rw [List.length_map, hlen]; exact hsig _ hsigM) hstk (by rw [hb]; exact hdg)
        have hn : (T.setVm vm₁).methodNamed? (my k') = some mk := X₁.named hnamed
        have hcwU : (Cond.code (my k') (mb k') (mL k') (mr k')).before args (T.setVm vm₁) = true := hws _ List.mem_cons_self _ _ X₁.warmed
        obtain ⟨methY, cY, hmY, hcY, -, hlY, -⟩ := Cond.code_spec hn hcwU
        obtain ⟨kY, hkY, -⟩ := className_of_methodNamed hn
        have hiniU : (Cond.initialized (my k').cls).before args (T.setVm vm₁) = true := word_at X₁.warmed (Or.inl (by first | rfl | simp [Cond.onTables, Cond.keeps, Cond.steady])) hini
        have hinitY : kY.init = .initialized := Cond.initialized_spec (findClass_of_methodNamed hn) hkY hiniU
        have hat : At (T.setVm vm₁) (F0 m pc lsR (rest'.map (xm_v r))).method c below := X₁.here
        have happ := Spec.appliesLoose_calling (S := headSpec (xm_ws gd my mb mL mr k') (xm_rm d 1 6)) (e := e) (g := F0 m pc lsR (rest'.map (xm_v r))) (args := (Value.ref (r ob) :: As'.map (xm_v r)).toArray) hat (by rw [hb]; exact hdg) hn hkY hinitY
          (X₁.room_calling (g := F0 m pc lsR (rest'.map (xm_v r))) (R' := xm_rm d 1 6) (hl.trans hml.symm) hmY hcY hRf (by rw [hlY]; exact Nat.le_trans (Nat.add_le_add_right (Nat.add_le_add_right hct _) _) hRl') hRc hRs) (atoms_intro fun w hw => hws w hw _ _ X₁.warmed)
        obtain ⟨mid, hmid⟩ := hat.above
        have hfr : ((T.setVm vm₁).setTop (F0 m pc lsR (rest'.map (xm_v r)))).frames = (.java (F0 m pc lsR (rest'.map (xm_v r))) :: mid) ++ below := by rw [State.frames_setTop' _ hat.top, hmid]; rfl
        obtain ⟨o, s₂, hsteps, -, hend, hq9⟩ := Steps.callFree hM p X.admits X.cas X.clock (acts := []) hfr happ (hblind _ (T.setVm vm₁) _ _ (hpre (T.setVm vm₁) hT X₁.warmed)) trivial
        obtain ⟨ad, ce, rfl, hWt, hsame, hce, hfc, hvn⟩ := hq9
        rw [State.frames_setTop' _ hat.top] at hend
        obtain ⟨g₀, hg0⟩ := X₁.frames_eq
        rw [hg0, List.tail_cons] at hend
        obtain ⟨T', X', hW', hsm, hs2⟩ := X₁.outOfThrown (g := F0 m pc lsR (rest'.map (xm_v r))) (mk := mk) (a := (Value.ref (r ob) :: As'.map (xm_v r)).toArray) rfl hend hWt hsame
        have hce' : T'.heap[ad]? = some ce := by
          have e1 : s₂.heap = T'.heap := by rw [hs2]; exact Stand.throwing_heap T' _ ad
          rw [← e1]; exact hce
        have hcx : s.vm.findClass XC = some ce.cls := by
          rw [← X₁.warmed.alike.findClass]; exact hfc
        cases hX.symm.trans hcx
        rw [List.append_nil] at X'
        obtain ⟨v9, X9, st9⟩ := ct_at X' (g := F0 m pc lsR (rest'.map (xm_v r))) rfl hce' hvn hkx ht
        obtain ⟨hz1, hz2⟩ := ct_heap hsm
        have hH : (T.setVm vm₁).heap = H := hT
        rw [hH] at hz1 hz2
        obtain ⟨t9, a9, b9⟩ := kk ad T'.heap hz1 hz2 (T'.setVm v9) rfl X9
        refine ⟨t9, hstep₁ _ fun acts => ?_, b9⟩
        rw [doInvoke_state]
        refine hsteps.trans ?_
        rw [hs2]
        exact st9 _ a9
      · cases h0
    · cases h0
  · cases h0
end CTC
