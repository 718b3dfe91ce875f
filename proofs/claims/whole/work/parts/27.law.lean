/-! THE CLAIM OUT OF ONE WALK OF THE LAW'S BODY. Your part is whole_start (and what it stands on); all else here is the same for every law, but numbers. -/
def R_law : String := "ConditionDeskLaw"
def lw_P (b : Addr) (xs : List Int32) (args : Array Value) (s : State) : Prop := args = #[.ref b] ∧ s.IntsAt b xs ∧ xs.length ≤ 1536 ∧ (Jvm.Cond.and given_1 narrow_1).before args s = true
def lw_Q (_ : Array Value) (s : State) (o : Outcome) (t : State) : Prop := o = .returned (some (.int 1)) ∧ Framed s o t [] 601024 7293034
def lw_Z (below : List Frame) (a : Array Value) (s : State) : State → Prop := fun t => ∃ o, t.status = .running ∧ Ended t below o ∧ lw_Q a s o t
/-- the law's own end, with 1 on the stack, nothing written that was there before, its room as the claim has it -/
theorem lw_ret {p : Program} {l : Launch} {e : Env} {s : State} {m : MethodId} {below : List Frame} {meth : Method} {c : Code} {b : Nat} (hx : p.tables.exec = Jvm.exec) (hb : c.code = code) (hr : meth.sig.returnType = ret) (hlocks : meth.locks = false) {pc : Nat} {H : Heap} {ls : Array Slot} (hdg : decode code pc = .ok (.ireturn, 1)) : W p l e room_1 s m #[Value.ref b] below meth c H [] 601024 7293034 (lw_Z below #[Value.ref b] s) (F0 m pc ls [.int 1]) := by
  intro T hT X
  obtain ⟨fs, hret, hrun, hended, hW, hframe⟩ := X.leave (v := some (.int 1)) (hlocks := hlocks) (fun h => by rw [hr] at h; cases h)
  have hmeth' : T.vm.method? m = some meth := X.method'
  refine ⟨T.setFrames fs, ?_, .returned (some (.int 1)), hrun, hended, rfl, ⟨_, rfl⟩, hW, hframe⟩
  jvm_step X.here [X.here.top, hx, hb, hdg, hmeth', hr, ret, narrow_b1]
  (try refine ⟨rfl, ?_⟩); (try refine ⟨rfl, ?_⟩)
  first | (intro acts; rw [hret _ acts rfl rfl rfl]) | rw [hret _ _ rfl rfl rfl]
  exact Steps.refl _
/-- what holds at the law's entry: the machine, the code, the tables' words (any of lw_tbl by 'hts w (by decide +kernel)'), the script of L ints xs at the cell b, what the Statement gives of the start (any of its parts by flat_of_before) -/
def lw_At (p : Program) (s : State) (m : MethodId) (meth : Method) (c : Code) (b L : Nat) (xs : Nat → Int32) : Prop :=
  p.tables.exec = Jvm.exec ∧ c.code = code ∧ meth.sig.returnType = ret ∧ c.maxLocals = 8 ∧ s.vm.findClass R_law = some m.cls ∧ (∀ w ∈ lw_tbl, w.before #[Value.ref b] s = true) ∧ va_X b L xs s s.heap ∧ b < s.heap.size ∧ meth.locks = false ∧ (Jvm.Cond.and given_1 narrow_1).before #[Value.ref b] s = true
def lx_S : Nat := xm_K0 + 1000
/-- the law's own steps: the script is read, a constant is laid -/
def lx_xt (xs : Nat → Int32) (L : Nat) (i : Jvm.ClassFile.Instr) (n : Nat) (st : List Value) (A : xm_H) : xm_P :=
  match i with
  | .iaload => if n = 1 then (match st with
    | .int z :: .ref a :: rest => if a = lx_S then (xm_ix z L).map (fun k => (.int (xs k) :: rest, A)) else none
    | _ => none) else none
  | .arraylength => if n = 1 then (match st with
    | .ref a :: rest => if a = lx_S then some (.int (Int32.ofNat L) :: rest, A) else none
    | _ => none) else none
  | .ldc2_w x => if n = 3 ∧ x = 65 then some (.long 4294967295 :: st, A) else none
  | _ => none
theorem lx_xl {xs : Nat → Int32} {L : Nat} {i : Jvm.ClassFile.Instr} {n : Nat} {st st' : List Value} {A A' : xm_H} (h : lx_xt xs L i n st A = some (st', A')) : A'.length = A.length := by
  cases i
  case iaload =>
    obtain ⟨-, h1⟩ := xm_if h
    split at h1
    · obtain ⟨-, h2⟩ := xm_if h1
      obtain ⟨k, -, h3⟩ := xm_map h2
      cases h3; rfl
    · cases h1
  case arraylength =>
    obtain ⟨-, h1⟩ := xm_if h
    split at h1
    · obtain ⟨-, h2⟩ := xm_if h1
      cases h2; rfl
    · cases h1
  case ldc2_w x =>
    obtain ⟨-, h1⟩ := xm_if h
    cases h1; rfl
  all_goals exact absurd h (by simp [lx_xt])
/-- a helper's callee throws, and the helper answers rc -/
def hl_TH (F d j : Nat) (A : xm_H) (As : List Value) (rc : Int32) : Prop := ∃ (f1 f2 pc x k xx hpc pcr : Nat) (ls ls' : xm_L) (st As' rest : List Value), (lg_sl As).length ≤ hl_L j ∧ xm_sr (hl_b j) (hl_L j) f1 0 (lv_args 0 As) [] = some (pc, ls, st) ∧ decode (hl_b j) pc = .ok (.invokevirtual x, 3) ∧ xm_ca tb_oc (tb_cr 10) (.invokevirtual x) 3 st A = some (k, As', rest) ∧
  tb_eo F (d + 1) k A As' = some (.inr xx) ∧ (xx = 1 ∨ xx = 2) ∧ hl_to pc xx (hl_h j) = some hpc ∧ xm_sr (hl_b j) (hl_L j) f2 hpc [] [.ref 0] = some (pcr, ls', [.int rc]) ∧ decode (hl_b j) pcr = .ok (.ireturn, 1)
/-- a helper: 'orc' says beforehand whether it catches, and then what it answers -/
noncomputable def hl_f (F d : Nat) (orc : Nat → xm_H → List Value → Option Int32) (j : Nat) (A : xm_H) (As : List Value) : Option (xm_H × Value × Nat × Nat) := match orc j A As with
  | none => (match hl_rn F (d + 1) j A As with
    | some (A', .inl (some v), c1, s1) => if A'.length = A.length then some (A', v, c1, s1) else none
    | _ => none)
  | some rc => @ite _ (hl_TH F d j A As rc) (Classical.propDecidable _) (some (A, .int rc, 1, 6)) none
noncomputable def lx_xc (F d : Nat) (orc : Nat → xm_H → List Value → Option Int32) (i : Jvm.ClassFile.Instr) (n : Nat) (st : List Value) (A : xm_H) : Option (List Value × xm_H × Nat × Nat) :=
  match i with
  | .invokestatic x => if n = 3 then (match hl_x.find? (fun q => q.1 == x) with
    | some q => (match xm_ss q.2.2.1 st with
      | some (As, rest) => (hl_f F d orc q.2.1 A As).map (fun z => (z.2.1 :: rest, z.1, z.2.2.1, z.2.2.2))
      | none => none)
    | none => none) else none
  | _ => none
theorem hl_f_s {F d j : Nat} {orc : Nat → xm_H → List Value → Option Int32} {A A' : xm_H} {As : List Value} {v : Value} {c1 s1 : Nat} (h : hl_f F d orc j A As = some (A', v, c1, s1)) : A'.length = A.length ∧ (hl_rn F (d + 1) j A As = some (A', .inl (some v), c1, s1) ∨ ∃ rc, hl_TH F d j A As rc ∧ A' = A ∧ v = .int rc ∧ c1 = 1 ∧ s1 = 6) := by
  unfold hl_f at h
  split at h
  · split at h
    · rename_i A1 v1 c2 s2 h1
      obtain ⟨h2, h3⟩ := xm_if h
      simp only [Option.some.injEq, Prod.mk.injEq] at h3
      obtain ⟨rfl, rfl, rfl, rfl⟩ := h3
      exact ⟨h2, Or.inl h1⟩
    · cases h
  · rename_i rc _
    split at h
    · rename_i hT
      simp only [Option.some.injEq, Prod.mk.injEq] at h
      obtain ⟨rfl, rfl, rfl, rfl⟩ := h
      exact ⟨rfl, Or.inr ⟨rc, hT, rfl, rfl, rfl, rfl⟩⟩
    · cases h
theorem lx_xc_s {F d : Nat} {orc : Nat → xm_H → List Value → Option Int32} {i : Jvm.ClassFile.Instr} {n : Nat} {st st' : List Value} {A A' : xm_H} {c1 s1 : Nat} (h : lx_xc F d orc i n st A = some (st', A', c1, s1)) :
    ∃ x j na i1 i2 As rest v, i = .invokestatic x ∧ n = 3 ∧ (x, j, na, i1, i2) ∈ hl_x ∧ xm_ss na st = some (As, rest) ∧ hl_f F d orc j A As = some (A', v, c1, s1) ∧ st' = v :: rest := by
  cases i
  case invokestatic x =>
    obtain ⟨rfl, h1⟩ := xm_if h
    split at h1
    · rename_i q hq
      obtain ⟨x', j, na, i1, i2⟩ := q
      have hm := List.mem_of_find?_eq_some hq
      have hp := List.find?_some hq
      have hx : x' = x := by simpa using hp
      subst hx
      split at h1
      · rename_i As rest hss
        obtain ⟨z, hz, h2⟩ := xm_map h1
        obtain ⟨A1, v, c2, s2⟩ := z
        simp only [Prod.mk.injEq] at h2
        obtain ⟨rfl, rfl, rfl, rfl⟩ := h2
        exact ⟨_, _, _, _, _, _, _, _, rfl, rfl, hm, hss, hz, rfl⟩
      · cases h1
    · cases h1
  all_goals exact absurd h (by simp [lx_xc])
/-- the law's run -/
noncomputable def lx_run (F d : Nat) (orc : Nat → xm_H → List Value → Option Int32) (xs : Nat → Int32) (L : Nat) (f pc : Nat) (ls : xm_L) (st : List Value) (A : xm_H) (nc ns : Nat) : Option xm_R := xm_rn (tb_ex F (d + 2)) (lx_xt xs L) (lx_xc F d orc) tb_cl tb_tt tb_ft (tb_fr 10) none (tb_nr 10) (tb_qr 10) tb_ta tb_oc (tb_cr 10) code 8 ret f pc ls st A nc ns
theorem lx_k65 : Cond.constantLong "ConditionDeskLaw" 65 4294967295 ∈ tb_gd := tb_gd_in (i := 1127) (by decide +kernel) rfl
set_option maxRecDepth 100000 in
theorem lx_rl {d : Nat} (h : d ≤ 1000) : 64 * (d + 2) + 2064 ≤ 84000 := by omega
section LXA
variable {p : Program} {e : Env} {s : State} {m : MethodId} {below : List Frame} {meth : Method} {c : Code} {l : Launch} {b L : Nat} {xs : Nat → Int32}
set_option maxHeartbeats 8000000 in
theorem lx_whole (hfl : l.flags = flags0) (C0 : lw_At p s m meth c b L xs) {F f d : Nat} {orc : Nat → xm_H → List Value → Option Int32} {A' : xm_H} {c1 s1 : Nat} (hd : d ≤ 1000) (hc : c1 ≤ 601024) (hs : s1 ≤ 7293034) (h : lx_run F d orc xs L f 0 [(0, .ref lx_S)] [] [] 0 0 = some (A', .inl (some (.int 1)), c1, s1)) :
    W p l e room_1 s m #[Value.ref b] below meth c s.heap [] 0 0 (lw_Z below #[Value.ref b] s) (entryFrame m ([Value.ref b] : List Value).toArray 8) := by
  obtain ⟨hx, hb, hr, hml, hown, hts, hX, hbl, hlocks, hgv⟩ := id C0
  obtain ⟨D, tys, adK, adV, hTT, hK, hG, hb1⟩ := lx_init hts hgv
  have hgd : ∀ w ∈ tb_gd, w.before #[Value.ref b] s = true := fun w hw => hts w (List.mem_filter.mp hw).1
  have hAd : ∀ q : Nat, s.heap.size ≤ q → (fun q : Nat => s.heap.size ≤ q) q := fun _ h => h
  have hbA : ¬ (fun q : Nat => s.heap.size ≤ q) b := Nat.not_le.mpr hbl
  obtain ⟨hFR, hNR, hQR, hTA, hCR⟩ := tb_SFo (st_Z s.heap.size adK adV) 10 "ConditionDeskLaw" hl_nm #[Value.ref b] s lw_tbl (fun w hw => (List.mem_filter.mp hw).1) hgd hG.1
  have S : CallFix p m c code 8 s #[Value.ref b] lw_tbl "ConditionDeskLaw" := ⟨hx, hb, hml, hown, hts⟩
  have hNI' : xm_NI tb_cl "ConditionDeskLaw" meth none := fun ci hci => by cases hci
  have hl := lv_entry ([.ref b]) (n := 8) (Nat.le_of_ble_eq_true rfl)
  rw [lg_entry_eq]
  generalize (lg_sl ([.ref b]) ++ List.replicate (8 - (lg_sl ([.ref b])).length) Slot.unset).toArray = ls at hl ⊢
  have hl : lv_has ls 8 [(0, .ref b)] := hl
  have hS : va_S (fun q : Nat => s.heap.size ≤ q) s.heap s.heap [] := va_S.rf
  have hP : va_P D tb_cl (xm_w tys (fun j => adK (j - xm_K0)) []) s.heap := fun k q h => by simp [xm_w] at h
  have hD : va_D (fun q : Nat => s.heap.size ≤ q) (xm_w tys (fun j => adK (j - xm_K0)) []) := ⟨fun i j p q h => by simp [xm_w] at h, fun k q h => by simp [xm_w] at h⟩
  have hlS : ∀ r : Nat → Nat, (∀ j, xm_K0 ≤ j → r j = (fun j => adK (j - xm_K0)) j) → r lx_S = b := fun r hr => by
    rw [hr lx_S (Nat.le_add_right _ _)]
    show adK (xm_K0 + 1000 - xm_K0) = b
    rw [Nat.add_sub_cancel_left]
    exact hb1
  have hl0 : lv_has ls 8 (xm_lm (fun j => adK (j - xm_K0)) [(0, .ref lx_S)]) := by
    show lv_has ls 8 [(0, .ref (adK (lx_S - xm_K0)))]
    have := hlS (fun j => adK (j - xm_K0)) (fun _ _ => rfl)
    rw [show adK (lx_S - xm_K0) = b from this]
    exact hl
  refine xm_rn_ok (lt := fun j => adK (j - xm_K0)) (G := tb_G (st_Z s.heap.size adK adV)) (d := d + 2) (r0 := fun j => adK (j - xm_K0)) (n0 := 0) (N0 := s.heap.size) (Ad := fun q : Nat => s.heap.size ≤ q) (R := room_1) (Ts := lw_tbl) S tb_CL hFR hNI' hTT hNR hQR hTA hCR (fun w hw => (List.mem_filter.mp hw).1) tb_good (tb_G1 st_Z1) (fun H1 locs1 U a b c9 => tb_G2 st_Z2 s U H1 locs1 hG.1 a b c9) (xm_ex_mono (fun k i n st A st' A' h => tb_xo_len h) (d + 2)) (fun _ _ => rfl) (tb_ex_ok hTT (d + 2)) (fun _ _ _ _ _ _ h => lx_xl h) ?_ (fun _ _ _ _ _ _ _ _ h => by
      obtain ⟨_, _, _, _, _, _, _, _, -, -, -, -, hf, -⟩ := lx_xc_s h
      exact (hl_f_s hf).1) ?_ (by show d + 2 + 21 ≤ 2048; omega) (lx_rl hd) hc hs (Nat.le_refl _) hAd (fun _ h => h) hK ?_ f 0 [(0, .ref lx_S)] [] [] 0 0 (fun j => adK (j - xm_K0)) s.heap [] ls h (Nat.le_refl _) xm_ag.rf (fun _ => rfl) hl0 hP hD hS
  · -- the law's own steps
    intro i n pc st A st' A2 r H locs lsR cells slots hrl h9 hdg hls hcl hsl hP9 hD9 hS9 kk
    cases i
    case iaload =>
      obtain ⟨rfl, h1⟩ := xm_if h9
      split at h1
      · obtain ⟨rfl, h2⟩ := xm_if h1
        obtain ⟨k, hk, h3⟩ := xm_map h2
        simp only [Prod.mk.injEq] at h3
        obtain ⟨rfl, rfl⟩ := h3
        obtain ⟨hin, rfl, -⟩ := xm_ix_s hk
        rename_i z rest
        show W p l e room_1 s m _ below meth c H locs cells slots _ (F0 m pc lsR (.int z :: .ref (r lx_S) :: rest.map (xm_v r)))
        rw [hlS r hrl]
        exact va_sld hx hb hX hbl hbA hS9 hin hdg (kk H locs hP9 hD9 hS9)
      · cases h1
    case arraylength =>
      obtain ⟨rfl, h1⟩ := xm_if h9
      split at h1
      · obtain ⟨rfl, h2⟩ := xm_if h1
        simp only [Option.some.injEq, Prod.mk.injEq] at h2
        obtain ⟨rfl, rfl⟩ := h2
        rename_i rest
        show W p l e room_1 s m _ below meth c H locs cells slots _ (F0 m pc lsR (.ref (r lx_S) :: rest.map (xm_v r)))
        rw [hlS r hrl]
        exact va_slen hx hb hX hbl hbA hS9 hdg (kk H locs hP9 hD9 hS9)
      · cases h1
    case ldc2_w x =>
      obtain ⟨⟨rfl, rfl⟩, h1⟩ := xm_if h9
      simp only [Option.some.injEq, Prod.mk.injEq] at h1
      obtain ⟨rfl, rfl⟩ := h1
      exact lv_ldc2 hx hb hown (hgd _ lx_k65) hdg (kk H locs hP9 hD9 hS9)
    all_goals exact absurd h9 (by simp [lx_xt])
  · -- helpers
    intro i n pc st A st' A2 c2 s2 r H locs lsR cells slots hrl h9 hdg hls hcl hsl hP9 hD9 hS9 kk
    obtain ⟨x, j, na, i1, i2, As, rest, v, rfl, rfl, hm, hss, hf, rfl⟩ := lx_xc_s h9
    obtain ⟨hlen, hf2⟩ := hl_f_s hf
    have hj : j < 7 := by
      have hc := hl_xA _ hm
      simp only [hl_xC, Bool.and_eq_true, decide_eq_true_eq] at hc
      exact hc.1.1.1.1
    have hM : Met l (hl_y j) (hl_ws j) (xm_rm (d + 2) c2 s2) (xm_Pc D tb_cl tys s.heap.size (hl_G s.heap.size adK adV) r A H.size As) (xm_Q D tb_cl tys r A.length H.size A2 (some v)) c2 s2 (xm_ad r A.length H.size) := by
      rcases hf2 with hf2 | ⟨rc, hT, rfl, rfl, rfl, rfl⟩
      · exact hl_ret hTT (d + 1) j hj A As A2 (some v) c2 s2 r hrl hf2 H.size
      · obtain ⟨f1, f2, pc9, x9, k9, xx, hpc, pcr, ls1, ls2, st9, As', rest', t1, t2, t3, t4, t5, t6, t7, t8, t9⟩ := hT
        exact hl_thr hfl hTT d j hj _ As r H.size t1 t2 t3 t4 t5 t6 t7 t8 t9
    refine hl_call (G := hl_G s.heap.size adK adV) (d := d + 2) S hm hss hdg (fun w hw => (List.mem_filter.mp hw).1) hl_G1 (fun H1 locs1 U a b c9 => hl_G2 s U H1 locs1 hG a b c9) hM (by show d + 2 + 21 ≤ 2048; omega) (lx_rl hd) hcl hsl hls (Nat.le_refl _) hAd (fun _ h => h) hK hP9 hD9 hS9 (fun r' H1 locs1 e1 e2 e3 e4 e5 => ?_)
    obtain rfl := e2 hlen
    exact kk H1 locs1 e3 e4 e5
  · -- the end
    intro v hv i n pc st r H locs lsR hdg hre hag hre2 hP' hD' hS'
    cases hv
    refine va_forget hS'.2.2 (W.widen hc hs ?_)
    have key : i = .ireturn ∧ n = 1 ∧ st = [.int 1] := by
      cases i
      case return_ =>
        obtain ⟨-, h0⟩ := xm_if hre
        split at h0 <;> cases h0
      case ireturn =>
        obtain ⟨rfl, h0⟩ := xm_if hre
        split at h0
        · obtain ⟨-, h2⟩ := xm_if h0
          cases h2
          exact ⟨rfl, rfl, rfl⟩
        · cases h0
      case lreturn =>
        obtain ⟨-, h0⟩ := xm_if hre
        split at h0 <;> cases h0
      case areturn =>
        obtain ⟨-, h0⟩ := xm_if hre
        split at h0 <;> cases h0
      all_goals exact absurd hre (by simp [xm_re])
    obtain ⟨rfl, rfl, rfl⟩ := key
    exact lw_ret hx hb hr hlocks hdg
end LXA
