/-! The law's calls of its helpers. -/
def hl_x : List (Nat × Nat × Nat × Nat × Nat) := [(48, 0, 3, 445, 446), (58, 1, 3, 747, 748), (61, 2, 3, 754, 755), (72, 3, 3, 766, 767), (75, 4, 4, 778, 779), (79, 5, 3, 803, 804), (86, 6, 4, 810, 811)]
def hl_xC (q : Nat × Nat × Nat × Nat × Nat) : Bool := decide (q.2.1 < 7) && decide (lw_tbl[q.2.2.2.1]? = some (Cond.methodLink "ConditionDeskLaw" q.1 (hl_y q.2.1))) && decide (lw_tbl[q.2.2.2.2]? = some (Cond.static (hl_y q.2.1))) && decide ((parseMethodDescriptor (hl_y q.2.1).desc).map (fun d => d.parameters.length) = some q.2.2.1) && decide (hl_L q.2.1 ≤ 40)
theorem hl_xA : ∀ q ∈ hl_x, hl_xC q = true := by decide +kernel
theorem hl_ini : Cond.initialized "ConditionDeskLaw" ∈ tb_gd := tb_gd_in (i := 78) (by decide +kernel) rfl
section LCA
variable {p : Program} {l : Launch} {e : Env} {R : Room} {s : State} {m : MethodId} {args : Array Value} {below : List Frame} {meth : Method} {c : Code} {H H0 : Heap} {locs : List Loc} {cells slots : Nat} {Q : State → Prop}
variable {cc : ByteArray} {pc nL d : Nat} {lsR : Array Slot} {r : Nat → Nat} {st rest As : List Value} {A A' : xm_H} {v : Option Value} {c1 s1 x j na i1 i2 : Nat} {Ts : List Cond} {D : va_G} {tys : xm_T} {N0 : Nat} {Ad : Nat → Prop} {G : State → Prop}
set_option maxHeartbeats 4000000 in
theorem hl_call (S : CallFix p m c cc nL s args Ts "ConditionDeskLaw") (hq : (x, j, na, i1, i2) ∈ hl_x) (hss : xm_ss na st = some (As, rest)) (hdg : decode cc pc = .ok (.invokestatic x, 3)) (hgd : ∀ w ∈ tb_gd, w ∈ Ts)
    (hG1 : ∀ (U : State) (g : JFrame) (mk : MethodId) (a : Array Value), G U → G (U.calling g mk a)) (hG2 : ∀ (H1 : Heap) (locs1 : List Loc) (U : State), va_S Ad s.heap H1 locs1 → U.heap = H1 → s.WarmedH U.vm → G U)
    (hM : Met l (hl_y j) (hl_ws j) (xm_rm d c1 s1) (xm_Pc D tb_cl tys N0 G r A H.size As) (xm_Q D tb_cl tys r A.length H.size A' v) c1 s1 (xm_ad r A.length H.size))
    (hRf : d + 21 ≤ R.frames) (hRl : 64 * d + 2064 ≤ R.locals) (hRc : cells + c1 ≤ R.cells) (hRs : slots + s1 ≤ R.slots) (hl : lsR.size = nL) (hN0 : N0 ≤ s.heap.size) (hAd : ∀ q, s.heap.size ≤ q → Ad q) (hAdN : ∀ q, Ad q → N0 ≤ q)
    (hK : va_K D tb_cl tys s) (hP : va_P D tb_cl (xm_w tys r A) H) (hD : va_D Ad (xm_w tys r A)) (hS : va_S Ad s.heap H locs)
    (kk : ∀ (r' : Nat → Nat) (H1 : Heap) (locs1 : List Loc), xm_ag A.length r r' → (A'.length = A.length → r' = r) → va_P D tb_cl (xm_w tys r' A') H1 → va_D Ad (xm_w tys r' A') → va_S Ad s.heap H1 locs1 → W p l e R s m args below meth c H1 locs1 (cells + c1) (slots + s1) Q (F0 m (pc + 3) lsR ((v.map (xm_v r')).toList ++ rest.map (xm_v r)))) : W p l e R s m args below meth c H locs cells slots Q (F0 m pc lsR (st.map (xm_v r))) := by
  have hc := hl_xA _ hq
  simp only [hl_xC, Bool.and_eq_true, decide_eq_true_eq] at hc
  obtain ⟨⟨⟨⟨hj, w1⟩, w2⟩, hna⟩, hmL⟩ := hc
  have hts := S.2.2.2.2
  have hat : ∀ {i : Nat} {w : Cond}, lw_tbl[i]? = some w → goodWord w = true → w.before args s = true := fun h hg => hts _ (hgd _ (tb_gd_in h hg))
  have hlink := hat w1 rfl
  have hstat := hat w2 rfl
  have hcls := hl_cls j hj
  have hini : (Cond.initialized (hl_y j).cls).before args s = true := by rw [hcls]; exact hts _ (hgd _ hl_ini)
  have hMH : (hl_y j).cls ≠ "java/lang/invoke/MethodHandle" ∧ (hl_y j).cls ≠ "java/lang/invoke/VarHandle" := by rw [hcls]; exact ⟨by decide, by decide⟩
  have hcw : (Cond.codeWith (hl_y j) (hl_b j) (hl_L j) (some .int) (hl_h j)).before args s = true := hts _ (hgd _ (hl_cw j hj))
  have hws : ∀ w ∈ hl_ws j, ∀ (a' : Array Value) (U : State), s.WarmedH U.vm → w.before a' U = true := by
    intro w hw a' U hW
    have hg : w ∈ tb_gd := (List.mem_cons.mp hw).elim (fun e => e ▸ hl_cw j hj) (fun h => h)
    exact word_at hW (good_of_word (tb_good w hg)) (hts w (hgd w hg))
  have hblind : FrameBlind (xm_Pc D tb_cl tys N0 G r A H.size As) := xm_Pc_blind hG1
  have hpre : ∀ U : State, U.heap = H → s.WarmedH U.vm → xm_Pc D tb_cl tys N0 G r A H.size As (As.map (xm_v r)).toArray U := fun U hU hW => ⟨rfl, ⟨Nat.le_trans hN0 hS.1, by rw [hU]⟩, by rw [hU]; exact hP, va_K.moved hW.alike hK, hD.weaken (fun _ _ _ z => hAdN _ z), hG2 H locs U hS hU hW⟩
  have hsub : ∀ q, xm_ad r A.length H.size q → Ad q := xm_ad_sub hD (fun q hq => hAd q (Nat.le_trans hS.1 hq))
  obtain ⟨hst, hlen, hcat⟩ := xm_ss_s hss
  have hstk : (F0 m pc lsR (st.map (xm_v r))).stack = (As.map (xm_v r)).reverse ++ rest.map (xm_v r) := by
    show st.map (xm_v r) = _
    rw [hst, List.map_append, List.map_reverse]
  have hct : 2 * (F0 m pc lsR (st.map (xm_v r))).monitorRoom + ((rest.map (xm_v r)).map fun v => v.category).sum ≤ 8 := lv_room (Nat.le_trans (Nat.le_of_eq (xm_cat_m r rest)) hcat)
  have hK9 : Back l R p e below s args (hl_y j) 3 8 (PreOf R c1 s1 (xm_Pc D tb_cl tys N0 G r A H.size As)) (PostOf (xm_Q D tb_cl tys r A.length H.size A' v) c1 s1 (xm_ad r A.length H.size)) :=
    va_backW (bytes := hl_b j) (maxL := hl_L j) (ret := some .int) (hh := hl_h j) hM hblind rfl rfl hRf (xm_loc hmL hRl) hws List.mem_cons_self (fun a' U hW => word_at hW (Or.inl (by first | rfl | simp [Cond.onTables, Cond.keeps, Cond.steady])) hini)
  obtain ⟨hx, hb, hml, ho, -⟩ := S
  refine xm_back (rest := rest.map (xm_v r)) (a := (As.map (xm_v r)).toArray) ?_ hsub hS kk
  intro T hT X
  obtain ⟨mk, methM, cM, hnamed, hmethM, -, -, -, -, -, -, hsigM⟩ := Cond.codeWith_spec hcw
  have hstatic : methM.isStatic = true := Cond.static_spec hnamed hmethM hstat
  obtain ⟨kP, hkP, -⟩ := className_of_methodNamed hnamed
  have hinitP : kP.init = .initialized := Cond.initialized_spec (findClass_of_methodNamed hnamed) hkP hini
  have hpar : (As.map (xm_v r)).length = methM.sig.parameters.length := by
    rw [List.length_map, hlen]
    rw [hsigM] at hna
    exact (Option.some.inj hna).symm
  obtain ⟨vm₁, X₁, hstep₁⟩ := X.invokestatic hx ho hlink hnamed hmethM hstatic hkP hinitP hMH (g := F0 m pc lsR (st.map (xm_v r))) rfl (argsL := As.map (xm_v r)) (rest := rest.map (xm_v r)) hpar hstk (by rw [hb]; exact hdg)
  obtain ⟨v9, ⟨U', l2, c2, s2⟩, X', ⟨g', mk', t, L, e1, e2, hq9, h1, hL, h2, h3⟩, hsteps⟩ := hK9 m meth c ⟨T.setVm vm₁, locs, cells, slots⟩ (F0 m pc lsR (rest.map (xm_v r))) (.invokestatic x) mk (As.map (xm_v r)).toArray X₁ rfl (hl.trans hml.symm) (by rw [hb]; exact hdg) hct (X₁.named hnamed) ⟨hRc, hRs, hpre (T.setVm vm₁) hT X₁.warmed⟩
  dsimp only [Pt.U, Pt.locs, Pt.cells, Pt.slots] at X' e1 e2 h1 h2 h3 hsteps
  subst h1; subst h2; subst h3
  exact ⟨v9, (T.setVm vm₁).calling g' mk' (As.map (xm_v r)).toArray, t, U', L, hT, X', hL, e1, e2, hq9, fun target h => hstep₁ _ fun acts => by rw [doInvoke_state]; exact hsteps.trans h⟩
end LCA
