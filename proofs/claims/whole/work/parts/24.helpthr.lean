/-! The law's helpers where the callee throws. -/
def xm_sr (cc : ByteArray) (nL : Nat) : Nat → Nat → xm_L → List Value → Option (Nat × xm_L × List Value)
  | 0, pc, ls, st => some (pc, ls, st)
  | f + 1, pc, ls, st => match decode cc pc with
    | .error _ => none
    | .ok (i, n) => match xm_pu nL i n ls st with
      | some q => xm_sr cc nL f (pc + n) q.1 q.2
      | none => some (pc, ls, st)
section HTA
variable {p : Program} {l : Launch} {e : Env} {R : Room} {s : State} {m : MethodId} {args : Array Value} {below : List Frame} {meth : Method} {c : Code} {H : Heap} {locs : List Loc} {cells slots : Nat} {Q : State → Prop}
theorem xm_sr_ok {cc : ByteArray} {nL : Nat} {r : Nat → Nat} {pc' : Nat} {ls' : xm_L} {st' : List Value} (hx : p.tables.exec = Jvm.exec) (hb : c.code = cc)
    (k : ∀ lsR', lv_has lsR' nL (xm_lm r ls') → W p l e R s m args below meth c H locs cells slots Q (F0 m pc' lsR' (st'.map (xm_v r)))) : ∀ (f pc : Nat) (ls : xm_L) (st : List Value) (lsR : Array Slot), xm_sr cc nL f pc ls st = some (pc', ls', st') → lv_has lsR nL (xm_lm r ls) → W p l e R s m args below meth c H locs cells slots Q (F0 m pc lsR (st.map (xm_v r))) := by
  intro f
  induction f with
  | zero =>
    intro pc ls st lsR h hl
    simp only [xm_sr, Option.some.injEq, Prod.mk.injEq] at h
    obtain ⟨rfl, rfl, rfl⟩ := h
    exact k lsR hl
  | succ f ih =>
    intro pc ls st lsR h hl
    rw [xm_sr] at h
    split at h
    · cases h
    · rename_i i n hdg
      split at h
      · rename_i q hq
        exact xm_pu_ok hx hb hq hdg hl (fun lsR' hl' => ih _ _ _ lsR' h hl')
      · simp only [Option.some.injEq, Prod.mk.injEq] at h
        obtain ⟨rfl, rfl, rfl⟩ := h
        exact k lsR hl
end HTA
/-- where a table leads an exception (1: IllegalArgumentException, entry 13 of the law's pool; 2: IllegalStateException, entry 30) -/
def hl_to (pc xx : Nat) : List (Nat × Nat × Nat × Nat) → Option Nat
  | [] => none
  | (a, b, t, k) :: hh => if a ≤ pc ∧ pc < b then (if k = 13 then (if xx = 1 then some t else if xx = 2 then hl_to pc xx hh else none) else if k = 30 ∧ xx = 2 then some t else none) else none
theorem hl_ct {s : State} {pl : Platform} {d cI cS cx : ClassId} {pc xx h : Nat} (hI : s.vm.ClassLinks pl d 13 cI) (hS : s.vm.ClassLinks pl d 30 cS) (h1 : xx = 1 → s.vm.assignable cx cI = true) (h2 : xx = 2 → s.vm.assignable cx cI = false ∧ s.vm.assignable cx cS = true) : ∀ hh, hl_to pc xx hh = some h → ct_to s pl d cx pc h hh
  | [], ht => by cases ht
  | (a, b, t, k) :: hh, ht => by
    rw [hl_to] at ht
    obtain ⟨⟨ha, hb⟩, ht2⟩ := xm_if ht
    by_cases hk : k = 13
    · subst hk
      rw [if_pos rfl] at ht2
      by_cases hxx : xx = 1
      · rw [if_pos hxx] at ht2
        exact ⟨ha, hb, by decide, cI, hI, Or.inl ⟨h1 hxx, (Option.some.inj ht2).symm⟩⟩
      · rw [if_neg hxx] at ht2
        obtain ⟨hx2, ht3⟩ := xm_if ht2
        exact ⟨ha, hb, by decide, cI, hI, Or.inr ⟨(h2 hx2).1, hl_ct hI hS h1 h2 hh ht3⟩⟩
    · rw [if_neg hk] at ht2
      obtain ⟨⟨hk2, hx2⟩, ht3⟩ := xm_if ht2
      subst hk2
      exact ⟨ha, hb, by decide, cS, hS, Or.inl ⟨(h2 hx2).2, (Option.some.inj ht3).symm⟩⟩
theorem hl_13 : Cond.classLink "ConditionDeskLaw" 13 "java/lang/IllegalArgumentException" ∈ tb_gd := tb_gd_in (i := 448) (by decide +kernel) rfl
theorem hl_30 : Cond.classLink "ConditionDeskLaw" 30 "java/lang/IllegalStateException" ∈ tb_gd := tb_gd_in (i := 781) (by decide +kernel) rfl
theorem hl_b0 : ∀ x kd k b na, tb_cr 10 x = some (kd, k, b, na) → b = false := by
  intro x kd k b na h
  obtain ⟨⟨⟨o, x'⟩, v, i⟩, hm, hp, hv⟩ := tb_find h
  obtain ⟨rfl, rfl⟩ := tb_key hp
  have hc : ∀ q ∈ tb_crL, q.1.1 = 10 → q.2.1.2.2.1 = false := by decide +kernel
  have := hc _ hm rfl
  dsimp only at hv this
  rw [hv] at this
  exact this
section HTB
variable {F : Nat} {l : Launch} {D : va_G} {tys : xm_T} {N0 : Nat} {adK adV : Nat → Nat}
set_option maxHeartbeats 4000000 in
theorem hl_thr (hfl : l.flags = flags0) (hTT : xm_TT tb_tt tys) (d j : Nat) (hj : j < 7) (A : xm_H) (As : List Value) (r : Nat → Nat) (sz : Nat) {f1 f2 pc x k xx hpc pcr : Nat} {ls ls' : xm_L} {st As' rest : List Value} {rc : Int32} (hlen : (lg_sl As).length ≤ hl_L j)
    (h1 : xm_sr (hl_b j) (hl_L j) f1 0 (lv_args 0 As) [] = some (pc, ls, st)) (h2 : decode (hl_b j) pc = .ok (.invokevirtual x, 3)) (h3 : xm_ca tb_oc (tb_cr 10) (.invokevirtual x) 3 st A = some (k, As', rest))
    (h4 : tb_eo F (d + 1) k A As' = some (.inr xx)) (h5 : xx = 1 ∨ xx = 2) (h6 : hl_to pc xx (hl_h j) = some hpc) (h7 : xm_sr (hl_b j) (hl_L j) f2 hpc [] [.ref 0] = some (pcr, ls', [.int rc])) (h8 : decode (hl_b j) pcr = .ok (.ireturn, 1)) :
    Met l (hl_y j) (hl_ws j) (xm_rm (d + 2) 1 6) (xm_Pc D tb_cl tys N0 (hl_G N0 adK adV) r A sz As) (xm_Q D tb_cl tys r A.length sz A (some (.int rc))) 1 6 (xm_ad r A.length sz) := by
  refine va_MetW (cc := hl_b j) (maxL := hl_L j) (ret := some .int) (hh := hl_h j) (by rw [hl_cls j hj]; exact hl_pl) rfl ?_
  intro p e s m args below meth c s₁ B hml hv
  obtain ⟨rfl, ⟨hN0, hsz⟩, hP, hK, hD, hG⟩ := hv
  subst hsz
  have hD' := xm_ad_D s.heap.size hD
  have hts := atoms_spec (ws := hl_ws j) B.pre
  have hgd : ∀ w ∈ tb_gd, w.before (As.map (xm_v r)).toArray s = true := fun w hw => hts w (List.mem_cons_of_mem _ hw)
  have hown : s.vm.findClass "ConditionDeskLaw" = some m.cls := by rw [← hl_cls j hj]; exact findClass_of_methodNamed B.named
  obtain ⟨hFR, hNR, hQR, hTA, hCR⟩ := tb_SFo (st_Z N0 adK adV) 10 "ConditionDeskLaw" hl_nm (As.map (xm_v r)).toArray s (hl_ws j) (fun w hw => List.mem_cons_of_mem _ hw) hgd hG.1
  have S : CallFix p m c (hl_b j) (hl_L j) s (As.map (xm_v r)).toArray (hl_ws j) "ConditionDeskLaw" := ⟨B.exec, B.bytes, hml, hown, hts⟩
  have hl := lv_entry (As.map (xm_v r)) (n := hl_L j) (by rw [xm_sl_m]; exact hlen)
  rw [lg_entry_eq]
  generalize (lg_sl (As.map (xm_v r)) ++ List.replicate (hl_L j - (lg_sl (As.map (xm_v r))).length) Slot.unset).toArray = ls0 at hl ⊢
  rw [xm_args_m] at hl
  have hS0 : va_S (fun q => N0 ≤ q) s.heap s.heap [] := va_S.rf
  -- the table
  obtain ⟨m9, meth9, c9, hn9, g1, g2, -, -, g5, -, -, -⟩ := Cond.codeWith_spec (hts _ List.mem_cons_self)
  cases B.named.symm.trans hn9
  cases B.method.symm.trans g1
  cases (Stand.of_body B).code.symm.trans g2
  have hpl : e.platform.magicAccessors = ({} : Platform).magicAccessors := by rw [B.admits.platform]
  obtain ⟨cI, hfI, hlI⟩ := Cond.classLink_spec hown (hgd _ hl_13) e.platform hpl
  obtain ⟨cS, hfS, hlS⟩ := Cond.classLink_spec hown (hgd _ hl_30) e.platform hpl
  obtain ⟨a1, a2, b1, b2, b3⟩ := Cond.castable_spec (th_cast (hgd _ th_i1))
  cases hfI.symm.trans b1
  cases hfI.symm.trans b2
  obtain ⟨a3, a4, b4, b5, b6⟩ := Cond.castable_spec (th_cast (hgd _ th_i2))
  cases hfS.symm.trans b4
  cases hfS.symm.trans b5
  obtain ⟨n1, n2, b7, b8, b9⟩ := hG.2
  cases hfS.symm.trans b7
  cases hfI.symm.trans b8
  have hkI : ∃ kx, s.vm.classes[cI]? = some kx := Vm.classAt_of_findClass hfI
  have hkS : ∃ kx, s.vm.classes[cS]? = some kx := Vm.classAt_of_findClass hfS
  obtain ⟨cx, hfx, hkx, q1, q2⟩ : ∃ cx, s.vm.findClass (th_X xx) = some cx ∧ (∃ kx, s.vm.classes[cx]? = some kx) ∧ (xx = 1 → s.vm.assignable cx cI = true) ∧ (xx = 2 → s.vm.assignable cx cI = false ∧ s.vm.assignable cx cS = true) := by
    rcases h5 with rfl | rfl
    · exact ⟨cI, hfI, hkI, ⟨fun _ => b3, fun h => absurd h (by decide)⟩⟩
    · exact ⟨cS, hfS, hkS, ⟨fun h => absurd h (by decide), fun _ => ⟨b9, b6⟩⟩⟩
  refine xm_sr_ok (r := r) B.exec B.bytes (fun lsR' hl' => ?_) f1 0 (lv_args 0 As) [] ls0 h1 hl
  refine ct_call (d := d + 1) (hpc := hpc) S h3 (hl_b0 x) h2 hCR (fun w hw => List.mem_cons_of_mem _ hw) tb_good (tb_eo_thr (D := D) (tys := tys) (N0 := N0) (adK := adK) (adV := adV) hfl hTT d k A As' xx r s.heap.size h4) (xm_Pc_blind (tb_G1 st_Z1)) (fun U hU hW => ⟨rfl, ⟨hN0, by rw [hU]⟩, by rw [hU]; exact hP, va_K.moved hW.alike hK, hD, tb_G2 st_Z2 s U s.heap [] hG.1 hS0 hU hW⟩) (Nat.le_refl _) (Nat.le_refl _) (Nat.le_refl _) (Nat.le_refl _) hl'.1 hK hP hfx hkx
    (by
      have e1 : c.exceptionTable.toList.map ct_q = hl_h j := g5
      rw [e1]
      exact hl_ct hlI hlS q1 q2 _ h6) (fun a H1 z1 z2 => ?_)
  have hP1 : va_P D tb_cl (xm_w tys r A) H1 := hP.kept (fun k q hk => z2 q.1 (hP k q hk).lt)
  have hS1 : va_S (xm_ad r A.length s.heap.size) s.heap H1 [] := ⟨z1, fun q hq _ => z2 q hq, fun q hq => by cases hq⟩
  refine xm_sr_ok (r := fun _ => a) (ls' := ls') (st' := [.int rc]) B.exec B.bytes (fun lsR2 hl2 => ?_) f2 hpc [] [.ref 0] lsR' h7 ⟨hl'.1, hl'.2.1, fun q hq => by cases hq⟩
  exact xm_re_ok (r := fun _ => a) (v := some (.int rc)) (ret := some .int) B.exec B.bytes (by simp [xm_re, narrow]) h8 B.returns B.notSynchronized (fun t ht hW => ⟨⟨r, xm_ag.rf, fun _ => rfl, rfl, by rw [ht]; exact hP1, hD'⟩, hS1.F ht⟩) (fun q hq => by cases hq)
end HTB
