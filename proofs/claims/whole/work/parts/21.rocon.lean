/-! Contracts by read-only runs: a method that returns and changes nothing; a method that throws. -/
def tb_eo (F : Nat) : Nat → Nat → xm_H → List Value → Option (Option Value ⊕ Nat)
  | 0, _, _, _ => none
  | d + 1, k, A, As => if tb_mok k = true ∧ (lg_sl As).length ≤ tb_mL k then xm_rr (tb_eo F d) (tb_th k) tb_tt (tb_fr (tb_oc k)) tb_oc (tb_cr (tb_oc k)) (tb_mb k) (tb_mL k) (tb_mr k) A F 0 (lv_args 0 As) [] else none
/-- the end of a method that threw an exception of the class X: one cell of six slots came, nothing else changed -/
def xm_QT (X : String) : Array Value → State → Outcome → State → Prop := fun _ st oc t => ∃ (a : Nat) (ce : Cell), oc = .threw a ∧ st.WarmedH t.vm ∧ st.sameButNew ({ t with vm := st.vm } : State) [] 1 6 ∧ t.heap[a]? = some ce ∧ st.vm.findClass X = some ce.cls ∧ ce.vm = .none
section ROA
variable {F : Nat} {l : Launch} {D : va_G} {tys : xm_T} {N0 : Nat} {adK adV : Nat → Nat}
set_option maxHeartbeats 4000000 in
theorem tb_eo_ret (hTT : xm_TT tb_tt tys) : ∀ (d k : Nat) (A : xm_H) (As : List Value) (v : Option Value) (r : Nat → Nat) (sz : Nat), tb_eo F d k A As = some (.inl v) →
    Met l (tb_my k) (xm_ws tb_gd tb_my tb_mb tb_mL tb_mr k) (xm_rm d 0 0) (xm_Pc D tb_cl tys N0 (tb_G (st_Z N0 adK adV)) r A sz As) (st_Q (v.map (xm_v r))) 0 0 (fun _ => False) := by
  intro d
  induction d with
  | zero => intro k A As v r sz h; cases h
  | succ d ih =>
    intro k A As v r sz h
    rw [tb_eo] at h
    obtain ⟨⟨hok, hlen⟩, h⟩ := xm_if h
    obtain ⟨-, -, -, -, -, -, hpl, -⟩ := tb_own hok
    refine Met.ofW (cc := tb_mb k) (maxL := tb_mL k) (ret := tb_mr k) hpl rfl ?_
    intro p e s m args below meth c s₁ B hml hv
    obtain ⟨rfl, ⟨hN0, hsz⟩, hP, hK, hD, hG⟩ := hv
    subst hsz
    have hts := atoms_spec (ws := xm_ws tb_gd tb_my tb_mb tb_mL tb_mr k) B.pre
    have hown : s.vm.findClass (tb_my k).cls = some m.cls := findClass_of_methodNamed B.named
    obtain ⟨hFR, hNR, hQR, hTA, hCR⟩ := tb_SF (st_Z N0 adK adV) k _ s hok hts hG
    have S : CallFix p m c (tb_mb k) (tb_mL k) s (As.map (xm_v r)).toArray (xm_ws tb_gd tb_my tb_mb tb_mL tb_mr k) (tb_my k).cls := ⟨B.exec, B.bytes, hml, hown, hts⟩
    have hl := lv_entry (As.map (xm_v r)) (n := tb_mL k) (by rw [xm_sl_m]; exact hlen)
    rw [lg_entry_eq]
    generalize (lg_sl (As.map (xm_v r)) ++ List.replicate (tb_mL k - (lg_sl (As.map (xm_v r))).length) Slot.unset).toArray = ls at hl ⊢
    rw [xm_args_m] at hl
    have hS0 : va_S (fun q => N0 ≤ q) s.heap s.heap [] := va_S.rf
    refine xm_rr_ok (d := d) (r := r) (A := A) (o := .inl v) (Pk := fun As => xm_Pc D tb_cl tys N0 (tb_G (st_Z N0 adK adV)) r A s.heap.size As) S hFR hTT hCR (fun w hw => List.mem_cons_of_mem _ hw) tb_good (fun k' As' v' hc => ih k' A As' v' r s.heap.size hc) (fun As' => xm_Pc_blind (tb_G1 st_Z1)) (fun As' U hU hW => ⟨rfl, ⟨hN0, by rw [hU]⟩, by rw [hU]; exact hP, va_K.moved hW.alike hK, hD, tb_G2 st_Z2 s U s.heap [] hG hS0 hU hW⟩) (Nat.le_refl _) (Nat.le_refl _) hK hP ?_ ?_ F 0 (lv_args 0 As) [] ls h hl
    · intro v' hv' i n pc st lsR hdg hre
      cases hv'
      exact xm_re_ok B.exec B.bytes hre hdg B.returns B.notSynchronized (fun t ht hW => ⟨rfl, ht⟩) (fun q hq => by cases hq)
    · intro x hx
      cases hx
theorem th_find {si : Nat} (h : st_own.any (fun z => z.1 == "ConditionDesk" && z.2.1 == si) = true) : ∃ (j : Nat) (tx : String), st_own[j]? = some ("ConditionDesk", si, tx) := by
  obtain ⟨z, hz, h1⟩ := List.any_eq_true.mp h
  obtain ⟨j, hj⟩ := List.getElem?_of_mem hz
  obtain ⟨z1, z2, z3⟩ := z
  simp only [Bool.and_eq_true, beq_iff_eq] at h1
  obtain ⟨rfl, rfl⟩ := h1
  exact ⟨j, z3, hj⟩
theorem th_fit1 : Jvm.Bundle.fit "java/lang/IllegalArgumentException" = true := by decide +kernel
theorem th_fit2 : Jvm.Bundle.fit "java/lang/IllegalStateException" = true := by decide +kernel
theorem th_fitU : ∀ n ∈ th_up, Jvm.Bundle.fit n = true := by decide +kernel
set_option maxRecDepth 100000 in
theorem th_rl {d a : Nat} (h : a ≤ 8) : a + 1 + (13 * (2 + 1) + 42) ≤ 64 * (d + 1) + 2000 := by omega
set_option maxHeartbeats 4000000 in
theorem tb_eo_thr (hfl : l.flags = flags0) (hTT : xm_TT tb_tt tys) (d k : Nat) (A : xm_H) (As : List Value) (x : Nat) (r : Nat → Nat) (sz : Nat) (h : tb_eo F (d + 1) k A As = some (.inr x)) :
    MetFree l (tb_my k) (headSpec (xm_ws tb_gd tb_my tb_mb tb_mL tb_mr k) (xm_rm (d + 1) 1 6)) (xm_Pc D tb_cl tys N0 (tb_G (st_Z N0 adK adV)) r A sz As) (fun _ _ _ _ _ => True) (xm_QT (th_X x)) := by
  rw [tb_eo] at h
  obtain ⟨⟨hok, hlen⟩, h⟩ := xm_if h
  obtain ⟨-, -, hcls, -, -, -, hpl, -⟩ := tb_own hok
  refine MetFree.of_bodyS (code := tb_mb k) (maxLocals := tb_mL k) (ret := tb_mr k) hpl ?_ ?_
  · intro args s m h hn
    obtain ⟨meth, c, h1, h2, h3, h4, h5, h6, -, -⟩ := Cond.code_spec hn (atoms_spec (ws := xm_ws tb_gd tb_my tb_mb tb_mL tb_mr k) h _ List.mem_cons_self)
    exact ⟨meth, c, h1, h2, h3, h4, h5, h6⟩
  · intro p e s m args below meth c s₁ B hml hv _
    obtain ⟨rfl, ⟨hN0, hsz⟩, hP, hK, hD, hG⟩ := hv
    subst hsz
    have hts := atoms_spec (ws := xm_ws tb_gd tb_my tb_mb tb_mL tb_mr k) B.pre
    have hgd : ∀ w ∈ tb_gd, w.before (As.map (xm_v r)).toArray s = true := fun w hw => hts w (List.mem_cons_of_mem _ hw)
    have hown : s.vm.findClass (tb_my k).cls = some m.cls := findClass_of_methodNamed B.named
    obtain ⟨hFR, hNR, hQR, hTA, hCR⟩ := tb_SF (st_Z N0 adK adV) k _ s hok hts hG
    have S : CallFix p m c (tb_mb k) (tb_mL k) s (As.map (xm_v r)).toArray (xm_ws tb_gd tb_my tb_mb tb_mL tb_mr k) (tb_my k).cls := ⟨B.exec, B.bytes, hml, hown, hts⟩
    have hexc : c.exceptionTable.isEmpty = true := B.noHandlers (hts _ List.mem_cons_self)
    have htr : e.platform.stackTraces = false := Launch.traces_off hfl B.admits
    have hh0 : s₁.heap = s.heap := by rw [B.state]; rfl
    have hS0 : va_S (fun q => N0 ≤ q) s.heap s.heap [] := va_S.rf
    have key : W p l e (xm_rm (d + 1) 1 6) s m (As.map (xm_v r)).toArray below meth c s.heap [] 0 0 (fun t => ∃ o, t.status = .running ∧ Ended t below o ∧ xm_QT (th_X x) (As.map (xm_v r)).toArray s o t) (entryFrame m (As.map (xm_v r)).toArray (tb_mL k)) := by
      have hl := lv_entry (As.map (xm_v r)) (n := tb_mL k) (by rw [xm_sl_m]; exact hlen)
      rw [lg_entry_eq]
      generalize (lg_sl (As.map (xm_v r)) ++ List.replicate (tb_mL k - (lg_sl (As.map (xm_v r))).length) Slot.unset).toArray = ls at hl ⊢
      rw [xm_args_m] at hl
      refine xm_rr_ok (d := d) (r := r) (A := A) (o := .inr x) (Pk := fun As => xm_Pc D tb_cl tys N0 (tb_G (st_Z N0 adK adV)) r A s.heap.size As) S hFR hTT hCR (fun w hw => List.mem_cons_of_mem _ hw) tb_good (fun k' As' v' hc => tb_eo_ret hTT d k' A As' v' r s.heap.size hc) (fun As' => xm_Pc_blind (tb_G1 st_Z1)) (fun As' U hU hW => ⟨rfl, ⟨hN0, by rw [hU]⟩, by rw [hU]; exact hP, va_K.moved hW.alike hK, hD, tb_G2 st_Z2 s U s.heap [] hG hS0 hU hW⟩) (Nat.le_refl _) (Nat.le_refl _) hK hP ?_ ?_ F 0 (lv_args 0 As) [] ls h hl
      · intro v' hv'
        cases hv'
      · intro x' hx' pc st lsR hth hsz hcat
        cases hx'
        obtain ⟨⟨⟨k0, pc0⟩, x0, ni, si, ii⟩, hm, hp, hxx⟩ := tb_find hth
        obtain ⟨rfl, rfl⟩ := tb_key hp
        dsimp only at hxx
        subst hxx
        obtain ⟨d0, d3, d4, d6, d9⟩ := th_dA _ hm
        obtain ⟨hs1, hs2, hs3⟩ := th_sA _ hm
        dsimp only at d0 d3 d4 d6 d9 hs1 hs2 hs3
        obtain ⟨j, tx, hj⟩ := th_find hs1
        have hR := hG.2.2.2.2.2.1 j _ hj
        dsimp only at hR
        have hcl8 : (tb_my k0).cls = "ConditionDesk" := by rw [hcls, hs2]; rfl
        have hc8 : xm_cat (st.map (xm_v r)) ≤ 8 := Nat.le_trans (Nat.le_of_eq (xm_cat_m r st)) hcat
        rcases hs3 with ⟨rfl, rfl, rfl⟩ | ⟨rfl, rfl, rfl⟩
        · exact th_walk (own := (tb_my k0).cls) (X := "java/lang/IllegalArgumentException") (names := th_up) B.exec B.bytes hml hown B.notSynchronized hexc htr hsz d0 d3 d4 d6 d9 (by rw [hcl8]; exact hgd _ th_c1) (hgd _ th_i1) (hgd _ th_n1) (by rw [hcl8]; exact hR) (fun w hw => th_hat hgd hG (th_a1 w (by rw [← hcl8]; exact hw))) th_fit1 th_fitU (by show 2 + 3 < d + 1 + 20; omega) (th_rl hc8) (Nat.le_refl _) (Nat.le_refl _)
            (fun U a ce u1 u2 u3 u4 u5 u6 u7 => ⟨_, u1, u2, a, ce, rfl, u3, u4, u5, u6, u7⟩)
        · exact th_walk (own := (tb_my k0).cls) (X := "java/lang/IllegalStateException") (names := th_up) B.exec B.bytes hml hown B.notSynchronized hexc htr hsz d0 d3 d4 d6 d9 (by rw [hcl8]; exact hgd _ th_c2) (hgd _ th_i2) (hgd _ th_n2) (by rw [hcl8]; exact hR) (fun w hw => th_hat hgd hG (th_a2 w (by rw [← hcl8]; exact hw))) th_fit2 th_fitU (by show 2 + 3 < d + 1 + 20; omega) (th_rl hc8) (Nat.le_refl _) (Nat.le_refl _)
            (fun U a ce u1 u2 u3 u4 u5 u6 u7 => ⟨_, u1, u2, a, ce, rfl, u3, u4, u5, u6, u7⟩)
    obtain ⟨t, a1, o, b1, b2, b3⟩ := key s₁ hh0 (Stand.of_body B)
    exact ⟨t, o, a1, b1, b2, b3⟩
end ROA
