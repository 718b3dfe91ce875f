/-! The law's seven helpers: what each does, by a run of its body, or by a throw that it catches. -/
def tb_ex (F d : Nat) : Nat → xm_H → List Value → Option xm_R := xm_ex F tb_xt tb_cl tb_tt tb_ft tb_fr tb_ini tb_nr tb_qr tb_ta tb_oc tb_cr tb_mb tb_mL tb_mr tb_mok d
theorem tb_clN : ∀ ci ∈ List.range 10, (tb_cl[ci]?).map (fun q => q.1) = some (tb_nm ci) := by decide +kernel
theorem tb_clM {ci : Nat} {q : vw_C} (h : tb_cl[ci]? = some q) : q.1 = tb_nm ci := by
  have hl : ci < 10 := (List.getElem?_eq_some_iff.mp h).1
  have h1 := tb_clN ci (List.mem_range.mpr hl)
  rw [h] at h1
  exact Option.some.inj h1
theorem tb_NI {k ci : Nat} (hk : tb_mok k = true) (h : tb_ini k = some ci) : (tb_my k).name = "<init>" ∧ ∀ q, tb_cl[ci]? = some q → q.1 = (tb_my k).cls := by
  refine ⟨(tb_own hk).2.2.2.2.2.2.2 ci h, fun q hq => ?_⟩
  rw [(tb_own hk).2.2.1, tb_clM hq]
  unfold tb_ini at h
  split at h
  · rw [Option.some.inj h]
  · cases h
section HLA
variable {F : Nat} {l : Launch} {D : va_G} {tys : xm_T} {N0 : Nat} {adK adV : Nat → Nat}
theorem tb_ex_ok (hTT : xm_TT tb_tt tys) (d k : Nat) (A : xm_H) (As : List Value) (A' : xm_H) (v : Option Value) (c1 s1 : Nat) (r : Nat → Nat) (hr0 : ∀ j, xm_K0 ≤ j → r j = adK (j - xm_K0)) (h : tb_ex F d k A As = some (A', .inl v, c1, s1)) (sz : Nat) :
    Met l (tb_my k) (xm_ws tb_gd tb_my tb_mb tb_mL tb_mr k) (xm_rm d c1 s1) (xm_Pc D tb_cl tys N0 (tb_G (st_Z N0 adK adV)) r A sz As) (xm_Q D tb_cl tys r A.length sz A' v) c1 s1 (xm_ad r A.length sz) :=
  xm_ex_ok (lt := fun j => adK (j - xm_K0)) tb_CL hTT (tb_SF _) tb_good (fun k hk => (tb_own hk).2.2.2.2.2.2.1) (fun k ci hk h => tb_NI hk h) (tb_G1 st_Z1) (tb_G2 st_Z2) (fun k i n st A st' A' h => tb_xo_len h) (fun k d c1 s1 p e s m args below meth c Q Ad hk hAd S hG hK hN0 => tb_XT hTT hk hAd S hG hK hN0) d k A As A' v c1 s1 r hr0 h sz
end HLA

set_option maxHeartbeats 4000000 in
/-- the tables of an owner's pool -/
theorem tb_SFo (Z : State → Prop) (o : Nat) (own : String) (hcls : own = tb_nm o) (args : Array Value) (s : State) (Ts : List Cond) (hsub : ∀ w ∈ tb_gd, w ∈ Ts) (hgd : ∀ w ∈ tb_gd, w.before args s = true) (hG : tb_G Z s) :
    xm_FR tb_cl Ts own args s (tb_fr o) ∧ xm_NR tb_cl Ts own args s (tb_nr o) ∧ xm_QR tb_tt own args s (tb_qr o) ∧ xm_TA args s tb_ta ∧ xm_CR own args s tb_gd tb_my tb_mb tb_mL tb_mr tb_cl tb_oc (tb_cr o) := by
  have hat : ∀ {i : Nat} {w : Cond}, lw_tbl[i]? = some w → goodWord w = true → w.before args s = true := fun h hg => hgd _ (tb_gd_in h hg)
  refine ⟨?_, ?_, ?_, ?_, ?_⟩
  · intro x ci kk b h
    obtain ⟨⟨⟨o', x'⟩, v, i⟩, hm, hp, rfl⟩ := tb_find h
    obtain ⟨rfl, rfl⟩ := tb_key hp
    have hc := tb_frA _ hm
    simp only [tb_frC] at hc
    split at hc
    · rename_i c hcl
      obtain ⟨C, T, N⟩ := c
      simp only [Bool.and_eq_true, decide_eq_true_eq] at hc
      obtain ⟨h1, h2⟩ := hc
      refine ⟨C, T, N, hcl, h1, fun w hw => hsub _ (tb_cl_ws hcl w hw), fun hb => ?_, fun hb => ?_⟩
      · subst hb
        rw [hcls]
        exact hat h2 rfl
      · subst hb
        rw [hcls]
        exact ⟨_, va_Nw.use rfl (hG.1 _ (List.mem_of_getElem? h2) rfl)⟩
    · cases hc
  · intro x ci h C T N hcl
    obtain ⟨⟨⟨o', x'⟩, v, i⟩, hm, hp, rfl⟩ := tb_find h
    obtain ⟨rfl, rfl⟩ := tb_key hp
    have hc := tb_nrA _ hm
    simp only [tb_nrC] at hc
    split at hc
    · rename_i c n hcl2 hn
      have e9 := Option.some.inj (hcl2.symm.trans hcl)
      subst e9
      simp only [Bool.and_eq_true, decide_eq_true_eq] at hc
      obtain ⟨h1, h2, h3⟩ := hc
      refine ⟨fun w hw => hsub _ (tb_cl_ws hcl w hw), ?_, hat h2 rfl, hat h3 rfl⟩
      rw [hcls]
      exact hat h1 rfl
    · cases hc
  · intro x t h
    obtain ⟨⟨⟨o', x'⟩, i⟩, hm, hp, rfl⟩ := tb_find h
    obtain ⟨rfl, rfl⟩ := tb_key hp
    have hc : ∀ q ∈ tb_qrL, lw_tbl[q.2]? = some (Cond.classLink (tb_nm q.1.1) q.1.2 "ConditionDesk$Condition") := by decide +kernel
    refine ⟨"ConditionDesk$Condition", rfl, ?_, hG.2.1⟩
    rw [hcls]
    exact hat (hc _ hm) rfl
  · intro a t h
    have h0 : Cond.arrayClass .int ∈ lw_tbl ∧ Cond.arrayClass .long ∈ lw_tbl ∧ Cond.arrayClass .char ∈ lw_tbl ∧ Cond.arrayClass .boolean ∈ lw_tbl := by decide +kernel
    have hmem : ∀ {w : Cond}, w ∈ lw_tbl → goodWord w = true → w.before args s = true := fun h1 h2 => hgd _ (List.mem_filter.mpr ⟨h1, h2⟩)
    cases a <;> first | exact hmem h0.1 rfl | exact hmem h0.2.1 rfl | exact hmem h0.2.2.1 rfl | exact hmem h0.2.2.2 rfl | cases h
  · intro x kd k' b na h
    obtain ⟨⟨⟨o', x'⟩, v, i⟩, hm, hp, hv⟩ := tb_find h
    obtain ⟨rfl, rfl⟩ := tb_key hp
    dsimp only at hv
    subst hv
    have hc := tb_crA _ hm
    have hd := tb_crB _ hm
    simp only [tb_crC, Bool.and_eq_true, decide_eq_true_eq] at hc
    obtain ⟨hk1, h2, h3, h4, h5⟩ := hc
    have hk1 : k' < 136 := hk1
    obtain ⟨-, hin, -, hL, hm1, hm2, -, -⟩ := tb_own (k := k') (decide_eq_true hk1)
    refine ⟨tb_gd_in (tb_mA k' hk1) rfl, hL, ⟨hm1, hm2⟩, h3, hat hin rfl, fun hb => ?_, fun hb => ?_, fun hkd => ?_, fun hkd => ?_, fun hkd => ?_⟩
    · subst hb
      rw [hcls]
      exact hat h2 rfl
    · subst hb
      rw [hcls]
      exact ⟨_, va_Nw.use rfl (hG.1 _ (List.mem_of_getElem? h2) rfl)⟩
    · subst hkd
      simp only [tb_crD, Bool.and_eq_true, decide_eq_true_eq] at hd
      obtain ⟨d1, d2, d3⟩ := hd
      refine ⟨hat d1 rfl, hat d2 rfl, ?_⟩
      cases hq : tb_cl[tb_oc k']? with
      | none => rw [hq] at d3; cases d3
      | some q => rw [hq] at d3; exact ⟨q, rfl, Option.some.inj d3⟩
    · subst hkd
      simp only [tb_crD, decide_eq_true_eq] at hd
      exact hat hd rfl
    · subst hkd
      simp only [tb_crD, Bool.and_eq_true, decide_eq_true_eq] at hd
      exact ⟨h4.mp rfl, hat hd.1 rfl, hd.2⟩

def hl_t : List (MethodName × ByteArray × Nat × List (Nat × Nat × Nat × Nat)) := [(⟨"ConditionDeskLaw", "compile", "(LConditionDesk;I[J)I"⟩, method_3_code, 4, [(0, 9, 12, 13)]), (⟨"ConditionDeskLaw", "drop", "(LConditionDesk;I[J)I"⟩, method_4_code, 4, [(0, 16, 19, 13)]), (⟨"ConditionDeskLaw", "set", "(LConditionDesk;II)I"⟩, method_5_code, 4, [(0, 6, 9, 13)]), (⟨"ConditionDeskLaw", "poke", "(LConditionDesk;II)I"⟩, method_6_code, 4, [(0, 6, 9, 13)]), (⟨"ConditionDeskLaw", "ignore", "(LConditionDesk;II[J)I"⟩, method_7_code, 5, [(0, 10, 13, 13), (0, 10, 17, 30)]), (⟨"ConditionDeskLaw", "ask", "(LConditionDesk;I[J)I"⟩, method_8_code, 4, [(0, 9, 12, 13), (0, 9, 15, 30)]), (⟨"ConditionDeskLaw", "about", "(LConditionDesk;II[J)I"⟩, method_9_code, 5, [(0, 9, 12, 13), (0, 9, 16, 30)])]
def hl_0 : MethodName × ByteArray × Nat × List (Nat × Nat × Nat × Nat) := (⟨"", "", ""⟩, ⟨#[]⟩, 0, [])
def hl_y (j : Nat) : MethodName := (hl_t.getD j hl_0).1
def hl_b (j : Nat) : ByteArray := (hl_t.getD j hl_0).2.1
def hl_L (j : Nat) : Nat := (hl_t.getD j hl_0).2.2.1
def hl_h (j : Nat) : List (Nat × Nat × Nat × Nat) := (hl_t.getD j hl_0).2.2.2
def hl_ws (j : Nat) : List Cond := Cond.codeWith (hl_y j) (hl_b j) (hl_L j) (some .int) (hl_h j) :: tb_gd
set_option maxRecDepth 200000 in
theorem hl_c0 : Cond.codeWith (hl_y 0) (hl_b 0) (hl_L 0) (some .int) (hl_h 0) ∈ tb_gd := tb_gd_in (i := 447) rfl rfl
set_option maxRecDepth 200000 in
theorem hl_c1 : Cond.codeWith (hl_y 1) (hl_b 1) (hl_L 1) (some .int) (hl_h 1) ∈ tb_gd := tb_gd_in (i := 749) rfl rfl
set_option maxRecDepth 200000 in
theorem hl_c2 : Cond.codeWith (hl_y 2) (hl_b 2) (hl_L 2) (some .int) (hl_h 2) ∈ tb_gd := tb_gd_in (i := 756) rfl rfl
set_option maxRecDepth 200000 in
theorem hl_c3 : Cond.codeWith (hl_y 3) (hl_b 3) (hl_L 3) (some .int) (hl_h 3) ∈ tb_gd := tb_gd_in (i := 768) rfl rfl
set_option maxRecDepth 200000 in
theorem hl_c4 : Cond.codeWith (hl_y 4) (hl_b 4) (hl_L 4) (some .int) (hl_h 4) ∈ tb_gd := tb_gd_in (i := 780) rfl rfl
set_option maxRecDepth 200000 in
theorem hl_c5 : Cond.codeWith (hl_y 5) (hl_b 5) (hl_L 5) (some .int) (hl_h 5) ∈ tb_gd := tb_gd_in (i := 805) rfl rfl
set_option maxRecDepth 200000 in
theorem hl_c6 : Cond.codeWith (hl_y 6) (hl_b 6) (hl_L 6) (some .int) (hl_h 6) ∈ tb_gd := tb_gd_in (i := 812) rfl rfl
theorem hl_cw : ∀ j, j < 7 → Cond.codeWith (hl_y j) (hl_b j) (hl_L j) (some .int) (hl_h j) ∈ tb_gd
  | 0, _ => hl_c0
  | 1, _ => hl_c1
  | 2, _ => hl_c2
  | 3, _ => hl_c3
  | 4, _ => hl_c4
  | 5, _ => hl_c5
  | 6, _ => hl_c6
  | j + 7, h => absurd h (by omega)
theorem hl_cls : ∀ j, j < 7 → (hl_y j).cls = "ConditionDeskLaw" := by
  intro j hj
  have h : ∀ j ∈ List.range 7, (hl_y j).cls = "ConditionDeskLaw" := by decide +kernel
  exact h j (List.mem_range.mpr hj)
theorem hl_nm : "ConditionDeskLaw" = tb_nm 10 := by decide +kernel
theorem hl_pl : plainName "ConditionDeskLaw" = true := by decide +kernel
/-- no exception of one class is one of the other -/
def ct_N (U : State) : Prop := ∃ c t, U.vm.findClass "java/lang/IllegalStateException" = some c ∧ U.vm.findClass "java/lang/IllegalArgumentException" = some t ∧ U.vm.assignable c t = false
theorem ct_N.moved {u U : State} (h : u.vm.Alike U.vm) (hN : ct_N u) : ct_N U := by
  obtain ⟨c, t, h1, h2, h3⟩ := hN
  exact ⟨c, t, by rw [h.findClass]; exact h1, by rw [h.findClass]; exact h2, by rw [h.assignable]; exact h3⟩
def hl_G (N0 : Nat) (adK adV : Nat → Nat) (U : State) : Prop := tb_G (st_Z N0 adK adV) U ∧ ct_N U
theorem hl_G1 {N0 : Nat} {adK adV : Nat → Nat} (U : State) (g : JFrame) (mk : MethodId) (a : Array Value) (h : hl_G N0 adK adV U) : hl_G N0 adK adV (U.calling g mk a) := ⟨tb_G1 st_Z1 U g mk a h.1, ct_N.moved (u := U) (U := U.calling g mk a) (Vm.Alike.refl U.vm) h.2⟩
theorem hl_G2 {N0 : Nat} {adK adV : Nat → Nat} (s U : State) (H1 : Heap) (locs1 : List Loc) (h : hl_G N0 adK adV s) (hS : va_S (fun q => N0 ≤ q) s.heap H1 locs1) (hU : U.heap = H1) (hW : s.WarmedH U.vm) : hl_G N0 adK adV U := ⟨tb_G2 st_Z2 s U H1 locs1 h.1 hS hU hW, ct_N.moved hW.alike h.2⟩
def xm_t0 : Jvm.ClassFile.Instr → Nat → List Value → xm_H → xm_P := fun _ _ _ _ => none
/-- a helper's body, where its callee returns -/
def hl_rn (F d j : Nat) (A : xm_H) (As : List Value) : Option xm_R := if (lg_sl As).length ≤ hl_L j then xm_rn (tb_ex F d) xm_t0 xm_x0 tb_cl tb_tt tb_ft (tb_fr 10) none (tb_nr 10) (tb_qr 10) tb_ta tb_oc (tb_cr 10) (hl_b j) (hl_L j) (some .int) F 0 (lv_args 0 As) [] A 0 0 else none
section HLB
variable {F : Nat} {l : Launch} {D : va_G} {tys : xm_T} {N0 : Nat} {adK adV : Nat → Nat}
set_option maxHeartbeats 4000000 in
theorem hl_ret (hTT : xm_TT tb_tt tys) (d j : Nat) (hj : j < 7) (A : xm_H) (As : List Value) (A' : xm_H) (v : Option Value) (c1 s1 : Nat) (r : Nat → Nat) (hr0 : ∀ j, xm_K0 ≤ j → r j = adK (j - xm_K0)) (h : hl_rn F d j A As = some (A', .inl v, c1, s1)) (sz : Nat) :
    Met l (hl_y j) (hl_ws j) (xm_rm (d + 1) c1 s1) (xm_Pc D tb_cl tys N0 (hl_G N0 adK adV) r A sz As) (xm_Q D tb_cl tys r A.length sz A' v) c1 s1 (xm_ad r A.length sz) := by
  unfold hl_rn at h
  obtain ⟨hlen, h⟩ := xm_if h
  refine va_MetW (cc := hl_b j) (maxL := hl_L j) (ret := some .int) (hh := hl_h j) (by rw [hl_cls j hj]; exact hl_pl) rfl ?_
  intro p e s m args below meth c s₁ B hml hv
  obtain ⟨rfl, ⟨hN0, hsz⟩, hP, hK, hD, hG⟩ := hv
  subst hsz
  have hAdN : ∀ q, xm_ad r A.length s.heap.size q → N0 ≤ q := xm_ad_sub hD (fun q hq => Nat.le_trans hN0 hq)
  have hD' := xm_ad_D s.heap.size hD
  have hts := atoms_spec (ws := hl_ws j) B.pre
  have hgd : ∀ w ∈ tb_gd, w.before (As.map (xm_v r)).toArray s = true := fun w hw => hts w (List.mem_cons_of_mem _ hw)
  have hown : s.vm.findClass "ConditionDeskLaw" = some m.cls := by rw [← hl_cls j hj]; exact findClass_of_methodNamed B.named
  obtain ⟨hFR, hNR, hQR, hTA, hCR⟩ := tb_SFo (st_Z N0 adK adV) 10 "ConditionDeskLaw" hl_nm (As.map (xm_v r)).toArray s (hl_ws j) (fun w hw => List.mem_cons_of_mem _ hw) hgd hG.1
  have S : CallFix p m c (hl_b j) (hl_L j) s (As.map (xm_v r)).toArray (hl_ws j) "ConditionDeskLaw" := ⟨B.exec, B.bytes, hml, hown, hts⟩
  have hNI' : xm_NI tb_cl "ConditionDeskLaw" meth none := fun ci hci => by cases hci
  have hl := lv_entry (As.map (xm_v r)) (n := hl_L j) (by rw [xm_sl_m]; exact hlen)
  rw [lg_entry_eq]
  generalize (lg_sl (As.map (xm_v r)) ++ List.replicate (hl_L j - (lg_sl (As.map (xm_v r))).length) Slot.unset).toArray = ls at hl ⊢
  rw [xm_args_m] at hl
  have hS : va_S (xm_ad r A.length s.heap.size) s.heap s.heap [] := va_S.rf
  refine xm_rn_ok (lt := fun j => adK (j - xm_K0)) (G := tb_G (st_Z N0 adK adV)) (d := d) (r0 := r) (n0 := A.length) (R := xm_rm (d + 1) c1 s1) (Ts := hl_ws j) S tb_CL hFR hNI' hTT hNR hQR hTA hCR (fun w hw => List.mem_cons_of_mem _ hw) tb_good (tb_G1 st_Z1) (fun H1 locs1 U a b c9 => tb_G2 st_Z2 s U H1 locs1 hG.1 (xm_SN hAdN a) b c9) (xm_ex_mono (fun k i n st A st' A' h => tb_xo_len h) d) hr0 (tb_ex_ok hTT d) (fun _ _ _ _ _ _ h => by cases h) (fun _ _ _ _ _ _ _ _ _ _ _ _ _ _ h => by cases h) (fun _ _ _ _ _ _ _ _ h => by cases h) (fun _ _ _ _ _ _ _ _ _ _ _ _ _ _ _ _ h => by cases h) (Nat.le_refl _) (Nat.le_refl _) (Nat.le_refl _) (Nat.le_refl _) hN0 (fun q hq => Or.inr hq) hAdN hK ?_ F 0 (lv_args 0 As) [] A 0 0 r s.heap [] ls h (Nat.le_refl _) xm_ag.rf (fun _ => rfl) hl hP hD' hS
  · intro v' hv' i n pc st r' H locs lsR hdg hre hag hre2 hP' hD' hS'
    cases hv'
    exact xm_re_ok B.exec B.bytes hre hdg B.returns B.notSynchronized (fun t ht hW => ⟨⟨r', hag, hre2, rfl, by rw [ht]; exact hP', hD'⟩, hS'.F ht⟩) hS'.2.2
end HLB
