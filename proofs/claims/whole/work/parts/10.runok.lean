/-! A run of the abstract machine is a walk of the machine. -/
theorem xm_okS_s {A : xm_H} {ls : xm_L} {st : List Value} (h : xm_okS A ls st = true) : A.all (xm_okE A.length) = true ∧ ls.all (fun q => xm_okV A.length q.2) = true ∧ st.all (xm_okV A.length) = true ∧ A.length < xm_K0 := by
  simp only [xm_okS, Bool.and_eq_true, decide_eq_true_eq] at h
  exact ⟨h.1, h.2.1, h.2.2.1, h.2.2.2⟩
section XM9
variable {p : Program} {l : Launch} {e : Env} {R : Room} {s : State} {m : MethodId} {args : Array Value} {below : List Frame} {meth : Method} {c : Code} {Q : State → Prop}
variable {cc : ByteArray} {nL d : Nat} {Ts gd : List Cond} {own : String} {D : va_G} {tys : xm_T} {N0 : Nat} {Ad : Nat → Prop} {G : State → Prop} {my : Nat → MethodName} {mb : Nat → ByteArray} {mL : Nat → Nat} {mr : Nat → Option FieldType}
variable {call : Nat → xm_H → List Value → Option xm_R} {xt : Jvm.ClassFile.Instr → Nat → List Value → xm_H → xm_P} {xc : Jvm.ClassFile.Instr → Nat → List Value → xm_H → Option (List Value × xm_H × Nat × Nat)}
variable {cl : List vw_C} {tt : List FieldType} {ft : Nat → Nat → FieldType} {fr : Nat → Option (Nat × Nat × Bool)} {ini : Option Nat} {nr qr : Nat → Option Nat} {ta : Jvm.ClassFile.ArrayType → Option Nat} {oc : Nat → Nat} {cr : Nat → Option (Nat × Nat × Bool × Nat)} {ret : Option FieldType}
variable {A' : xm_H} {o : Option Value ⊕ Nat} {nc' ns' n0 : Nat} {r0 lt : Nat → Nat}
/-- what an intrinsic step must do -/
def xm_XT (p : Program) (l : Launch) (e : Env) (R : Room) (s : State) (m : MethodId) (args : Array Value) (below : List Frame) (meth : Method) (c : Code) (Q : State → Prop) (cc : ByteArray) (nL : Nat) (D : va_G) (cl : List vw_C) (tys : xm_T) (Ad : Nat → Prop) (lt : Nat → Nat) (xt : Jvm.ClassFile.Instr → Nat → List Value → xm_H → xm_P) : Prop :=
  ∀ (i : Jvm.ClassFile.Instr) (n pc : Nat) (st : List Value) (A : xm_H) (st' : List Value) (A' : xm_H) (r : Nat → Nat) (H : Heap) (locs : List Loc) (lsR : Array Slot) (cells slots : Nat), (∀ j, xm_K0 ≤ j → r j = lt j) → xt i n st A = some (st', A') → decode cc pc = .ok (i, n) → lsR.size = nL → cells ≤ R.cells → slots ≤ R.slots →
    va_P D cl (xm_w tys r A) H → va_D Ad (xm_w tys r A) → va_S Ad s.heap H locs →
    (∀ H1 locs1, va_P D cl (xm_w tys r A') H1 → va_D Ad (xm_w tys r A') → va_S Ad s.heap H1 locs1 → W p l e R s m args below meth c H1 locs1 cells slots Q (F0 m (pc + n) lsR (st'.map (xm_v r)))) →
    W p l e R s m args below meth c H locs cells slots Q (F0 m pc lsR (st.map (xm_v r)))
/-- what a costly step must do: cells and slots are spent, the heap's length stays -/
def xm_XC (p : Program) (l : Launch) (e : Env) (R : Room) (s : State) (m : MethodId) (args : Array Value) (below : List Frame) (meth : Method) (c : Code) (Q : State → Prop) (cc : ByteArray) (nL : Nat) (D : va_G) (cl : List vw_C) (tys : xm_T) (Ad : Nat → Prop) (lt : Nat → Nat) (xc : Jvm.ClassFile.Instr → Nat → List Value → xm_H → Option (List Value × xm_H × Nat × Nat)) : Prop :=
  ∀ (i : Jvm.ClassFile.Instr) (n pc : Nat) (st : List Value) (A : xm_H) (st' : List Value) (A' : xm_H) (c1 s1 : Nat) (r : Nat → Nat) (H : Heap) (locs : List Loc) (lsR : Array Slot) (cells slots : Nat), (∀ j, xm_K0 ≤ j → r j = lt j) → xc i n st A = some (st', A', c1, s1) → decode cc pc = .ok (i, n) → lsR.size = nL → cells + c1 ≤ R.cells → slots + s1 ≤ R.slots →
    va_P D cl (xm_w tys r A) H → va_D Ad (xm_w tys r A) → va_S Ad s.heap H locs →
    (∀ H1 locs1, va_P D cl (xm_w tys r A') H1 → va_D Ad (xm_w tys r A') → va_S Ad s.heap H1 locs1 → W p l e R s m args below meth c H1 locs1 (cells + c1) (slots + s1) Q (F0 m (pc + n) lsR (st'.map (xm_v r)))) →
    W p l e R s m args below meth c H locs cells slots Q (F0 m pc lsR (st.map (xm_v r)))
set_option maxHeartbeats 8000000 in
theorem xm_rn_ok (S : CallFix p m c cc nL s args Ts own) (hCL : xm_CL cl ft) (hFR : xm_FR cl Ts own args s fr) (hNI : xm_NI cl own meth ini) (hTT : xm_TT tt tys) (hNR : xm_NR cl Ts own args s nr) (hQR : xm_QR tt own args s qr) (hTA : xm_TA args s ta) (hCR : xm_CR own args s gd my mb mL mr cl oc cr)
    (hgd : ∀ w ∈ gd, w ∈ Ts) (hgood : ∀ w ∈ gd, goodWord w = true) (hG1 : ∀ (U : State) (g : JFrame) (mk : MethodId) (a : Array Value), G U → G (U.calling g mk a)) (hG2 : ∀ (H1 : Heap) (locs1 : List Loc) (U : State), va_S Ad s.heap H1 locs1 → U.heap = H1 → s.WarmedH U.vm → G U)
    (hcallm : ∀ k A As A' o c1 s1, call k A As = some (A', o, c1, s1) → A.length ≤ A'.length)
    (hr0 : ∀ j, xm_K0 ≤ j → r0 j = lt j) (hcall : ∀ k A As A' v c1 s1 r, (∀ j, xm_K0 ≤ j → r j = lt j) → call k A As = some (A', .inl v, c1, s1) → ∀ sz, Met l (my k) (xm_ws gd my mb mL mr k) (xm_rm d c1 s1) (xm_Pc D cl tys N0 G r A sz As) (xm_Q D cl tys r A.length sz A' v) c1 s1 (xm_ad r A.length sz))
    (hxl : ∀ i n st A st' A', xt i n st A = some (st', A') → A'.length = A.length) (hxt : xm_XT p l e R s m args below meth c Q cc nL D cl tys Ad lt xt) (hxcl : ∀ i n st A st' A' c1 s1, xc i n st A = some (st', A', c1, s1) → A'.length = A.length) (hxc : xm_XC p l e R s m args below meth c Q cc nL D cl tys Ad lt xc)
    (hRf : d + 21 ≤ R.frames) (hRl : 64 * d + 2064 ≤ R.locals) (hRc : nc' ≤ R.cells) (hRs : ns' ≤ R.slots) (hN0 : N0 ≤ s.heap.size) (hAd : ∀ q, s.heap.size ≤ q → Ad q) (hAdN : ∀ q, Ad q → N0 ≤ q) (hK : va_K D cl tys s)
    (hret : ∀ v, o = .inl v → ∀ (i : Jvm.ClassFile.Instr) (n pc : Nat) (st : List Value) (r : Nat → Nat) (H : Heap) (locs : List Loc) (lsR : Array Slot), decode cc pc = .ok (i, n) → xm_re ret i n st = some v → xm_ag n0 r0 r → (A'.length = n0 → r = r0) → va_P D cl (xm_w tys r A') H → va_D Ad (xm_w tys r A') → va_S Ad s.heap H locs → W p l e R s m args below meth c H locs nc' ns' Q (F0 m pc lsR (st.map (xm_v r)))) :
    ∀ (f pc : Nat) (ls : xm_L) (st : List Value) (A : xm_H) (nc ns : Nat) (r : Nat → Nat) (H : Heap) (locs : List Loc) (lsR : Array Slot), xm_rn call xt xc cl tt ft fr ini nr qr ta oc cr cc nL ret f pc ls st A nc ns = some (A', o, nc', ns') → n0 ≤ A.length → xm_ag n0 r0 r → (A.length = n0 → r = r0) → lv_has lsR nL (xm_lm r ls) →
      va_P D cl (xm_w tys r A) H → va_D Ad (xm_w tys r A) → va_S Ad s.heap H locs → W p l e R s m args below meth c H locs nc ns Q (F0 m pc lsR (st.map (xm_v r))) := by
  have hx := S.1
  have hb := S.2.1
  have hown := S.2.2.2.1
  have hts := S.2.2.2.2
  intro f
  induction f with
  | zero => intro pc ls st A nc ns r H locs lsR h; cases h
  | succ f ih =>
    intro pc ls st A nc ns r H locs lsR h hn0 hag hre hl hP hD hS
    have hmono := xm_rn_mono (call := call) (xt := xt) (xc := xc) (cl := cl) (tt := tt) (ft := ft) (fr := fr) (ini := ini) (nr := nr) (qr := qr) (ta := ta) (oc := oc) (cr := cr) (cc := cc) (nL := nL) (ret := ret) hcallm hxl hxcl
    have hrl : ∀ j, xm_K0 ≤ j → r j = lt j := fun j hj => (hag j (Or.inr hj)).trans (hr0 j hj)
    rw [xm_rn] at h
    split at h
    · cases h
    · rename_i i n hdg
      split at h
      · rename_i q hq
        exact xm_pu_ok hx hb hq hdg hl (fun lsR' hl' => ih _ _ _ _ _ _ r H locs lsR' h hn0 hag hre hl' hP hD hS)
      · split at h
        · rename_i q hq
          obtain ⟨b, t, st'⟩ := q
          refine xm_br_ok hx hb hq hdg (fun hbt => ?_) (fun hbf => ?_)
          · rw [if_pos hbt] at h
            exact ih _ _ _ _ _ _ r H locs lsR h hn0 hag hre hl hP hD hS
          · rw [if_neg (by rw [hbf]; exact Bool.false_ne_true)] at h
            exact ih _ _ _ _ _ _ r H locs lsR h hn0 hag hre hl hP hD hS
        · split at h
          · rename_i q hq
            have hlen := xm_hp_len hq
            exact xm_hp_ok hx hb hq hdg hts hown hCL hFR hNI hTT hK hP hD hS (fun H1 locs1 a1 a2 a3 => ih _ _ _ _ _ _ r H1 locs1 lsR h (by rw [hlen]; exact hn0) hag (by rw [hlen]; exact hre) hl a1 a2 a3)
          · split at h
            · rename_i v hv
              simp only [Option.some.injEq, Prod.mk.injEq] at h
              obtain ⟨rfl, rfl, rfl, rfl⟩ := h
              exact hret v rfl i n pc st r H locs lsR hdg hv hag hre hP hD hS
            · split at h
              · rename_i q hq
                obtain ⟨k, As, rest⟩ := q
                split at h
                · rename_i A1 v c1 s1 hc
                  obtain ⟨hok, h⟩ := xm_if h
                  have hm1 := hmono _ _ _ _ _ _ _ _ _ _ _ h
                  have hm2 := hcallm _ _ _ _ _ _ _ hc
                  refine xm_ca_ok S hq hdg hCR hgd hgood hG1 hG2 (hcall _ _ _ _ _ _ _ r hrl hc H.size) hRf hRl (Nat.le_trans hm1.2.1 hRc) (Nat.le_trans hm1.2.2 hRs) hl.1 hN0 hAd hAdN hK hP hD hS (fun r' H1 locs1 b1 b2 a1 a2 a3 => ?_)
                  have el : xm_lm r' ls = xm_lm r ls := by
                    rcases hok with e1 | e1
                    · rw [b2 e1]
                    · exact xm_ag_l b1 (xm_okS_s e1).2.1
                  have es : rest.map (xm_v r') = rest.map (xm_v r) := by
                    rcases hok with e1 | e1
                    · rw [b2 e1]
                    · exact xm_ag_s b1 (xm_okS_s e1).2.2.1
                  have ev : (v.map (xm_v r')).toList ++ rest.map (xm_v r) = (v.toList ++ rest).map (xm_v r') := by
                    rw [List.map_append, es]
                    cases v <;> rfl
                  rw [ev]
                  have hn1 : n0 ≤ A1.length := Nat.le_trans hn0 hm2
                  refine ih _ _ _ _ _ _ r' H1 locs1 lsR h hn1 (hag.trans b1 hn0) (fun e1 => ?_) (by rw [el]; exact hl) a1 a2 a3
                  have e2 : A.length = n0 := Nat.le_antisymm (by rw [← e1]; exact hm2) hn0
                  rw [b2 (e1.trans e2.symm)]
                  exact hre e2
                · cases h
              · split at h
                · rename_i q hq
                  obtain ⟨st', ev, n1⟩ := q
                  obtain ⟨hok, h⟩ := xm_if h
                  obtain ⟨k1, k2, k3, k4⟩ := xm_okS_s hok
                  have hm1 := hmono _ _ _ _ _ _ _ _ _ _ _ h
                  refine xm_nw_ok hx hb hq hdg hts hown hCL hNR hQR hTA hTT k1 k3 k4 hK hP hD hS hAd (Nat.le_trans hm1.2.1 hRc) (Nat.le_trans hm1.2.2 hRs) (fun r' H1 b1 a1 a2 a3 => ?_)
                  refine ih _ _ _ _ _ _ r' H1 locs lsR h ?_ (hag.trans b1 hn0) (fun e1 => ?_) (by rw [xm_ag_l b1 k2]; exact hl) a1 a2 a3
                  · rw [List.length_append]; exact Nat.le_trans hn0 (Nat.le_add_right _ _)
                  · rw [List.length_append] at e1
                    exact absurd e1 (Nat.ne_of_gt (Nat.lt_of_lt_of_le (Nat.lt_succ_of_le hn0) (Nat.le_refl _)))
                · split at h
                  · rename_i q hq
                    obtain ⟨st', A1⟩ := q
                    have hlen := hxl _ _ _ _ _ _ hq
                    have hm1 := hmono _ _ _ _ _ _ _ _ _ _ _ h
                    exact hxt i n pc st A st' A1 r H locs lsR nc ns hrl hq hdg hl.1 (Nat.le_trans hm1.2.1 hRc) (Nat.le_trans hm1.2.2 hRs) hP hD hS (fun H1 locs1 a1 a2 a3 => ih _ _ _ _ _ _ r H1 locs1 lsR h (by rw [hlen]; exact hn0) hag (by rw [hlen]; exact hre) hl a1 a2 a3)
                  · split at h
                    · rename_i q hq
                      obtain ⟨st', A1, c1, s1⟩ := q
                      have hlen := hxcl _ _ _ _ _ _ _ _ hq
                      have hm1 := hmono _ _ _ _ _ _ _ _ _ _ _ h
                      exact hxc i n pc st A st' A1 c1 s1 r H locs lsR nc ns hrl hq hdg hl.1 (Nat.le_trans hm1.2.1 hRc) (Nat.le_trans hm1.2.2 hRs) hP hD hS (fun H1 locs1 a1 a2 a3 => ih _ _ _ _ _ _ r H1 locs1 lsR h (by rw [hlen]; exact hn0) hag (by rw [hlen]; exact hre) hl a1 a2 a3)
                    · cases h
end XM9
