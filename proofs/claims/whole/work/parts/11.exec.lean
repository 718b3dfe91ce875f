/-! Methods call each other to a depth: xm_ex; and a method that the abstract machine runs meets its contract. -/
theorem xm_args_m (r : Nat → Nat) : ∀ (As : List Value) (i : Nat), lv_args i (As.map (xm_v r)) = xm_lm r (lv_args i As)
  | [], _ => rfl
  | v :: vs, i => by
    show (i, xm_v r v) :: lv_args (if (xm_v r v).category = 2 then i + 2 else i + 1) (vs.map (xm_v r)) = (i, xm_v r v) :: xm_lm r (lv_args (if v.category = 2 then i + 2 else i + 1) vs)
    rw [xm_v_cat, xm_args_m r vs]
theorem xm_sl_m (r : Nat → Nat) : ∀ (As : List Value), (lg_sl (As.map (xm_v r))).length = (lg_sl As).length
  | [] => rfl
  | v :: vs => by
    have h := xm_sl_m r vs
    simp only [lg_sl, List.map_cons, List.flatMap_cons, List.length_append, xm_v_cat] at h ⊢
    rw [h]
    split <;> rfl
def xm_x0 : Jvm.ClassFile.Instr → Nat → List Value → xm_H → Option (List Value × xm_H × Nat × Nat) := fun _ _ _ _ => none
section XMA
variable (F : Nat) (xt : Nat → Jvm.ClassFile.Instr → Nat → List Value → xm_H → xm_P)
variable (cl : List vw_C) (tt : List FieldType) (ft : Nat → Nat → FieldType) (fr : Nat → Nat → Option (Nat × Nat × Bool)) (ini : Nat → Option Nat) (nr qr : Nat → Nat → Option Nat) (ta : Jvm.ClassFile.ArrayType → Option Nat) (oc : Nat → Nat) (cr : Nat → Nat → Option (Nat × Nat × Bool × Nat))
variable (mb : Nat → ByteArray) (mL : Nat → Nat) (mr : Nat → Option FieldType) (mok : Nat → Bool)
def xm_ex : Nat → Nat → xm_H → List Value → Option xm_R
  | 0, _, _, _ => none
  | d + 1, k, A, As => if mok k = true ∧ (lg_sl As).length ≤ mL k then xm_rn (xm_ex d) (xt k) xm_x0 cl tt ft (fr (oc k)) (ini k) (nr (oc k)) (qr (oc k)) ta oc (cr (oc k)) (mb k) (mL k) (mr k) F 0 (lv_args 0 As) [] A 0 0 else none
end XMA
section XMB
variable {F : Nat} {xt : Nat → Jvm.ClassFile.Instr → Nat → List Value → xm_H → xm_P}
variable {cl : List vw_C} {tt : List FieldType} {ft : Nat → Nat → FieldType} {fr : Nat → Nat → Option (Nat × Nat × Bool)} {ini : Nat → Option Nat} {nr qr : Nat → Nat → Option Nat} {ta : Jvm.ClassFile.ArrayType → Option Nat} {oc : Nat → Nat} {cr : Nat → Nat → Option (Nat × Nat × Bool × Nat)}
variable {mb : Nat → ByteArray} {mL : Nat → Nat} {mr : Nat → Option FieldType} {mok : Nat → Bool}
theorem xm_ex_mono (hxl : ∀ k i n st A st' A', xt k i n st A = some (st', A') → A'.length = A.length) : ∀ (d k : Nat) (A : xm_H) (As : List Value) (A' : xm_H) (o : Option Value ⊕ Nat) (c1 s1 : Nat), xm_ex F xt cl tt ft fr ini nr qr ta oc cr mb mL mr mok d k A As = some (A', o, c1, s1) → A.length ≤ A'.length := by
  intro d
  induction d with
  | zero => intro k A As A' o c1 s1 h; cases h
  | succ d ih =>
    intro k A As A' o c1 s1 h
    rw [xm_ex] at h
    obtain ⟨-, h⟩ := xm_if h
    exact (xm_rn_mono ih (hxl k) (fun _ _ _ _ _ _ _ _ h => by cases h) _ _ _ _ _ _ _ _ _ _ _ h).1
variable {l : Launch} {gd : List Cond} {D : va_G} {tys : xm_T} {N0 : Nat} {G : State → Prop} {my : Nat → MethodName} {lt : Nat → Nat}
/-- what the tables must say of a method, wherever its words and G hold -/
def xm_SF (cl : List vw_C) (tt : List FieldType) (fr : Nat → Nat → Option (Nat × Nat × Bool)) (nr qr : Nat → Nat → Option Nat) (ta : Jvm.ClassFile.ArrayType → Option Nat) (oc : Nat → Nat) (cr : Nat → Nat → Option (Nat × Nat × Bool × Nat)) (mb : Nat → ByteArray) (mL : Nat → Nat) (mr : Nat → Option FieldType) (gd : List Cond) (G : State → Prop) (my : Nat → MethodName) (mok : Nat → Bool) : Prop :=
  ∀ (k : Nat) (args : Array Value) (s : State), mok k = true → (∀ w ∈ xm_ws gd my mb mL mr k, w.before args s = true) → G s →
    xm_FR cl (xm_ws gd my mb mL mr k) (my k).cls args s (fr (oc k)) ∧ xm_NR cl (xm_ws gd my mb mL mr k) (my k).cls args s (nr (oc k)) ∧ xm_QR tt (my k).cls args s (qr (oc k)) ∧ xm_TA args s ta ∧ xm_CR (my k).cls args s gd my mb mL mr cl oc (cr (oc k))
set_option maxHeartbeats 4000000 in
theorem xm_ex_ok (hCL : xm_CL cl ft) (hTT : xm_TT tt tys) (hSF : xm_SF cl tt fr nr qr ta oc cr mb mL mr gd G my mok) (hgood : ∀ w ∈ gd, goodWord w = true) (hpl : ∀ k, mok k = true → plainName (my k).cls = true)
    (hNI : ∀ k ci, mok k = true → ini k = some ci → (my k).name = "<init>" ∧ ∀ q, cl[ci]? = some q → q.1 = (my k).cls)
    (hG1 : ∀ (U : State) (g : JFrame) (mk : MethodId) (a : Array Value), G U → G (U.calling g mk a)) (hG2 : ∀ (s U : State) (H1 : Heap) (locs1 : List Loc), G s → va_S (fun q => N0 ≤ q) s.heap H1 locs1 → U.heap = H1 → s.WarmedH U.vm → G U)
    (hxl : ∀ k i n st A st' A', xt k i n st A = some (st', A') → A'.length = A.length)
    (hxt : ∀ (k d c1 s1 : Nat) (p : Program) (e : Env) (s : State) (m : MethodId) (args : Array Value) (below : List Frame) (meth : Method) (c : Code) (Q : State → Prop) (Ad : Nat → Prop), mok k = true → (∀ q, Ad q → N0 ≤ q) → CallFix p m c (mb k) (mL k) s args (xm_ws gd my mb mL mr k) (my k).cls → G s → va_K D cl tys s → N0 ≤ s.heap.size → xm_XT p l e (xm_rm (d + 1) c1 s1) s m args below meth c Q (mb k) (mL k) D cl tys Ad lt (xt k)) :
    ∀ (d k : Nat) (A : xm_H) (As : List Value) (A' : xm_H) (v : Option Value) (c1 s1 : Nat) (r : Nat → Nat), (∀ j, xm_K0 ≤ j → r j = lt j) → xm_ex F xt cl tt ft fr ini nr qr ta oc cr mb mL mr mok d k A As = some (A', .inl v, c1, s1) →
      ∀ sz, Met l (my k) (xm_ws gd my mb mL mr k) (xm_rm d c1 s1) (xm_Pc D cl tys N0 G r A sz As) (xm_Q D cl tys r A.length sz A' v) c1 s1 (xm_ad r A.length sz) := by
  intro d
  induction d with
  | zero => intro k A As A' v c1 s1 r hr0 h; cases h
  | succ d ih =>
    intro k A As A' v c1 s1 r hr0 h sz
    rw [xm_ex] at h
    obtain ⟨⟨hok, hlen⟩, h⟩ := xm_if h
    refine Met.ofW (cc := mb k) (maxL := mL k) (ret := mr k) (hpl k hok) rfl ?_
    intro p e s m args below meth c s₁ B hml hv
    obtain ⟨rfl, ⟨hN0, hsz⟩, hP, hK, hD, hG⟩ := hv
    subst hsz
    have hAdN : ∀ q, xm_ad r A.length s.heap.size q → N0 ≤ q := xm_ad_sub hD (fun q hq => Nat.le_trans hN0 hq)
    have hD' := xm_ad_D s.heap.size hD
    have hts := atoms_spec (ws := xm_ws gd my mb mL mr k) B.pre
    have hown : s.vm.findClass (my k).cls = some m.cls := findClass_of_methodNamed B.named
    have hin : meth.name = (my k).name := (name_of_methodNamed B.named B.method).1
    obtain ⟨hFR, hNR, hQR, hTA, hCR⟩ := hSF k _ s hok hts hG
    have S : CallFix p m c (mb k) (mL k) s (As.map (xm_v r)).toArray (xm_ws gd my mb mL mr k) (my k).cls := ⟨B.exec, B.bytes, hml, hown, hts⟩
    have hNI' : xm_NI cl (my k).cls meth (ini k) := fun ci hci => ⟨by rw [hin]; exact (hNI k ci hok hci).1, (hNI k ci hok hci).2⟩
    have hl := lv_entry (As.map (xm_v r)) (n := mL k) (by rw [xm_sl_m]; exact hlen)
    rw [lg_entry_eq]
    generalize (lg_sl (As.map (xm_v r)) ++ List.replicate (mL k - (lg_sl (As.map (xm_v r))).length) Slot.unset).toArray = ls at hl ⊢
    rw [xm_args_m] at hl
    have hS : va_S (xm_ad r A.length s.heap.size) s.heap s.heap [] := va_S.rf
    refine xm_rn_ok (d := d) (r0 := r) (n0 := A.length) (R := xm_rm (d + 1) c1 s1) (Ts := xm_ws gd my mb mL mr k) S hCL hFR hNI' hTT hNR hQR hTA hCR (fun w hw => List.mem_cons_of_mem _ hw) hgood hG1 (fun H1 locs1 U a b c9 => hG2 s U H1 locs1 hG (xm_SN hAdN a) b c9) (xm_ex_mono hxl d) hr0 ih (hxl k) (hxt k d c1 s1 p e s m _ below meth c _ _ hok hAdN S hG hK hN0) (fun _ _ _ _ _ _ _ _ h => by cases h) (fun _ _ _ _ _ _ _ _ _ _ _ _ _ _ _ _ h => by cases h) (Nat.le_refl _) (Nat.le_refl _) (Nat.le_refl _) (Nat.le_refl _) hN0 (fun q hq => Or.inr hq) hAdN hK ?_ F 0 (lv_args 0 As) [] A 0 0 r s.heap [] ls h (Nat.le_refl _) xm_ag.rf (fun _ => rfl) hl hP hD' hS
    · intro v' hv' i n pc st r' H locs lsR hdg hre hag hre2 hP' hD' hS'
      cases hv'
      exact xm_re_ok B.exec B.bytes hre hdg B.returns B.notSynchronized (fun t ht hW => ⟨⟨r', hag, hre2, rfl, by rw [ht]; exact hP', hD'⟩, hS'.F ht⟩) hS'.2.2
end XMB
