/-! Intrinsic steps of the abstract machine. Printed by wip/whole/gen_xt.py. -/
def tb_klL : List ((Nat × Nat) × Int64 × Nat) := [((6, 61), (4294967296 : Int64), 566), ((7, 125), (256 : Int64), 385), ((7, 136), (-1 : Int64), 402), ((7, 138), (63 : Int64), 428), ((8, 122), (-1 : Int64), 444), ((9, 128), (16 : Int64), 995), ((9, 130), (10 : Int64), 996), ((9, 132), (4294967296 : Int64), 997), ((9, 134), (32 : Int64), 1002), ((9, 136), (25456 : Int64), 1003), ((9, 142), (6580592 : Int64), 1008), ((9, 144), (500069396323 : Int64), 1009), ((9, 146), (1702132066 : Int64), 1010), ((9, 148), (1718378856 : Int64), 1011), ((9, 150), (6581359 : Int64), 1012), ((9, 152), (28258992578979939 : Int64), 1013), ((9, 182), (7 : Int64), 965), ((9, 196), (33 : Int64), 1040), ((9, 201), (255 : Int64), 1049), ((9, 243), (-1 : Int64), 1097), ((9, 256), (63 : Int64), 1109), ((9, 262), (1000 : Int64), 1054), ((9, 273), (5 : Int64), 1122), ((10, 65), (4294967295 : Int64), 1127)]
def tb_kl (o x : Nat) : Option Int64 := (tb_klL.find? (fun q => q.1.1 == o && q.1.2 == x)).map (fun q => q.2.1)
theorem tb_klA : ∀ q ∈ tb_klL, lw_tbl[q.2.2]? = some (Cond.constantLong (tb_nm q.1.1) q.1.2 q.2.1) := by decide +kernel
def tb_obL : List ((Nat × Nat) × Nat) := [((0, 3), 149), ((1, 1), 247), ((2, 3), 130), ((3, 1), 184), ((4, 3), 155), ((5, 3), 113), ((6, 3), 198), ((7, 3), 253), ((8, 1), 105), ((9, 1), 827)]
def tb_ob (o x : Nat) : Option Nat := (tb_obL.find? (fun q => q.1.1 == o && q.1.2 == x)).map (fun q => q.2)
theorem tb_obA : ∀ q ∈ tb_obL, lw_tbl[q.2]? = some (Cond.methodLink (tb_nm q.1.1) q.1.2 objectInit) := by decide +kernel
def tb_acL : List ((Nat × Nat) × Nat) := [((4, 32), 746), ((7, 61), 433)]
def tb_ac (o x : Nat) : Option Nat := (tb_acL.find? (fun q => q.1.1 == o && q.1.2 == x)).map (fun q => q.2)
theorem tb_acA : ∀ q ∈ tb_acL, lw_tbl[q.2]? = some (Cond.methodLink (tb_nm q.1.1) q.1.2 arraycopyName) := by decide +kernel
theorem xi_oi : Cond.instanceMethod objectInit ∈ tb_gd := tb_gd_in (i := 106) (by decide +kernel) rfl
set_option maxRecDepth 200000 in
theorem xi_oc : Cond.code objectInit ⟨#[0xb1]⟩ 1 none ∈ tb_gd := tb_gd_in (i := 107) rfl rfl
theorem xi_an : Cond.native arraycopyName ∈ tb_gd := tb_gd_in (i := 435) (by decide +kernel) rfl
theorem xi_as : Cond.static arraycopyName ∈ tb_gd := tb_gd_in (i := 434) (by decide +kernel) rfl
theorem xi_ai : Cond.initialized "java/lang/System" ∈ tb_gd := tb_gd_in (i := 98) (by decide +kernel) rfl
theorem xi_ml : Cond.methodLink "ConditionDesk$Tokens" 63 Lib.MathLoose.min_long.x ∈ tb_gd := tb_gd_in (i := 567) (by decide +kernel) rfl
theorem xi_ms : Cond.static Lib.MathLoose.min_long.x ∈ tb_gd := tb_gd_in (i := 568) (by decide +kernel) rfl
theorem xi_mi : Cond.initialized "java/lang/Math" ∈ tb_gd := tb_gd_in (i := 93) (by decide +kernel) rfl
set_option maxRecDepth 200000 in
theorem xi_mc : Cond.code Lib.MathLoose.min_long.x Lib.MathLoose.min_long.code 4 (some .long) ∈ tb_gd := tb_gd_in (i := 569) rfl rfl
def xm_cat (st : List Value) : Nat := (st.map (fun v => v.category)).sum
def xi_cp (tt : List FieldType) (A : xm_H) : List Value → xm_P
  | .int n :: .int dp :: .ref b :: .int sp :: .ref a :: rest => if xm_cat rest ≤ 8 ∧ ¬ sp < 0 ∧ ¬ dp < 0 ∧ ¬ n < 0 then (match A[a]?, A[b]? with
    | some (.inl (t0, n0, .inl f)), some (.inl (t1, n1, .inl g)) => if tt[t0]? = some .int ∧ tt[t1]? = some .int ∧ sp.toNatClampNeg + n.toNatClampNeg ≤ n0 ∧ dp.toNatClampNeg + n.toNatClampNeg ≤ n1 then some (rest, A.set b (.inl (t1, n1, .inl (va_cpy f g sp.toNatClampNeg dp.toNatClampNeg n.toNatClampNeg)))) else none
    | some (.inl (t0, n0, .inr (.inl f))), some (.inl (t1, n1, .inr (.inl g))) => if tt[t0]? = some .long ∧ tt[t1]? = some .long ∧ sp.toNatClampNeg + n.toNatClampNeg ≤ n0 ∧ dp.toNatClampNeg + n.toNatClampNeg ≤ n1 then some (rest, A.set b (.inl (t1, n1, .inr (.inl (va_cpy f g sp.toNatClampNeg dp.toNatClampNeg n.toNatClampNeg))))) else none
    | _, _ => none) else none
  | _ => none
def xi_lit (a : Nat) : Option Nat := if xm_K0 ≤ a ∧ a - xm_K0 < st_n then some (a - xm_K0) else none
def tb_xo (o : Nat) (i : Jvm.ClassFile.Instr) (n : Nat) (st : List Value) (A : xm_H) : xm_P :=
  match i with
  | .ldc2_w x => if n = 3 then (tb_kl o x).map (fun v => (.long v :: st, A)) else none
  | .ldc x => if n = 2 then (tb_sl o x).map (fun j => (.ref (xm_K0 + j) :: st, A)) else none
  | .invokespecial x => if n = 3 then (match st with
    | .ref _ :: rest => if (tb_ob o x).isSome = true ∧ xm_cat rest ≤ 8 then some (rest, A) else none
    | _ => none) else none
  | .invokestatic x => if n = 3 then (if o = 6 ∧ x = 63 then (match st with
    | .long b :: .long a :: rest => if xm_cat rest ≤ 8 then some (.long (if b < a then b else a) :: rest, A) else none
    | _ => none) else if (tb_ac o x).isSome = true then xi_cp tb_tt A st else none) else none
  | .invokevirtual x => if n = 3 ∧ o = 6 then (if x = 97 then (match st with
    | .ref q :: rest => if xm_cat rest ≤ 8 then (xi_lit q).map (fun j => (.int (nI (st_len.getD j 0)) :: rest, A)) else none
    | _ => none) else if x = 101 then (match st with
    | .int z :: .ref q :: rest => if xm_cat rest ≤ 8 then (match xi_lit q with
      | some j => (xm_ix z (st_len.getD j 0)).map (fun k => (.int (((st_byt.getD j []).getD k 0 &&& 255).toUInt32 % 65536).toInt32 :: rest, A))
      | none => none) else none
    | _ => none) else none) else none
  | _ => none
def tb_xt (k : Nat) : Jvm.ClassFile.Instr → Nat → List Value → xm_H → xm_P := tb_xo (tb_oc k)
theorem xi_cp_s {tt : List FieldType} {A A' : xm_H} {st st' : List Value} (h : xi_cp tt A st = some (st', A')) : ∃ n dp b sp a t0 n0 t1 n1, st = .int n :: .int dp :: .ref b :: .int sp :: .ref a :: st' ∧ xm_cat st' ≤ 8 ∧ ¬ sp < 0 ∧ ¬ dp < 0 ∧ ¬ n < 0 ∧ sp.toNatClampNeg + n.toNatClampNeg ≤ n0 ∧ dp.toNatClampNeg + n.toNatClampNeg ≤ n1 ∧ ((∃ f g, A[a]? = some (.inl (t0, n0, .inl f)) ∧ A[b]? = some (.inl (t1, n1, .inl g)) ∧ tt[t0]? = some .int ∧ tt[t1]? = some .int ∧ A.set b (.inl (t1, n1, .inl (va_cpy f g sp.toNatClampNeg dp.toNatClampNeg n.toNatClampNeg))) = A') ∨ (∃ f g, A[a]? = some (.inl (t0, n0, .inr (.inl f))) ∧ A[b]? = some (.inl (t1, n1, .inr (.inl g))) ∧ tt[t0]? = some .long ∧ tt[t1]? = some .long ∧ A.set b (.inl (t1, n1, .inr (.inl (va_cpy f g sp.toNatClampNeg dp.toNatClampNeg n.toNatClampNeg)))) = A')) := by
  unfold xi_cp at h
  split at h
  · obtain ⟨⟨h1, h2, h3, h4⟩, h⟩ := xm_if h
    split at h
    · obtain ⟨⟨h5, h6, h7, h8⟩, h⟩ := xm_if h
      simp only [Option.some.injEq, Prod.mk.injEq] at h
      obtain ⟨rfl, rfl⟩ := h
      exact ⟨_, _, _, _, _, _, _, _, _, rfl, h1, h2, h3, h4, h7, h8, Or.inl ⟨_, _, by assumption, by assumption, h5, h6, rfl⟩⟩
    · obtain ⟨⟨h5, h6, h7, h8⟩, h⟩ := xm_if h
      simp only [Option.some.injEq, Prod.mk.injEq] at h
      obtain ⟨rfl, rfl⟩ := h
      exact ⟨_, _, _, _, _, _, _, _, _, rfl, h1, h2, h3, h4, h7, h8, Or.inr ⟨_, _, by assumption, by assumption, h5, h6, rfl⟩⟩
    · cases h
  · cases h
theorem tb_xo_len {o : Nat} {i : Jvm.ClassFile.Instr} {n : Nat} {st st' : List Value} {A A' : xm_H} (h : tb_xo o i n st A = some (st', A')) : A'.length = A.length := by
  cases i
  case ldc2_w x => obtain ⟨-, h⟩ := xm_if h; obtain ⟨v, -, h⟩ := xm_map h; cases h; rfl
  case ldc x => obtain ⟨-, h⟩ := xm_if h; obtain ⟨v, -, h⟩ := xm_map h; cases h; rfl
  case invokespecial x =>
    simp only [tb_xo] at h
    obtain ⟨-, h⟩ := xm_if h
    split at h
    · obtain ⟨-, h⟩ := xm_if h; cases h; rfl
    · cases h
  case invokestatic x =>
    simp only [tb_xo] at h
    obtain ⟨-, h⟩ := xm_if h
    split at h
    · split at h
      · obtain ⟨-, h⟩ := xm_if h; cases h; rfl
      · cases h
    · obtain ⟨-, h⟩ := xm_if h
      obtain ⟨_, _, _, _, _, _, _, _, _, -, -, -, -, -, -, -, ⟨_, _, -, -, -, -, rfl⟩ | ⟨_, _, -, -, -, -, rfl⟩⟩ := xi_cp_s h
      · exact List.length_set
      · exact List.length_set
  case invokevirtual x =>
    simp only [tb_xo] at h
    obtain ⟨-, h⟩ := xm_if h
    split at h
    · split at h
      · obtain ⟨-, h⟩ := xm_if h; obtain ⟨v, -, h⟩ := xm_map h; cases h; rfl
      · cases h
    · obtain ⟨-, h⟩ := xm_if h
      split at h
      · obtain ⟨-, h⟩ := xm_if h
        split at h
        · obtain ⟨v, -, h⟩ := xm_map h; cases h; rfl
        · cases h
      · cases h
  all_goals exact absurd h (by simp [tb_xo])
theorem xi_lit_s {a j : Nat} (h : xi_lit a = some j) : xm_K0 ≤ a ∧ a = xm_K0 + j ∧ j < st_n := by
  unfold xi_lit at h
  obtain ⟨⟨h1, h2⟩, h⟩ := xm_if h
  have h3 := Option.some.inj h
  subst h3
  exact ⟨h1, by omega, h2⟩
theorem xm_cat_m (r : Nat → Nat) (st : List Value) : xm_cat (st.map (xm_v r)) = xm_cat st := by
  unfold xm_cat
  rw [List.map_map]
  simp only [Function.comp_def, xm_v_cat]
theorem xi_nw : nativeFrameWords "java/lang/System" "arraycopy" 5 ≤ 1000 := by decide +kernel
set_option maxRecDepth 100000 in
theorem xi_n1 {a b L : Nat} (h : a ≤ 8) (h1 : b ≤ 1000) (h2 : 2064 ≤ L) : a + (b + 11) ≤ L := by omega
set_option maxRecDepth 100000 in
theorem xi_n2 {a L : Nat} (h : a ≤ 8) (h2 : 2064 ≤ L) : a + 15 ≤ L := by omega
set_option maxRecDepth 100000 in
theorem xi_n3 {a L : Nat} (h : a ≤ 8) (h2 : 2064 ≤ L) : 2 * 0 + a + 12 ≤ L := by omega
set_option maxRecDepth 100000 in
theorem xi_n4 {d : Nat} : 2064 ≤ 64 * (d + 1) + 2000 := by omega
set_option maxRecDepth 100000 in
theorem xi_n5 {d a k : Nat} (ha : a ≤ 3) (hk : k ≤ 4) : 8 + (a + 11) + 40 * k ≤ 64 * (d + 1) + 2000 := by omega
section XTA
variable {p : Program} {l : Launch} {e : Env} {s : State} {m : MethodId} {args : Array Value} {below : List Frame} {meth : Method} {c : Code} {Q : State → Prop} {D : va_G} {tys : xm_T} {N0 : Nat} {adK adV : Nat → Nat} {k d c1 s1 : Nat}
set_option maxHeartbeats 4000000 in
set_option maxRecDepth 100000 in
theorem tb_XT {Ad : Nat → Prop} (hTT : xm_TT tb_tt tys) (hk : tb_mok k = true) (hAdN : ∀ q, Ad q → N0 ≤ q) (S : CallFix p m c (tb_mb k) (tb_mL k) s args (xm_ws tb_gd tb_my tb_mb tb_mL tb_mr k) (tb_my k).cls) (hG : tb_G (st_Z N0 adK adV) s) (hK : va_K D tb_cl tys s) (hN0 : N0 ≤ s.heap.size) : xm_XT p l e (xm_rm (d + 1) c1 s1) s m args below meth c Q (tb_mb k) (tb_mL k) D tb_cl tys Ad (fun j => adK (j - xm_K0)) (tb_xt k) := by
  intro i n pc st A st' A' r H locs lsR cells slots hrl h hdg hl hcl hsl hP hD hS kk
  have hx := S.1
  have hb := S.2.1
  have hml := S.2.2.1
  have hown := S.2.2.2.1
  have hts := S.2.2.2.2
  obtain ⟨-, -, hcls, -, -, -, -, -⟩ := tb_own hk
  have hgd : ∀ w ∈ tb_gd, w ∈ xm_ws tb_gd tb_my tb_mb tb_mL tb_mr k := fun w hw => List.mem_cons_of_mem _ hw
  have hg : ∀ w ∈ tb_gd, w.before args s = true := fun w hw => hts w (hgd w hw)
  have hZ := hG.2.2
  have hSN := xm_SN hAdN hS
  have h64 : 2064 ≤ (xm_rm (d + 1) c1 s1).locals := xi_n4
  have hfr1 : 1 ≤ (xm_rm (d + 1) c1 s1).frames := by show 1 ≤ d + 1 + 20; omega
  have hlit : ∀ j, r (xm_K0 + j) = adK j := fun j => by
    rw [hrl _ (Nat.le_add_right _ _)]
    show adK (xm_K0 + j - xm_K0) = adK j
    rw [Nat.add_sub_cancel_left]
  cases i
  case ldc2_w x =>
    obtain ⟨rfl, h0⟩ := xm_if h
    obtain ⟨v, hv, h1⟩ := xm_map h0
    cases h1
    obtain ⟨⟨⟨o, x'⟩, v', i'⟩, hm, hp, rfl⟩ := tb_find hv
    obtain ⟨rfl, rfl⟩ := tb_key hp
    exact lv_ldc2 hx hb hown (by rw [hcls]; exact hg _ (tb_gd_in (tb_klA _ hm) rfl)) hdg (kk H locs hP hD hS)
  case ldc x =>
    obtain ⟨rfl, h0⟩ := xm_if h
    obtain ⟨v, hv, h1⟩ := xm_map h0
    cases h1
    obtain ⟨⟨⟨o, x'⟩, j⟩, hm, hp, rfl⟩ := tb_find hv
    obtain ⟨rfl, rfl⟩ := tb_key hp
    have hq : ∀ q ∈ tb_slL, ∃ t, st_own[q.2]? = some (tb_nm q.1.1, q.1.2, t) := fun q hq => by
      have h9 : ∀ q ∈ tb_slL, (st_own[q.2]?).map (fun z => (z.1, z.2.1)) = some (tb_nm q.1.1, q.1.2) := by decide +kernel
      have h8 := h9 q hq
      cases h7 : st_own[q.2]? with
      | none => rw [h7] at h8; cases h8
      | some z =>
        rw [h7] at h8
        obtain ⟨z1, z2, z3⟩ := z
        cases h8
        exact ⟨z3, rfl⟩
    obtain ⟨t, ht⟩ := hq _ hm
    have hR := hZ.2.2.2.1 _ _ ht
    dsimp only at hR
    refine va_ldcS hx hb hown (by rw [hcls]; exact hR) hdg ?_
    have k9 := kk H locs hP hD hS
    have e9 : xm_v r (.ref (xm_K0 + j)) = .ref (adK j) := by show Value.ref (r _) = _; rw [hlit]
    rw [List.map_cons, e9] at k9
    exact k9
  case invokespecial x =>
    simp only [tb_xt, tb_xo] at h
    obtain ⟨rfl, h0⟩ := xm_if h
    split at h0
    · obtain ⟨⟨h1, h2⟩, h3⟩ := xm_if h0
      cases h3
      obtain ⟨v, hv⟩ := Option.isSome_iff_exists.mp h1
      obtain ⟨⟨⟨o, x'⟩, i'⟩, hm, hp, rfl⟩ := tb_find hv
      obtain ⟨rfl, rfl⟩ := tb_key hp
      exact W.objInit hx hb hown (by rw [hcls]; exact hg _ (tb_gd_in (tb_obA _ hm) rfl)) (hg _ xi_oi) (hg _ xi_oc) rfl (by rw [hml]; exact hl) rfl hdg hfr1 (xi_n3 (by rw [show ((st'.map (xm_v r)).map fun v => v.category).sum = xm_cat (st'.map (xm_v r)) from rfl, xm_cat_m]; exact h2) h64) (kk H locs hP hD hS)
    · cases h0
  case invokestatic x =>
    simp only [tb_xt, tb_xo] at h
    obtain ⟨rfl, h0⟩ := xm_if h
    split at h0
    · rename_i hox
      obtain ⟨ho, rfl⟩ := hox
      split at h0
      · obtain ⟨h2, h3⟩ := xm_if h0
        cases h3
        refine va_mmin_long hx hb (by rw [hml]; exact hl.symm) hown (by rw [hcls, ho]; exact hg _ xi_ml) (hg _ xi_ms) (hg _ xi_mi) (hg _ xi_mc) hfr1 (xi_n2 ?_ h64) hcl hsl hdg (kk H locs hP hD hS)
        exact Nat.le_trans (Nat.le_of_eq (xm_cat_m r _)) h2
      · cases h0
    · obtain ⟨h1, h2⟩ := xm_if h0
      obtain ⟨v, hv⟩ := Option.isSome_iff_exists.mp h1
      obtain ⟨⟨⟨o, x'⟩, i'⟩, hm, hp, rfl⟩ := tb_find hv
      obtain ⟨rfl, rfl⟩ := tb_key hp
      have hlk : (Cond.methodLink (tb_my k).cls x' arraycopyName).before args s = true := by rw [hcls]; exact hg _ (tb_gd_in (tb_acA _ hm) rfl)
      obtain ⟨n, dp, b, sp, a, t0, n0, t1, n1, rfl, hcat, q1, q2, q3, q4, q5, ⟨f, g, ha, hb2, ht0, ht1, rfl⟩ | ⟨f, g, ha, hb2, ht0, ht1, rfl⟩⟩ := xi_cp_s h2
      · have he := xm_w_set tys r A b (.inl (t1, n1, .inl (va_cpy f g sp.toNatClampNeg dp.toNatClampNeg n.toNatClampNeg)))
        exact va_copyi hx hb (by rw [hml]; exact hl.symm) hown hlk (hg _ xi_an) (hg _ xi_as) (hg _ xi_ai) hK hP hD hS a b t0 t1 (xm_w_get ha) (xm_w_get hb2) (hTT t0 _ ht0) (hTT t1 _ ht1) rfl q1 q2 q3 q4 q5 (fun _ _ => rfl) hfr1 (xi_n1 (Nat.le_trans (Nat.le_of_eq (xm_cat_m r _)) hcat) xi_nw h64) hdg (fun H1 locs1 a1 a2 a3 => kk H1 locs1 (he ▸ a1) (he ▸ a2) a3)
      · have he := xm_w_set tys r A b (.inl (t1, n1, .inr (.inl (va_cpy f g sp.toNatClampNeg dp.toNatClampNeg n.toNatClampNeg))))
        exact va_copyl hx hb (by rw [hml]; exact hl.symm) hown hlk (hg _ xi_an) (hg _ xi_as) (hg _ xi_ai) hK hP hD hS a b t0 t1 (xm_w_get ha) (xm_w_get hb2) (hTT t0 _ ht0) (hTT t1 _ ht1) rfl q1 q2 q3 q4 q5 (fun _ _ => rfl) hfr1 (xi_n1 (Nat.le_trans (Nat.le_of_eq (xm_cat_m r _)) hcat) xi_nw h64) hdg (fun H1 locs1 a1 a2 a3 => kk H1 locs1 (he ▸ a1) (he ▸ a2) a3)
  case invokevirtual x =>
    simp only [tb_xt, tb_xo] at h
    obtain ⟨⟨rfl, ho⟩, h0⟩ := xm_if h
    have hcl6 : (tb_my k).cls = "ConditionDesk$Tokens" := by rw [hcls, ho]; rfl
    split at h0
    · rename_i hx9
      subst hx9
      split at h0
      · rename_i q rest
        obtain ⟨hcat, h1⟩ := xm_if h0
        obtain ⟨j, hj, h2⟩ := xm_map h1
        cases h2
        obtain ⟨hq0, rfl, hjn⟩ := xi_lit_s hj
        have hrr : r (xm_K0 + j) = adK j := hlit j
        refine st_back (v := some (.int (nI (st_len.getD j 0)))) (va_runV (As := []) (b := adK j) (rest := rest.map (xm_v r)) (C := "java/lang/String") (own := (tb_my k).cls) S (st_mlen (l := l) (N0 := N0) (adK := adK) (adV := adV) hjn) ⟨⟨rfl, rfl, (by show 2 + 1 ≤ d + 1 + 20; omega), (by show 8 + (1 + 11) + 40 * 2 ≤ 64 * (d + 1) + 2000; exact xi_n5 (by decide) (by decide)), st_hws hts hgd st_clen, List.mem_cons_self, hg _ st_clen, hg _ st_nS, ⟨by decide, by decide⟩, fun sig h9 => (by rw [show parseMethodDescriptor st_ylen.desc = _ from rfl] at h9; cases h9; rfl), (by rw [hcl6]; exact hg _ st_l97len)⟩, hg _ st_ilen, hg _ st_slen⟩ ⟨fun a U g mk q => ⟨q.1, st_Z1 U g mk a q.2⟩, vk_recv hZ.1 hjn hSN, fun U hU hW => ⟨rfl, st_Z2 s U _ _ hZ hSN hU hW⟩⟩ rfl rfl hl (by show List.map (xm_v r) (.ref (xm_K0 + j) :: rest) = _; rw [List.map_cons]; show Value.ref (r (xm_K0 + j)) :: _ = _; rw [hrr]; rfl) (lv_room (Nat.le_trans (Nat.le_of_eq (xm_cat_m r rest)) hcat)) hdg ⟨hcl, hsl⟩) ?_
        exact kk H locs hP hD hS
      · cases h0
    · obtain ⟨hx9, h00⟩ := xm_if h0
      clear h0
      subst hx9
      split at h00
      · rename_i z q rest
        obtain ⟨hcat, h1⟩ := xm_if h00
        split at h1
        · rename_i j hj
          obtain ⟨kx, hkx, h2⟩ := xm_map h1
          cases h2
          obtain ⟨hin, rfl, -⟩ := xm_ix_s hkx
          obtain ⟨hq0, rfl, hjn⟩ := xi_lit_s hj
          have hrr : r (xm_K0 + j) = adK j := hlit j
          refine st_back (v := some (.int (((st_byt.getD j []).getD z.toNatClampNeg 0 &&& 255).toUInt32 % 65536).toInt32)) (va_runV (As := [.int z]) (b := adK j) (rest := rest.map (xm_v r)) (C := "java/lang/String") (own := (tb_my k).cls) S (st_mchr (l := l) (N0 := N0) (adK := adK) (adV := adV) hjn hin) ⟨⟨rfl, rfl, (by show 4 + 1 ≤ d + 1 + 20; omega), (by show 8 + (2 + 11) + 40 * 4 ≤ 64 * (d + 1) + 2000; exact xi_n5 (by decide) (by decide)), st_hws hts hgd st_cchr, List.mem_cons_self, hg _ st_cchr, hg _ st_nS, ⟨by decide, by decide⟩, fun sig h9 => (by rw [show parseMethodDescriptor st_ychr.desc = _ from rfl] at h9; cases h9; rfl), (by rw [hcl6]; exact hg _ st_l101chr)⟩, hg _ st_ichr, hg _ st_schr⟩ ⟨fun a U g mk q => ⟨q.1, st_Z1 U g mk a q.2⟩, vk_recv hZ.1 hjn hSN, fun U hU hW => ⟨rfl, st_Z2 s U _ _ hZ hSN hU hW⟩⟩ rfl rfl hl (by show List.map (xm_v r) (.int z :: .ref (xm_K0 + j) :: rest) = _; rw [List.map_cons, List.map_cons]; show Value.int z :: Value.ref (r (xm_K0 + j)) :: _ = _; rw [hrr]; rfl) (lv_room (Nat.le_trans (Nat.le_of_eq (xm_cat_m r rest)) hcat)) hdg ⟨hcl, hsl⟩) ?_
          exact kk H locs hP hD hS
        · cases h1
      · cases h00
  all_goals exact absurd h (by simp [tb_xt, tb_xo])
end XTA
