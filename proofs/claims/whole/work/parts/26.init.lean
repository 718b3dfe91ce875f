/-! What holds at the law's entry: the classes, the arrays' classes, the constants. -/
def lx_tm (i : Nat) : Term := .string (st_own.getD i ("", 0, "")).1 (st_own.getD i ("", 0, "")).2.1
def lx_fl : List Cond := flatC (Jvm.Cond.and given_1 narrow_1)
def lx_bs : List Nat := [33, 138, 166, 191, 232, 273, 54, 61, 70, 82, 94, 107, 120]
def lx_ne : List (Nat × Nat × Nat) := [(0, 1, 158), (0, 2, 182), (0, 3, 222), (0, 4, 262), (0, 5, 306), (0, 6, 60), (0, 7, 68), (0, 8, 79), (0, 9, 90), (0, 10, 102), (0, 11, 114), (0, 12, 131), (1, 2, 190), (1, 3, 230), (1, 4, 270), (1, 5, 314), (2, 3, 231), (2, 4, 271), (2, 5, 315), (3, 4, 272), (3, 5, 316), (4, 5, 317), (6, 1, 159), (6, 2, 183), (6, 3, 223), (6, 4, 263), (6, 5, 307), (6, 7, 69), (6, 8, 80), (6, 9, 91), (6, 10, 103), (6, 11, 115), (6, 12, 132), (7, 1, 160), (7, 2, 184), (7, 3, 224), (7, 4, 264), (7, 5, 308), (7, 8, 81), (7, 9, 92), (7, 10, 104), (7, 11, 116), (7, 12, 133), (8, 1, 161), (8, 2, 185), (8, 3, 225), (8, 4, 265), (8, 5, 309), (8, 9, 93), (8, 10, 105), (8, 11, 117), (8, 12, 134), (9, 1, 162), (9, 2, 186), (9, 3, 226), (9, 4, 266), (9, 5, 310), (9, 10, 106), (9, 11, 118), (9, 12, 135), (10, 1, 163), (10, 2, 187), (10, 3, 227), (10, 4, 267), (10, 5, 311), (10, 11, 119), (10, 12, 136), (11, 1, 164), (11, 2, 188), (11, 3, 228), (11, 4, 268), (11, 5, 312), (11, 12, 137), (12, 1, 165), (12, 2, 189), (12, 3, 229), (12, 4, 269), (12, 5, 313)]
theorem lx_f1 : ∀ i ∈ List.range 13, lx_fl[lx_bs.getD i 0]? = some (Cond.exactly (lx_tm i) "java/lang/String") ∧ lx_fl[lx_bs.getD i 0 + 1]? = some (Cond.eq (.field (lx_tm i) "java/lang/String" "coder" "B") (.int 0)) ∧ lx_fl[lx_bs.getD i 0 + 2]? = some (Cond.arrayOf (.field (lx_tm i) "java/lang/String" "value" "[B") .byte) ∧ lx_fl[lx_bs.getD i 0 + 3]? = some (Cond.eq (.length (.field (lx_tm i) "java/lang/String" "value" "[B")) (.int (Int32.ofNat (st_len.getD i 0)))) := by decide +kernel
theorem lx_f2 : ∀ i ∈ List.range 13, ∀ j ∈ List.range (st_len.getD i 0), lx_fl[lx_bs.getD i 0 + 4 + j]? = some (Cond.eq (.elem (.field (lx_tm i) "java/lang/String" "value" "[B") (.int (Int32.ofNat j))) (.int ((st_byt.getD i []).getD j 0))) := by decide +kernel
theorem lx_f3a : ∀ q ∈ lx_ne, lx_fl[q.2.2]? = some (Cond.not (Cond.eq (lx_tm q.1) (lx_tm q.2.1))) := by decide +kernel
theorem lx_f3b : ∀ i ∈ List.range 13, ∀ j ∈ List.range 13, i ≠ j → (lx_ne.any (fun q => q.1 == i && q.2.1 == j)) = true ∨ (lx_ne.any (fun q => q.1 == j && q.2.1 == i)) = true := by decide +kernel
theorem lx_f3c {i j : Nat} (h : (lx_ne.any (fun q => q.1 == i && q.2.1 == j)) = true) : Cond.not (Cond.eq (lx_tm i) (lx_tm j)) ∈ lx_fl := by
  obtain ⟨q, hq, h1⟩ := List.any_eq_true.mp h
  obtain ⟨rfl, rfl⟩ := tb_key h1
  exact List.mem_of_getElem? (lx_f3a q hq)
theorem lx_f3 {i j : Nat} (hi : i < 13) (hj : j < 13) (h : i ≠ j) : Cond.not (Cond.eq (lx_tm i) (lx_tm j)) ∈ lx_fl ∨ Cond.not (Cond.eq (lx_tm j) (lx_tm i)) ∈ lx_fl := (lx_f3b i (List.mem_range.mpr hi) j (List.mem_range.mpr hj) h).imp lx_f3c lx_f3c
theorem lx_f4 : ∀ i ∈ List.range 13, Cond.stringRef (st_own.getD i ("", 0, "")).1 (st_own.getD i ("", 0, "")).2.1 (st_own.getD i ("", 0, "")).2.2 ∈ lw_tbl := by decide +kernel
theorem lx_f5 : Cond.isRef (.static "java/lang/Throwable" "UNASSIGNED_STACK" "[Ljava/lang/StackTraceElement;") ∈ lx_fl ∧ Cond.isRef (.static "java/lang/Throwable" "SUPPRESSED_SENTINEL" "Ljava/util/List;") ∈ lx_fl ∧ Cond.eq (.static "java/lang/String" "COMPACT_STRINGS" "Z") (.int 1) ∈ lx_fl ∧ Cond.isRef (.static "jdk/internal/util/Preconditions" "SIOOBE_FORMATTER" "Ljava/util/function/BiFunction;") ∈ lx_fl ∧ Cond.not (Cond.castable "java/lang/IllegalStateException" "java/lang/IllegalArgumentException") ∈ lx_fl := ⟨List.mem_of_getElem? (i := 4) (by decide +kernel), List.mem_of_getElem? (i := 5) (by decide +kernel), List.mem_of_getElem? (i := 6) (by decide +kernel), List.mem_of_getElem? (i := 7) (by decide +kernel), List.mem_of_getElem? (i := 21) (by decide +kernel)⟩
theorem lx_f6 : Cond.laysStatic "java/lang/Throwable" "UNASSIGNED_STACK" "[Ljava/lang/StackTraceElement;" ∈ lw_tbl ∧ Cond.laysStatic "java/lang/Throwable" "SUPPRESSED_SENTINEL" "Ljava/util/List;" ∈ lw_tbl ∧ Cond.laysStatic "java/lang/String" "COMPACT_STRINGS" "Z" ∈ lw_tbl ∧ Cond.laysStatic "jdk/internal/util/Preconditions" "SIOOBE_FORMATTER" "Ljava/util/function/BiFunction;" ∈ lw_tbl ∧ Cond.initialized "java/lang/Throwable" ∈ lw_tbl ∧ Cond.initialized "java/lang/String" ∈ lw_tbl ∧ Cond.initialized "jdk/internal/util/Preconditions" ∈ lw_tbl := by decide +kernel
theorem lx_f7 : Cond.arrayClass .int ∈ lw_tbl ∧ Cond.arrayClass .long ∈ lw_tbl ∧ Cond.arrayClass .char ∈ lw_tbl ∧ Cond.arrayClass .boolean ∈ lw_tbl ∧ Cond.arrayOver (.object "ConditionDesk$Condition") ∈ lw_tbl := by decide +kernel
def lx_inC (ci : Nat) : Bool := match tb_cl[ci]? with
  | some c => lw_tbl.any (fun w => decide (w = Cond.instantiable c.1 c.2.2))
  | none => true
theorem lx_f8 : ∀ ci ∈ List.range 10, lx_inC ci = true := by decide +kernel
theorem lx_prim {args : Array Value} {s : State} {ty : FieldType} (h : (Cond.arrayClass ty).before args s = true) (hty : ∀ C, ty ≠ .object C) : ∃ cA, ArrOfT s cA ty ∧ va_RA s cA ty := by
  obtain ⟨c, k, comp, h1, h2, h3⟩ := Cond.arrayClass_spec h
  refine ⟨c, fun n z => ⟨fun k h => (by cases h), k, h2, comp, h3⟩, ?_⟩
  cases ty <;> first | exact h1 | exact absurd rfl (hty _)
theorem st_Zx {N0 : Nat} {adK adK' adV : Nat → Nat} {U : State} (h : st_Z N0 adK adV U) (he : ∀ j, j < 13 → adK' j = adK j) : st_Z N0 adK' adV U := by
  refine ⟨⟨fun i hi => ?_, fun i j hi hj hij => ?_⟩, h.2.1, h.2.2.1, fun j q hq => ?_, h.2.2.2.2⟩
  · rw [he i hi]; exact h.1.1 i hi
  · rw [he i hi, he j hj] at hij; exact h.1.2 i j hi hj hij
  · have hj : j < 13 := (List.getElem?_eq_some_iff.mp hq).1
    rw [he j hj]; exact h.2.2.2.1 j q hq
set_option maxHeartbeats 4000000 in
theorem lx_init {s : State} {b : Nat} (hts : ∀ w ∈ lw_tbl, w.before #[Value.ref b] s = true) (hgv : (Jvm.Cond.and given_1 narrow_1).before #[Value.ref b] s = true) :
    ∃ (D : va_G) (tys : xm_T) (adK adV : Nat → Nat), xm_TT tb_tt tys ∧ va_K D tb_cl tys s ∧ hl_G s.heap.size adK adV s ∧ adK 1000 = b := by
  have hfl : ∀ w ∈ lx_fl, w.before #[Value.ref b] s = true := flat_of_before _ hgv
  have hA : ∀ a : Nat, a < s.heap.size → ¬ (fun q : Nat => s.heap.size ≤ q) a := fun a h => Nat.not_le.mpr h
  -- strings
  have hlenB : ∀ i : Nat, i < 13 → st_len.getD i 0 < 2 ^ 31 := by
    intro i hi
    have h : ∀ i ∈ List.range 13, st_len.getD i 0 < 2 ^ 31 := by decide +kernel
    exact h i (List.mem_range.mpr hi)
  obtain ⟨adK, adV, hvS, hev⟩ := vk_Sof (N := 13) (tm := lx_tm) (len := st_len) (byt := st_byt) (A := fun q => s.heap.size ≤ q) (s := s) (args := #[Value.ref b]) hlenB
    (fun i hi => hfl _ (List.mem_of_getElem? (lx_f1 i (List.mem_range.mpr hi)).1)) (fun i hi => hfl _ (List.mem_of_getElem? (lx_f1 i (List.mem_range.mpr hi)).2.1)) (fun i hi => hfl _ (List.mem_of_getElem? (lx_f1 i (List.mem_range.mpr hi)).2.2.1)) (fun i hi => hfl _ (List.mem_of_getElem? (lx_f1 i (List.mem_range.mpr hi)).2.2.2))
    (fun i hi j hj => hfl _ (List.mem_of_getElem? (lx_f2 i (List.mem_range.mpr hi) j (List.mem_range.mpr hj)))) (fun i j hi hj hne => (lx_f3 hi hj hne).imp (hfl _) (hfl _)) hA
  have hvR : ∀ j q, st_own[j]? = some q → vk_R q.1 q.2.1 q.2.2 (adK j) s := by
    intro j q hq
    have hj : j < 13 := (List.getElem?_eq_some_iff.mp hq).1
    have e1 : st_own.getD j ("", 0, "") = q := by rw [List.getD_eq_getElem?_getD, hq]; rfl
    have w1 := hts _ (lx_f4 j (List.mem_range.mpr hj))
    have w2 := hev j hj
    rw [e1] at w1
    unfold lx_tm at w2
    rw [e1] at w2
    exact vk_R.of w1 w2
  -- statics
  have hcs : (Term.static "java/lang/String" "COMPACT_STRINGS" "Z").eval #[Value.ref b] s none [] s = some (.int 1) := by
    have h := hfl _ lx_f5.2.2.1
    cases hv : (Term.static "java/lang/String" "COMPACT_STRINGS" "Z").eval #[Value.ref b] s none [] s with
    | none => simp [Cond.before, Cond.holds, Cond.value, hv] at h
    | some w =>
      have e2 : (Term.int 1).eval #[Value.ref b] s none [] s = some (.int 1) := rfl
      simp only [Cond.before, Cond.holds, Cond.value, hv, e2] at h
      cases w <;> simp at h
      rw [h]
  have hZ : st_Z s.heap.size adK adV s := ⟨hvS, va_Zof (hts _ lx_f6.2.2.1) (hts _ lx_f6.2.2.2.2.2.1) hcs hA, va_Zqof (hts _ lx_f6.2.2.2.1) (hts _ lx_f6.2.2.2.2.2.2) (hfl _ lx_f5.2.2.2.1) hA, hvR, va_Zqof (hts _ lx_f6.1) (hts _ lx_f6.2.2.2.2.1) (hfl _ lx_f5.1) hA, va_Zqof (hts _ lx_f6.2.1) (hts _ lx_f6.2.2.2.2.1) (hfl _ lx_f5.2.1) hA, th_L.of (hts _ lx_f6.1) hA, th_L.of (hts _ lx_f6.2.1) hA⟩
  -- arrays
  obtain ⟨a0, p0, q0⟩ := lx_prim (hts _ lx_f7.1) (fun C h => by cases h)
  obtain ⟨a1, p1, q1⟩ := lx_prim (hts _ lx_f7.2.1) (fun C h => by cases h)
  obtain ⟨a2, p2, q2⟩ := lx_prim (hts _ lx_f7.2.2.1) (fun C h => by cases h)
  obtain ⟨a3, p3, q3⟩ := lx_prim (hts _ lx_f7.2.2.2.1) (fun C h => by cases h)
  have hao := hts _ lx_f7.2.2.2.2
  obtain ⟨comp, a4, k4, g1, -, g3, g4, g5⟩ := Cond.arrayOver_spec hao
  have hty : ∀ (k : Nat) (q : ClassId × FieldType), [(a0, FieldType.int), (a1, .long), (a2, .char), (a3, .boolean), (a4, .object "ConditionDesk$Condition")][k]? = some q → ArrOfT s q.1 q.2 ∧ va_RA s q.1 q.2 := by
    intro k q hq
    match k, hq with
    | 0, hq => cases hq; exact ⟨p0, q0⟩
    | 1, hq => cases hq; exact ⟨p1, q1⟩
    | 2, hq => cases hq; exact ⟨p2, q2⟩
    | 3, hq => cases hq; exact ⟨p3, q3⟩
    | 4, hq => cases hq; exact ⟨fun n z => ⟨fun k h => (by cases h), k4, g3, comp, g4⟩, k4, comp, g3, g4, g1, g5⟩
    | k + 5, hq => simp at hq
  -- classes
  have hcl : ∀ ci : Nat, ∃ w : ClassId × (Nat → Nat), ∀ q : vw_C, tb_cl[ci]? = some q → u_Kn s q.1 q.2.1 q.2.2 w.1 w.2 := by
    intro ci
    cases hq : tb_cl[ci]? with
    | none => exact ⟨(0, fun _ => 0), fun q h => by cases h⟩
    | some q =>
      obtain ⟨C, T, N⟩ := q
      have hl : ci < 10 := (List.getElem?_eq_some_iff.mp hq).1
      have h8 := lx_f8 ci (List.mem_range.mpr hl)
      simp only [lx_inC, hq] at h8
      obtain ⟨w, hw, hw2⟩ := List.any_eq_true.mp h8
      have hw3 := of_decide_eq_true hw2
      rw [hw3] at hw
      obtain ⟨cC, iS, hkn⟩ := u_known (C := C) (T := T) (N := N) (n := N) (ws := tb_gd) (args := #[Value.ref b]) (s := s) (fun w hw => hts w (List.mem_filter.mp hw).1) (tb_cl_ws hq) (hts _ hw)
      exact ⟨(cC, iS), fun q h => by cases h; exact hkn⟩
  have hD := Classical.choose_spec (Classical.axiomOfChoice hcl)
  refine ⟨(fun ci => ((Classical.choose (Classical.axiomOfChoice hcl)) ci).1, fun ci => ((Classical.choose (Classical.axiomOfChoice hcl)) ci).2), [(a0, .int), (a1, .long), (a2, .char), (a3, .boolean), (a4, .object "ConditionDesk$Condition")], fun j => if j = 1000 then b else adK j, adV, ?_, ⟨fun c q hq => hD c q hq, hty⟩, ⟨⟨?_, va_AO.of hao, st_Zx hZ (fun j hj => if_neg (by omega))⟩, ?_⟩, if_pos rfl⟩
  · intro t ty ht
    match t, ht with
    | 0, ht => cases ht; rfl
    | 1, ht => cases ht; rfl
    | 2, ht => cases ht; rfl
    | 3, ht => cases ht; rfl
    | 4, ht => cases ht; rfl
    | t + 5, ht => simp [tb_tt] at ht
  · intro w hw hn
    refine va_Nw.of ?_ (hts w hw)
    cases w <;> first | rfl | cases hn
  · have h := Cond.holds_not_iff.mp (hfl _ lx_f5.2.2.2.2)
    simp only [Cond.value] at h
    cases h1 : s.vm.findClass "java/lang/IllegalStateException" with
    | none => simp [h1] at h
    | some c =>
      cases h2 : s.vm.findClass "java/lang/IllegalArgumentException" with
      | none => simp [h1, h2] at h
      | some t => simp [h1, h2] at h; exact ⟨c, t, h1, h2, h⟩
