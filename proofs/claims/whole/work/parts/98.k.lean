/-! From the kernel's word to the heap of the law. -/
theorem ev_i {v : Value} {c : Nat} {k : Nat} (h : ev_ v = (match c with
    | 0 => (0, 0)
    | 1 => (1, 0)
    | r + 2 => (2, (r : Int)))) : v = sk_f (fun _ => 0) (fun _ => 0) k c := by
  rcases c with _ | _ | r
  · cases v
    case int x =>
      have h1 : x.toInt = 0 := congrArg Prod.snd h
      have h2 : x = 0 := Int32.toInt_inj.mp h1
      rw [h2]; rfl
    all_goals exact absurd (congrArg Prod.fst h) (by simp [ev_])
  · cases v
    case long x =>
      have h1 : x.toInt = 0 := congrArg Prod.snd h
      have h2 : x = 0 := Int64.toInt_inj.mp h1
      rw [h2]; rfl
    all_goals exact absurd (congrArg Prod.fst h) (by simp [ev_])
  · cases v
    case ref x =>
      have h1 : (x : Int) = (r : Int) := congrArg Prod.snd h
      have h2 : x = r := Int.ofNat.inj h1
      rw [h2]; rfl
    all_goals exact absurd (congrArg Prod.fst h) (by simp [ev_])
theorem ev_l {fs : List Value} {cs : List Nat} (h : fs.map ev_ = cs.map (fun c => match c with
    | 0 => (0, 0)
    | 1 => (1, 0)
    | r + 2 => (2, (r : Int)))) : fs = cs.mapIdx (sk_f (fun _ => 0) (fun _ => 0)) := by
  apply List.ext_getElem?
  intro j
  have hj := congrArg (fun l => l[j]?) h
  rw [List.getElem?_map, List.getElem?_map] at hj
  rw [List.getElem?_mapIdx]
  cases h1 : fs[j]? with
  | none =>
    rw [h1] at hj
    cases h2 : cs[j]? with
    | none => rfl
    | some c => rw [h2] at hj; cases hj
  | some v =>
    rw [h1] at hj
    cases h2 : cs[j]? with
    | none => rw [h2] at hj; cases hj
    | some c =>
      rw [h2] at hj
      have h3 := Option.some.inj hj
      rw [Option.map_some, ev_i (k := j) h3]
theorem er_eq {Q : Nat → Option Nat} {e : va_E} {s : sk_E} (h : er_ e = es_ s) (hz : zc e) (hq : ∀ t n q, e = .inl (t, n, .inr (.inr (.inr (.inr q)))) → q = Q) : e = sk_e Q s (fun _ => 0) (fun _ => 0) := by
  rcases s with ⟨ci, cs⟩ | ⟨t, n, k⟩
  · rcases e with ⟨t', n', f | g | a | b | q⟩ | ⟨ci', fs⟩
    · exact absurd (congrArg Prod.fst h) (by simp [er_, es_])
    · exact absurd (congrArg Prod.fst h) (by simp [er_, es_])
    · exact absurd (congrArg Prod.fst h) (by simp [er_, es_])
    · exact absurd (congrArg Prod.fst h) (by simp [er_, es_])
    · exact absurd (congrArg Prod.fst h) (by simp [er_, es_])
    · have h1 : ci' = ci := congrArg (fun q => q.2.1) h
      have h2 := ev_l (congrArg (fun q => q.2.2) h)
      rw [h1, h2]
      rfl
  · match k, h with
    | 0, h =>
      rcases e with ⟨t', n', f | g | a | b | q⟩ | ⟨ci', fs⟩
      · have h1 : t' = t := congrArg (fun q => q.2.1) h
        have h2 : [(n', (0 : Int))] = [(n, 0)] := congrArg (fun q => q.2.2) h
        have h3 : n' = n := by simpa using h2
        have h4 : f = fun _ => 0 := hz
        rw [h1, h3, h4]
        rfl
      · exact absurd (congrArg Prod.fst h) (by simp [er_, es_])
      · exact absurd (congrArg Prod.fst h) (by simp [er_, es_])
      · exact absurd (congrArg Prod.fst h) (by simp [er_, es_])
      · exact absurd (congrArg Prod.fst h) (by simp [er_, es_])
      · exact absurd (congrArg Prod.fst h) (by simp [er_, es_])
    | 1, h =>
      rcases e with ⟨t', n', f | g | a | b | q⟩ | ⟨ci', fs⟩
      · exact absurd (congrArg Prod.fst h) (by simp [er_, es_])
      · have h1 : t' = t := congrArg (fun q => q.2.1) h
        have h2 : [(n', (0 : Int))] = [(n, 0)] := congrArg (fun q => q.2.2) h
        have h3 : n' = n := by simpa using h2
        have h4 : g = fun _ => 0 := hz
        rw [h1, h3, h4]
        rfl
      · exact absurd (congrArg Prod.fst h) (by simp [er_, es_])
      · exact absurd (congrArg Prod.fst h) (by simp [er_, es_])
      · exact absurd (congrArg Prod.fst h) (by simp [er_, es_])
      · exact absurd (congrArg Prod.fst h) (by simp [er_, es_])
    | k + 2, h =>
      rcases e with ⟨t', n', f | g | a | b | q⟩ | ⟨ci', fs⟩
      · exact absurd (congrArg Prod.fst h) (by simp [er_, es_])
      · exact absurd (congrArg Prod.fst h) (by simp [er_, es_])
      · exact absurd (congrArg Prod.fst h) (by simp [er_, es_])
      · exact absurd (congrArg Prod.fst h) (by simp [er_, es_])
      · have h1 : t' = t := congrArg (fun q => q.2.1) h
        have h2 := congrArg (fun q => q.2.2) h
        simp only [er_, es_, List.cons.injEq, Prod.mk.injEq, and_true] at h2
        have h4 : q = Q := hq _ _ _ rfl
        rw [h1, h2.1, h4]
        rfl
      · exact absurd (congrArg Prod.fst h) (by simp [er_, es_])
def zQ (A : xm_H) : Nat → Option Nat := match A[(19 : Nat)]? with
  | some (.inl (_, _, .inr (.inr (.inr (.inr q))))) => q
  | _ => fun _ => none
theorem es_3 {s : sk_E} {a : Nat × List (Nat × Int)} (h : (3, a) = es_ s) : ∃ t n k, s = .inr (t, n, k + 2) := by
  rcases s with ⟨ci, cs⟩ | ⟨t, n, k⟩
  · exact absurd (congrArg Prod.fst h) (by simp [es_])
  · match k, h with
    | 0, h => exact absurd (congrArg Prod.fst h) (by simp [es_])
    | 1, h => exact absurd (congrArg Prod.fst h) (by simp [es_])
    | k + 2, h => exact ⟨t, n, k, rfl⟩
theorem z_at {p : Nat} {t n k : Nat} (h : SK[p]? = some (.inr (t, n, k + 2))) : p = 19 := by
  have hl : p < 120 := (List.getElem?_eq_some_iff.mp h).1
  have h1 := List.all_eq_true.mp z19 p (List.mem_range.mpr hl)
  rw [h] at h1
  exact of_decide_eq_true h1
theorem z_bld {A : xm_H} (h : A.map er_ = SK.map es_) (hz : zz A) : A = bld (zQ A) (fun _ _ => 0) (fun _ _ => 0) := by
  apply List.ext_getElem?
  intro p
  have hp := congrArg (fun l => l[p]?) h
  rw [List.getElem?_map, List.getElem?_map] at hp
  unfold bld
  rw [List.getElem?_mapIdx]
  cases h1 : A[p]? with
  | none =>
    rw [h1] at hp
    cases h2 : SK[p]? with
    | none => rfl
    | some s => rw [h2] at hp; cases hp
  | some e =>
    rw [h1] at hp
    cases h2 : SK[p]? with
    | none => rw [h2] at hp; cases hp
    | some s =>
      rw [h2] at hp
      have h3 : er_ e = es_ s := Option.some.inj hp
      rw [Option.map_some, er_eq (Q := zQ A) h3 (hz e (List.mem_of_getElem? h1)) ?_]
      intro t n q he
      rw [he] at h3 h1
      obtain ⟨t', n', k, hs⟩ := es_3 h3
      rw [hs] at h2
      have hp19 := z_at h2
      rw [hp19] at h1
      unfold zQ
      rw [h1]
theorem z_Q {A : xm_H} (h : A.map er_ = SK.map es_) : ∀ j, j < 8 → zQ A j = some (20 + 9 * j) := by
  intro j hj
  have hp := congrArg (fun l => l[19]?) h
  rw [List.getElem?_map, List.getElem?_map, sk_19] at hp
  unfold zQ
  cases h1 : A[19]? with
  | none => rw [h1] at hp; cases hp
  | some e =>
    rw [h1] at hp
    have h3 := Option.some.inj hp
    rcases e with ⟨t', n', f | g | a | b | q⟩ | ⟨ci', fs⟩
    · exact absurd (congrArg Prod.fst h3) (by simp [er_, es_])
    · exact absurd (congrArg Prod.fst h3) (by simp [er_, es_])
    · exact absurd (congrArg Prod.fst h3) (by simp [er_, es_])
    · exact absurd (congrArg Prod.fst h3) (by simp [er_, es_])
    · have h2 := congrArg (fun q => q.2.2[j + 1]?) h3
      simp only [er_, es_, List.getElem?_cons_succ, List.getElem?_map, List.getElem?_range hj, Option.map_some, Option.some.injEq] at h2
      dsimp only
      cases h4 : q j with
      | none => rw [h4] at h2; exact absurd (show (0 : Int) = 1 from congrArg Prod.snd h2) (by decide)
      | some r =>
        rw [h4] at h2
        have h5 : r = 20 + 9 * j := congrArg Prod.fst h2
        rw [h5]
    · exact absurd (congrArg Prod.fst h3) (by simp [er_, es_])
theorem z_inv : Inv2 0 (fun _ _ => 0) (fun _ _ => 0) (fun _ _ => 0) (fun _ _ => 0) := by
  refine ⟨⟨0, fun _ => 32, ⟨rfl, by omega, fun i hi => by omega⟩, ⟨rfl, by omega, fun i hi => by omega⟩⟩, ⟨fun _ _ => rfl, fun _ _ => ⟨rfl, 0, by omega, rfl⟩, rfl⟩, rfl, fun k hk => ⟨rfl, Or.inl rfl, fun e => ?_⟩⟩
  exact absurd (show nn 0 = nn 1 from e) (by decide)
theorem z_zz : zz zH := by
  have a0 := (tb_zx_ok _ _ _ _ _ _ _ _ zx_0).2
  have a1 := (tb_zx_ok _ _ _ _ _ _ _ _ zx_1).2
  have b0 : zz [z_0] := fun e he => by rw [List.mem_singleton.mp he]; trivial
  exact zz_app (a1 (zz_app (a0 b0) trivial)) rfl
