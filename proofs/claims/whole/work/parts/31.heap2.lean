/-! Printed by wip/whole/gen_sk.py. The law's heap: 120 cells; every int by place and slot (I), every long (J); references stay as they are. -/
abbrev dI : Type := Nat → Nat → Int32
abbrev dJ : Type := Nat → Nat → Int64
abbrev sk_E : Type := (Nat × List Nat) ⊕ (Nat × Nat × Nat)
def sk_f (f : Nat → Int32) (g : Nat → Int64) (k : Nat) (c : Nat) : Value := match c with
  | 0 => .int (f k)
  | 1 => .long (g k)
  | r + 2 => .ref r
def sk_e (Q : Nat → Option Nat) (e : sk_E) (f : Nat → Int32) (g : Nat → Int64) : va_E := match e with
  | .inl (ci, cs) => .inr (ci, cs.mapIdx (sk_f f g))
  | .inr (t, n, 0) => .inl (t, n, .inl f)
  | .inr (t, n, 1) => .inl (t, n, .inr (.inl g))
  | .inr (t, n, _ + 2) => .inl (t, n, .inr (.inr (.inr (.inr Q))))
def SK : List sk_E := [.inl (8, [3, 5, 8, 21, 1]), .inl (5, [4, 0]), .inr (2, 120, 0), .inl (2, [6, 7, 1]), .inr (0, 34, 0), .inr (0, 256, 0), .inl (0, [3, 20, 9, 14, 16, 18, 0]), .inl (4, [10, 11, 12, 13, 0, 0]), .inr (0, 40, 0),
  .inr (0, 40, 0), .inr (0, 40, 0), .inr (1, 40, 1), .inl (3, [15, 0]), .inr (0, 80, 0), .inl (3, [17, 0]), .inr (0, 40, 0), .inl (3, [19, 0]), .inr (0, 8, 0),
  .inl (6, [3, 0, 0, 0, 1]), .inr (4, 8, 2), .inl (1, [23, 0, 0, 1, 1, 1, 1]), .inl (7, [5, 24, 29, 30, 0, 0, 0]), .inl (4, [25, 26, 27, 28, 0, 0]), .inr (0, 40, 0), .inr (0, 40, 0), .inr (0, 40, 0), .inr (1, 40, 1),
  .inr (1, 40, 1), .inr (1, 40, 1), .inl (1, [32, 0, 0, 1, 1, 1, 1]), .inl (7, [5, 33, 38, 39, 0, 0, 0]), .inl (4, [34, 35, 36, 37, 0, 0]), .inr (0, 40, 0), .inr (0, 40, 0), .inr (0, 40, 0), .inr (1, 40, 1),
  .inr (1, 40, 1), .inr (1, 40, 1), .inl (1, [41, 0, 0, 1, 1, 1, 1]), .inl (7, [5, 42, 47, 48, 0, 0, 0]), .inl (4, [43, 44, 45, 46, 0, 0]), .inr (0, 40, 0), .inr (0, 40, 0), .inr (0, 40, 0), .inr (1, 40, 1),
  .inr (1, 40, 1), .inr (1, 40, 1), .inl (1, [50, 0, 0, 1, 1, 1, 1]), .inl (7, [5, 51, 56, 57, 0, 0, 0]), .inl (4, [52, 53, 54, 55, 0, 0]), .inr (0, 40, 0), .inr (0, 40, 0), .inr (0, 40, 0), .inr (1, 40, 1),
  .inr (1, 40, 1), .inr (1, 40, 1), .inl (1, [59, 0, 0, 1, 1, 1, 1]), .inl (7, [5, 60, 65, 66, 0, 0, 0]), .inl (4, [61, 62, 63, 64, 0, 0]), .inr (0, 40, 0), .inr (0, 40, 0), .inr (0, 40, 0), .inr (1, 40, 1),
  .inr (1, 40, 1), .inr (1, 40, 1), .inl (1, [68, 0, 0, 1, 1, 1, 1]), .inl (7, [5, 69, 74, 75, 0, 0, 0]), .inl (4, [70, 71, 72, 73, 0, 0]), .inr (0, 40, 0), .inr (0, 40, 0), .inr (0, 40, 0), .inr (1, 40, 1),
  .inr (1, 40, 1), .inr (1, 40, 1), .inl (1, [77, 0, 0, 1, 1, 1, 1]), .inl (7, [5, 78, 83, 84, 0, 0, 0]), .inl (4, [79, 80, 81, 82, 0, 0]), .inr (0, 40, 0), .inr (0, 40, 0), .inr (0, 40, 0), .inr (1, 40, 1),
  .inr (1, 40, 1), .inr (1, 40, 1), .inl (1, [86, 0, 0, 1, 1, 1, 1]), .inl (7, [5, 87, 92, 93, 0, 0, 0]), .inl (4, [88, 89, 90, 91, 0, 0]), .inr (0, 40, 0), .inr (0, 40, 0), .inr (0, 40, 0), .inr (1, 40, 1),
  .inr (1, 40, 1), .inr (1, 40, 1), .inl (9, [0, 0, 95, 96, 97, 1, 98, 99, 100, 101, 102, 103, 104, 105, 106, 107, 108, 109, 110, 111, 1, 0, 0, 0, 0, 0, 0, 1, 112, 113, 114, 115, 0, 0, 0, 1, 116, 117, 118, 119, 120]), .inr (2, 120, 0), .inr (0, 34, 0), .inr (0, 256, 0), .inr (3, 8, 0), .inr (3, 8, 0), .inr (0, 8, 0),
  .inr (0, 8, 0), .inr (0, 8, 0), .inr (0, 8, 0), .inr (0, 8, 0), .inr (1, 8, 1), .inr (1, 8, 1), .inr (0, 960, 0), .inr (0, 960, 0), .inr (1, 960, 1),
  .inr (1, 960, 1), .inr (1, 120, 1), .inr (0, 120, 0), .inr (0, 120, 0), .inr (0, 10, 0), .inr (1, 120, 1), .inr (0, 130, 0), .inr (0, 130, 0), .inr (0, 130, 0),
  .inr (0, 130, 0), .inr (1, 130, 1), .inr (1, 1, 1)]
def bld (Q : Nat → Option Nat) (I : dI) (J : dJ) : xm_H := SK.mapIdx (fun p e => sk_e Q e (I p) (J p))
def rI (I : dI) (p : Nat) (f : Nat → Int32) : dI := fun q => if q = p then f else I q
def rJ (J : dJ) (p : Nat) (f : Nat → Int64) : dJ := fun q => if q = p then f else J q
def sI (I : dI) (p k : Nat) (v : Int32) : dI := rI I p (upd (I p) k v)
def sJ (J : dJ) (p k : Nat) (v : Int64) : dJ := rJ J p (vp_updL (J p) k v)
theorem rI_self (I : dI) (p : Nat) : rI I p (I p) = I := by
  funext q
  by_cases h : q = p
  · subst h; simp [rI]
  · simp [rI, h]
theorem rJ_self (J : dJ) (p : Nat) : rJ J p (J p) = J := by
  funext q
  by_cases h : q = p
  · subst h; simp [rJ]
  · simp [rJ, h]
section HPA
variable {Q : Nat → Option Nat} {I : dI} {J : dJ} {p k : Nat}
theorem bld_len : (bld Q I J).length = 120 := by
  simp [bld]
  rfl
theorem bld_get {e : sk_E} (h : SK[p]? = some e) : (bld Q I J)[p]? = some (sk_e Q e (I p) (J p)) := by
  simp [bld, List.getElem?_mapIdx, h]
theorem bld_set {e : sk_E} (h : SK[p]? = some e) (f : Nat → Int32) (g : Nat → Int64) : (bld Q I J).set p (sk_e Q e f g) = bld Q (rI I p f) (rJ J p g) := by
  apply List.ext_getElem?
  intro q
  by_cases hq : p = q
  · subst hq
    have hl : p < SK.length := (List.getElem?_eq_some_iff.mp h).1
    have e1 : p < (bld Q I J).length := by simpa [bld] using hl
    rw [List.getElem?_set, if_pos rfl, if_pos e1, bld_get h]
    simp [rI, rJ]
  · have hq' : ¬ q = p := fun e => hq e.symm
    rw [List.getElem?_set, if_neg hq]
    simp [bld, List.getElem?_mapIdx, rI, rJ, hq']
theorem bld_setI {e : sk_E} (h : SK[p]? = some e) (f : Nat → Int32) : (bld Q I J).set p (sk_e Q e f (J p)) = bld Q (rI I p f) J := by
  rw [bld_set h, rJ_self]
theorem bld_setJ {e : sk_E} (h : SK[p]? = some e) (g : Nat → Int64) : (bld Q I J).set p (sk_e Q e (I p) g) = bld Q I (rJ J p g) := by
  rw [bld_set h, rI_self]
theorem sk_setI {cs : List Nat} {f : Nat → Int32} {g : Nat → Int64} {v : Int32} (h : cs[k]? = some 0) : (cs.mapIdx (sk_f f g)).set k (.int v) = cs.mapIdx (sk_f (upd f k v) g) := by
  apply List.ext_getElem?
  intro q
  have hl : k < cs.length := (List.getElem?_eq_some_iff.mp h).1
  by_cases hq : k = q
  · subst hq
    rw [List.getElem?_set, if_pos rfl, if_pos (by simpa using hl), List.getElem?_mapIdx, h]
    simp [sk_f, upd]
  · rw [List.getElem?_set, if_neg hq, List.getElem?_mapIdx, List.getElem?_mapIdx]
    cases hc : cs[q]? with
    | none => rfl
    | some c =>
      have hq' : ¬ q = k := fun e => hq e.symm
      match c with
      | 0 => simp [sk_f, upd, hq']
      | 1 => rfl
      | r + 2 => rfl
theorem sk_setJ {cs : List Nat} {f : Nat → Int32} {g : Nat → Int64} {v : Int64} (h : cs[k]? = some 1) : (cs.mapIdx (sk_f f g)).set k (.long v) = cs.mapIdx (sk_f f (vp_updL g k v)) := by
  apply List.ext_getElem?
  intro q
  have hl : k < cs.length := (List.getElem?_eq_some_iff.mp h).1
  by_cases hq : k = q
  · subst hq
    rw [List.getElem?_set, if_pos rfl, if_pos (by simpa using hl), List.getElem?_mapIdx, h]
    simp [sk_f, vp_updL]
  · rw [List.getElem?_set, if_neg hq, List.getElem?_mapIdx, List.getElem?_mapIdx]
    cases hc : cs[q]? with
    | none => rfl
    | some c =>
      have hq' : ¬ q = k := fun e => hq e.symm
      match c with
      | 0 => rfl
      | 1 => simp [sk_f, vp_updL, hq']
      | r + 2 => rfl
end HPA
/-- fewer locals are known here than there -/
def xm_sub (ls l2 : xm_L) : Prop := (∀ q ∈ ls, q ∈ l2) ∧ ∀ q ∈ l2, ∀ q' ∈ l2, q.1 = q'.1 → q = q'
theorem xm_sub_ld {ls l2 : xm_L} {i : Nat} {v : Value} (h : xm_sub ls l2) (e : xm_ld ls i = some v) : xm_ld l2 i = some v := by
  have hm := h.1 _ (xm_ld_mem e)
  unfold xm_ld
  cases hf : l2.find? (fun q => q.1 == i) with
  | none =>
    have := List.find?_eq_none.mp hf _ hm
    simp at this
  | some q =>
    have hq : q.1 = i := by simpa using List.find?_some hf
    have hm2 := List.mem_of_find?_eq_some hf
    have := h.2 _ hm2 _ hm hq
    rw [this]
    rfl
theorem xm_sub_s1 {ls l2 : xm_L} {i : Nat} {v : Value} (h : xm_sub ls l2) : xm_sub (xm_s1 ls i v) (xm_s1 l2 i v) := by
  refine ⟨fun q hq => ?_, fun q hq q' hq' he => ?_⟩
  · rcases List.mem_cons.mp hq with rfl | hq
    · exact List.mem_cons_self
    · obtain ⟨h1, h2⟩ := List.mem_filter.mp hq
      exact List.mem_cons_of_mem _ (List.mem_filter.mpr ⟨h.1 _ h1, h2⟩)
  · rcases List.mem_cons.mp hq with rfl | hq
    · rcases List.mem_cons.mp hq' with rfl | hq'
      · rfl
      · obtain ⟨h1, h2⟩ := List.mem_filter.mp hq'
        simp only [Bool.and_eq_true, Bool.not_eq_true', beq_eq_false_iff_ne] at h2
        exact absurd he.symm h2.1
    · obtain ⟨h1, h2⟩ := List.mem_filter.mp hq
      rcases List.mem_cons.mp hq' with rfl | hq'
      · simp only [Bool.and_eq_true, Bool.not_eq_true', beq_eq_false_iff_ne] at h2
        exact absurd he h2.1
      · exact h.2 _ h1 _ (List.mem_filter.mp hq').1 he
theorem xm_sub_s2 {ls l2 : xm_L} {i : Nat} {v : Value} (h : xm_sub ls l2) : xm_sub (xm_s2 ls i v) (xm_s2 l2 i v) := by
  refine ⟨fun q hq => ?_, fun q hq q' hq' he => ?_⟩
  · rcases List.mem_cons.mp hq with rfl | hq
    · exact List.mem_cons_self
    · obtain ⟨h1, h2⟩ := List.mem_filter.mp hq
      exact List.mem_cons_of_mem _ (List.mem_filter.mpr ⟨h.1 _ h1, h2⟩)
  · rcases List.mem_cons.mp hq with rfl | hq
    · rcases List.mem_cons.mp hq' with rfl | hq'
      · rfl
      · obtain ⟨h1, h2⟩ := List.mem_filter.mp hq'
        simp only [Bool.and_eq_true, Bool.not_eq_true', beq_eq_false_iff_ne] at h2
        exact absurd he.symm h2.1
    · obtain ⟨h1, h2⟩ := List.mem_filter.mp hq
      rcases List.mem_cons.mp hq' with rfl | hq'
      · simp only [Bool.and_eq_true, Bool.not_eq_true', beq_eq_false_iff_ne] at h2
        exact absurd he h2.1
      · exact h.2 _ h1 _ (List.mem_filter.mp hq').1 he
set_option maxHeartbeats 4000000 in
theorem xm_pu_sub {nL n : Nat} {i : Jvm.ClassFile.Instr} {ls ls' l2 : xm_L} {st st' : List Value} (h : xm_sub ls l2) (e : xm_pu nL i n ls st = some (ls', st')) : ∃ l2', xm_pu nL i n l2 st = some (l2', st') ∧ xm_sub ls' l2' := by
  cases i
  all_goals first
    | (simp [xm_pu] at e; done)
    | (obtain ⟨rfl, e1⟩ := xm_if e
       first
       | (cases e1; exact ⟨l2, rfl, h⟩)
       | (obtain ⟨x, hx, rfl, rfl⟩ := xm_li_s e1; exact ⟨l2, by simp [xm_pu, xm_li, xm_sub_ld h hx], h⟩)
       | (obtain ⟨x, hx, rfl, rfl⟩ := xm_ll_s e1; exact ⟨l2, by simp [xm_pu, xm_ll, xm_sub_ld h hx], h⟩)
       | (obtain ⟨rfl, ⟨x, hx, rfl⟩ | ⟨hx, rfl⟩⟩ := xm_la_s e1 <;> exact ⟨l2, by simp [xm_pu, xm_la, xm_sub_ld h hx], h⟩)
       | (obtain ⟨x, rfl, hj, rfl⟩ := xm_si_s e1; exact ⟨xm_s1 l2 _ (.int x), by simp [xm_pu, xm_si, hj], xm_sub_s1 h⟩)
       | (obtain ⟨x, rfl, hj, rfl⟩ := xm_sl_s e1; exact ⟨xm_s2 l2 _ (.long x), by simp [xm_pu, xm_sl, hj], xm_sub_s2 h⟩)
       | (obtain ⟨hj, ⟨x, rfl, rfl⟩ | ⟨rfl, rfl⟩⟩ := xm_sa_s e1
          · exact ⟨xm_s1 l2 _ (.ref x), by simp [xm_pu, xm_sa, hj], xm_sub_s1 h⟩
          · exact ⟨xm_s1 l2 _ .null, by simp [xm_pu, xm_sa, hj], xm_sub_s1 h⟩)
       | (obtain ⟨x, y, t, rfl, rfl, rfl⟩ := xm_ii_s e1; exact ⟨l2, rfl, h⟩)
       | (obtain ⟨x, y, t, rfl, rfl, rfl⟩ := xm_jj_s e1; exact ⟨l2, rfl, h⟩)
       | (obtain ⟨x, y, t, rfl, hy, rfl, rfl⟩ := xm_id_s e1; exact ⟨l2, by simp [xm_pu, xm_id, hy], h⟩)
       | (obtain ⟨x, y, t, rfl, hy, rfl, rfl⟩ := xm_jd_s e1; exact ⟨l2, by simp [xm_pu, xm_jd, hy], h⟩)
       | (obtain ⟨x, y, t, rfl, rfl, rfl⟩ := xm_ji_s e1; exact ⟨l2, rfl, h⟩)
       | (obtain ⟨x, y, t, rfl, rfl, rfl⟩ := xm_jc_s e1; exact ⟨l2, rfl, h⟩)
       | (obtain ⟨x, t, rfl, rfl, rfl⟩ := xm_i1_s e1; exact ⟨l2, rfl, h⟩)
       | (obtain ⟨x, t, rfl, rfl, rfl⟩ := xm_j1_s e1; exact ⟨l2, rfl, h⟩)
       | (split at e1
          · rename_i x hx
            obtain ⟨hj, e2⟩ := xm_if e1
            cases e2
            exact ⟨xm_s1 l2 _ (.int (x + _)), by simp [xm_pu, xm_sub_ld h hx, hj], xm_sub_s1 h⟩
          · cases e1)
       | (split at e1
          · obtain ⟨hj, e2⟩ := xm_if e1
            cases e2
            exact ⟨l2, by simp [xm_pu, hj], h⟩
          · cases e1)
       | (split at e1
          · split at e1
            · rename_i hj
              cases e1
              exact ⟨l2, by simp [xm_pu, hj], h⟩
            · rename_i hj
              split at e1
              · obtain ⟨hj2, e2⟩ := xm_if e1
                cases e2
                exact ⟨l2, by simp [xm_pu, hj, hj2], h⟩
              · cases e1
          · cases e1))
/-- a body's run from a place on; a method's run (nothing is made) -/
def xn (F D k f pc : Nat) (ls : xm_L) (st : List Value) (A : xm_H) : Option xm_R := xm_rn (tb_ex F D) (tb_xt k) xm_x0 tb_cl tb_tt tb_ft (tb_fr (tb_oc k)) (tb_ini k) (tb_nr (tb_oc k)) (tb_qr (tb_oc k)) tb_ta tb_oc (tb_cr (tb_oc k)) (tb_mb k) (tb_mL k) (tb_mr k) f pc ls st A 0 0
def Rn (Q : Nat → Option Nat) (D k pc : Nat) (ls : xm_L) (st : List Value) (I : dI) (J : dJ) (v : Option Value) (I' : dI) (J' : dJ) : Prop := ∀ l2, xm_sub ls l2 → ∃ F f, xn F D k f pc l2 st (bld Q I J) = some (bld Q I' J', .inl v, 0, 0)
def Ex (Q : Nat → Option Nat) (D k : Nat) (I : dI) (J : dJ) (As : List Value) (v : Option Value) (I' : dI) (J' : dJ) : Prop := ∃ F, tb_ex F D k (bld Q I J) As = some (bld Q I' J', .inl v, 0, 0)
section HPB
variable {Q : Nat → Option Nat} {D k pc n : Nat} {ls ls' : xm_L} {st st' : List Value} {I I' : dI} {J J' : dJ} {v : Option Value} {i : Jvm.ClassFile.Instr}
theorem Ex.up {D' : Nat} {As : List Value} (h : Ex Q D k I J As v I' J') (hD : D ≤ D') : Ex Q D' k I J As v I' J' := by
  obtain ⟨F, h⟩ := h
  exact ⟨F, tb_ex_up (Nat.le_refl _) _ _ _ _ _ _ hD h⟩
theorem Ex.of {As : List Value} (hk : tb_mok k = true) (hl : (lg_sl As).length ≤ tb_mL k) (ha : xm_sub ls (lv_args 0 As)) (h : Rn Q D k 0 ls [] I J v I' J') : Ex Q (D + 1) k I J As v I' J' := by
  obtain ⟨F, f, h⟩ := h _ ha
  refine ⟨F + f, ?_⟩
  unfold tb_ex
  rw [xm_ex, if_pos ⟨hk, hl⟩]
  exact xm_rn_up (fun k A As r h => tb_ex_up (Nat.le_add_right F f) _ _ _ _ _ _ (Nat.le_refl _) h) (fun _ _ _ _ _ h => h) _ _ _ _ _ _ _ _ (Nat.le_add_left f F) h
theorem Rn.wk (is : List Nat) (hs : is.filterMap (fun i => ls[i]?) = ls') (h : Rn Q D k pc ls' st I J v I' J') : Rn Q D k pc ls st I J v I' J' := by
  intro l2 h2
  refine h l2 ⟨fun q hq => h2.1 q ?_, h2.2⟩
  subst hs
  obtain ⟨i, -, hi⟩ := List.mem_filterMap.mp hq
  exact List.mem_of_getElem? hi
theorem Rn.pu {nL : Nat} (hd : decode (tb_mb k) pc = .ok (i, n)) (hL : tb_mL k = nL) (hp : xm_pu nL i n ls st = some (ls', st')) (h : Rn Q D k (pc + n) ls' st' I J v I' J') : Rn Q D k pc ls st I J v I' J' := by
  intro l2 h2
  obtain ⟨l2', hp', h2'⟩ := xm_pu_sub h2 hp
  obtain ⟨F, f, h⟩ := h l2' h2'
  refine ⟨F, f + 1, ?_⟩
  unfold xn at h ⊢
  rw [xm_rn, hd]
  dsimp only
  rw [hL] at h ⊢
  rw [hp']
  exact h
theorem Rn.br {b : Bool} {t : Nat} (hd : decode (tb_mb k) pc = .ok (i, n)) (hp : ∀ nL l, xm_pu nL i n l st = none) (hb : xm_br i n pc st = some (b, t, st')) (h : Rn Q D k (if b = true then t else pc + n) ls st' I J v I' J') : Rn Q D k pc ls st I J v I' J' := by
  intro l2 h2
  obtain ⟨F, f, h⟩ := h l2 h2
  refine ⟨F, f + 1, ?_⟩
  unfold xn at h ⊢
  rw [xm_rn, hd]
  dsimp only
  rw [hp]
  dsimp only
  rw [hb]
  dsimp only
  cases b with
  | true => rw [if_pos rfl] at h ⊢; exact h
  | false => rw [if_neg Bool.false_ne_true] at h ⊢; exact h
theorem Rn.hp (hd : decode (tb_mb k) pc = .ok (i, n)) (hp : ∀ nL l, xm_pu nL i n l st = none) (hb : xm_br i n pc st = none) {I1 : dI} {J1 : dJ} (hh : xm_hp tb_cl tb_tt tb_ft (tb_fr (tb_oc k)) (tb_ini k) i n st (bld Q I J) = some (st', bld Q I1 J1)) (h : Rn Q D k (pc + n) ls st' I1 J1 v I' J') : Rn Q D k pc ls st I J v I' J' := by
  intro l2 h2
  obtain ⟨F, f, h⟩ := h l2 h2
  refine ⟨F, f + 1, ?_⟩
  unfold xn at h ⊢
  rw [xm_rn, hd]
  dsimp only
  rw [hp]
  dsimp only
  rw [hb]
  dsimp only
  rw [hh]
  dsimp only
  exact h
theorem Rn.re (hd : decode (tb_mb k) pc = .ok (i, n)) (hp : ∀ nL l, xm_pu nL i n l st = none) (hb : xm_br i n pc st = none) (hh : ∀ fr A, xm_hp tb_cl tb_tt tb_ft fr (tb_ini k) i n st A = none) (hr : xm_re (tb_mr k) i n st = some v) : Rn Q D k pc ls st I J v I J := by
  intro l2 h2
  refine ⟨0, 1, ?_⟩
  unfold xn
  rw [xm_rn, hd]
  dsimp only
  rw [hp]
  dsimp only
  rw [hb]
  dsimp only
  rw [hh]
  dsimp only
  rw [hr]
theorem Rn.ca {k' : Nat} {As rest : List Value} {w : Option Value} {I1 : dI} {J1 : dJ} (hd : decode (tb_mb k) pc = .ok (i, n)) (hp : ∀ nL l, xm_pu nL i n l st = none) (hb : xm_br i n pc st = none) (hh : ∀ fr A, xm_hp tb_cl tb_tt tb_ft fr (tb_ini k) i n st A = none) (hr : ∀ r, xm_re r i n st = none)
    (hc : xm_ca tb_oc (tb_cr (tb_oc k)) i n st (bld Q I J) = some (k', As, rest)) (he : Ex Q D k' I J As w I1 J1) (h : Rn Q D k (pc + 3) ls (w.toList ++ rest) I1 J1 v I' J') : Rn Q D k pc ls st I J v I' J' := by
  intro l2 h2
  obtain ⟨F, f, h⟩ := h l2 h2
  obtain ⟨F1, he⟩ := he
  refine ⟨F1 + F, f + 1, ?_⟩
  unfold xn at h ⊢
  rw [xm_rn, hd]
  dsimp only
  rw [hp]
  dsimp only
  rw [hb]
  dsimp only
  rw [hh]
  dsimp only
  rw [hr]
  dsimp only
  rw [hc]
  dsimp only
  rw [tb_ex_up (Nat.le_add_right F1 F) _ _ _ _ _ _ (Nat.le_refl _) he]
  dsimp only
  rw [if_pos (Or.inl (by rw [bld_len, bld_len]))]
  exact xm_rn_up (fun k A As r h => tb_ex_up (Nat.le_add_left F F1) _ _ _ _ _ _ (Nat.le_refl _) h) (fun _ _ _ _ _ h => h) _ _ _ _ _ _ _ _ (Nat.le_refl _) h
theorem Rn.xt {I1 : dI} {J1 : dJ} (hd : decode (tb_mb k) pc = .ok (i, n)) (hp : ∀ nL l, xm_pu nL i n l st = none) (hb : xm_br i n pc st = none) (hh : ∀ fr A, xm_hp tb_cl tb_tt tb_ft fr (tb_ini k) i n st A = none) (hr : ∀ r, xm_re r i n st = none)
    (hc : xm_ca tb_oc (tb_cr (tb_oc k)) i n st (bld Q I J) = none) (hw : xm_nw tb_cl tb_tt tb_ft (tb_nr (tb_oc k)) (tb_qr (tb_oc k)) tb_ta i n st = none) (hx : tb_xt k i n st (bld Q I J) = some (st', bld Q I1 J1)) (h : Rn Q D k (pc + n) ls st' I1 J1 v I' J') : Rn Q D k pc ls st I J v I' J' := by
  intro l2 h2
  obtain ⟨F, f, h⟩ := h l2 h2
  refine ⟨F, f + 1, ?_⟩
  unfold xn at h ⊢
  rw [xm_rn, hd]
  dsimp only
  rw [hp]
  dsimp only
  rw [hb]
  dsimp only
  rw [hh]
  dsimp only
  rw [hr]
  dsimp only
  rw [hc]
  dsimp only
  rw [hw]
  dsimp only
  rw [hx]
  dsimp only
  exact h
end HPB
