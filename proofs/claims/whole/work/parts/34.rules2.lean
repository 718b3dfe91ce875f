/-! Rules of calls by what they answer, of divisions; the start of a method. -/
section RUB
variable {Q : Nat → Option Nat} {D k pc p x ci : Nat} {b : Bool} {cs : List Nat} {ls : xm_L} {st : List Value} {I I' I1 : dI} {J J' J1 : dJ} {v : Option Value} {k' na : Nat} {As rest : List Value}
theorem Rn.cvI {w : Int32} (hd : decode (tb_mb k) pc = .ok (.invokevirtual x, 3)) (hc : tb_cr (tb_oc k) x = some (0, k', b, na)) (hv : xm_sv na st = some (p, As, rest)) (hs : SK[p]? = some (.inl (ci, cs))) (ho : tb_oc k' = ci) (he : Ex Q D k' I J (.ref p :: As) (some (.int w)) I1 J1) (h : Rn Q D k (pc + 3) ls (.int w :: rest) I1 J1 v I' J') : Rn Q D k pc ls st I J v I' J' := Rn.cv hd hc hv hs ho he h
theorem Rn.cvJ {w : Int64} (hd : decode (tb_mb k) pc = .ok (.invokevirtual x, 3)) (hc : tb_cr (tb_oc k) x = some (0, k', b, na)) (hv : xm_sv na st = some (p, As, rest)) (hs : SK[p]? = some (.inl (ci, cs))) (ho : tb_oc k' = ci) (he : Ex Q D k' I J (.ref p :: As) (some (.long w)) I1 J1) (h : Rn Q D k (pc + 3) ls (.long w :: rest) I1 J1 v I' J') : Rn Q D k pc ls st I J v I' J' := Rn.cv hd hc hv hs ho he h
theorem Rn.cvV (hd : decode (tb_mb k) pc = .ok (.invokevirtual x, 3)) (hc : tb_cr (tb_oc k) x = some (0, k', b, na)) (hv : xm_sv na st = some (p, As, rest)) (hs : SK[p]? = some (.inl (ci, cs))) (ho : tb_oc k' = ci) (he : Ex Q D k' I J (.ref p :: As) none I1 J1) (h : Rn Q D k (pc + 3) ls rest I1 J1 v I' J') : Rn Q D k pc ls st I J v I' J' := Rn.cv hd hc hv hs ho he h
theorem Rn.cvA {w : Value} (hd : decode (tb_mb k) pc = .ok (.invokevirtual x, 3)) (hc : tb_cr (tb_oc k) x = some (0, k', b, na)) (hv : xm_sv na st = some (p, As, rest)) (hs : SK[p]? = some (.inl (ci, cs))) (ho : tb_oc k' = ci) (he : Ex Q D k' I J (.ref p :: As) (some w) I1 J1) (h : Rn Q D k (pc + 3) ls (w :: rest) I1 J1 v I' J') : Rn Q D k pc ls st I J v I' J' := Rn.cv hd hc hv hs ho he h
theorem Rn.csI {w : Int32} (hd : decode (tb_mb k) pc = .ok (.invokestatic x, 3)) (hc : tb_cr (tb_oc k) x = some (1, k', b, na)) (hv : xm_ss na st = some (As, rest)) (he : Ex Q D k' I J As (some (.int w)) I1 J1) (h : Rn Q D k (pc + 3) ls (.int w :: rest) I1 J1 v I' J') : Rn Q D k pc ls st I J v I' J' := Rn.cst hd hc hv he h
theorem Rn.csJ {w : Int64} (hd : decode (tb_mb k) pc = .ok (.invokestatic x, 3)) (hc : tb_cr (tb_oc k) x = some (1, k', b, na)) (hv : xm_ss na st = some (As, rest)) (he : Ex Q D k' I J As (some (.long w)) I1 J1) (h : Rn Q D k (pc + 3) ls (.long w :: rest) I1 J1 v I' J') : Rn Q D k pc ls st I J v I' J' := Rn.cst hd hc hv he h
theorem Rn.csV (hd : decode (tb_mb k) pc = .ok (.invokestatic x, 3)) (hc : tb_cr (tb_oc k) x = some (1, k', b, na)) (hv : xm_ss na st = some (As, rest)) (he : Ex Q D k' I J As none I1 J1) (h : Rn Q D k (pc + 3) ls rest I1 J1 v I' J') : Rn Q D k pc ls st I J v I' J' := Rn.cst hd hc hv he h
theorem Rn.ldv {y z : Int64} (hd : decode (tb_mb k) pc = .ok (.ldiv, 1)) (hz : ¬ z = 0) (h : Rn Q D k (pc + 1) ls (.long (y / z) :: st) I J v I' J') : Rn Q D k pc ls (.long z :: .long y :: st) I J v I' J' := Rn.pu hd rfl (by simp only [xm_pu, xm_jd, if_true, hz, not_false_eq_true]) h
theorem Rn.lrm {y z : Int64} (hd : decode (tb_mb k) pc = .ok (.lrem, 1)) (hz : ¬ z = 0) (h : Rn Q D k (pc + 1) ls (.long (y - y / z * z) :: st) I J v I' J') : Rn Q D k pc ls (.long z :: .long y :: st) I J v I' J' := Rn.pu hd rfl (by simp only [xm_pu, xm_jd, if_true, hz, not_false_eq_true]) h
end RUB
theorem xm_sub_of {ls l : xm_L} (is ks : List Nat) (hs : is.filterMap (fun i => l[i]?) = ls) (hm : l.map (fun q => q.1) = ks) (hk : ks.Nodup) : xm_sub ls l := by
  subst hs
  subst hm
  refine ⟨fun q hq => ?_, ?_⟩
  · obtain ⟨i, -, hi⟩ := List.mem_filterMap.mp hq
    exact List.mem_of_getElem? hi
  · intro q hq q' hq' he
    induction l with
    | nil => cases hq
    | cons a l ih =>
      rw [List.map_cons, List.nodup_cons] at hk
      rcases List.mem_cons.mp hq with e1 | hq2
      · rcases List.mem_cons.mp hq' with e2 | hq2'
        · rw [e1, e2]
        · have h1 := List.mem_map_of_mem (f := fun q : Nat × Value => q.1) hq2'
          rw [← he, e1] at h1
          exact absurd h1 hk.1
      · rcases List.mem_cons.mp hq' with e2 | hq2'
        · have h1 := List.mem_map_of_mem (f := fun q : Nat × Value => q.1) hq2
          rw [he, e2] at h1
          exact absurd h1 hk.1
        · exact ih hk.2 hq2 hq2'
def vA : Option Nat → Value
  | none => .null
  | some p => .ref p
