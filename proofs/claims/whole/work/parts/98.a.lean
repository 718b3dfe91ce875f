/-! Calls, the script, the helpers' runs. -/
section GRB
variable {D : Nat} {xt : gXT} {xc : Nat → gXC} {cc : ByteArray} {nL : Nat} {ret : Option FieldType} {Q : Nat → Option Nat} {R : dI → dJ → Option Value → Prop} {C S pc n : Nat} {ls ls' : xm_L} {st st' : List Value} {I I1 : dI} {J J1 : dJ}
theorem GR.cv {k' na p ci x D' : Nat} {b : Bool} {cs : List Nat} {As rest : List Value} {w : Option Value} (hd : decode cc pc = .ok (.invokevirtual x, 3)) (hc : tb_cr 10 x = some (0, k', b, na)) (hv : xm_sv na st = some (p, As, rest)) (hs : SK[p]? = some (.inl (ci, cs))) (ho : tb_oc k' = ci) (he : Ex Q D' k' I J (.ref p :: As) w I1 J1) (hD : D' ≤ D) (h : GR D xt xc cc nL ret Q R C S (pc + 3) ls (w.toList ++ rest) I1 J1) : GR D xt xc cc nL ret Q R C S pc ls st I J := by
  refine GR.ca hd (fun _ _ => rfl) rfl (fun _ => rfl) (fun _ => rfl) ?_ he hD h
  simp only [xm_ca, hc, if_true, hv, bld_get hs, sk_e, ho]
/-- a helper that runs to its end -/
theorem hl_of {F0 f j d : Nat} {As : List Value} {v : Value} {I' : dI} {J' : dJ} (hl : (lg_sl As).length ≤ hl_L j) (h : ∀ F, F0 ≤ F → ∀ nc ns, ∃ c s I1 J1 v1, c ≤ 0 ∧ s ≤ 0 ∧ (I1 = I' ∧ J1 = J' ∧ v1 = some v) ∧ gx (tb_ex F (d + 1)) xm_t0 xm_x0 (hl_b j) (hl_L j) (some .int) f 0 (lv_args 0 As) [] (bld Q I J) nc ns = some (bld Q I1 J1, .inl v1, nc + c, ns + s)) : ∀ F, F0 + f ≤ F → hl_rn F (d + 1) j (bld Q I J) As = some (bld Q I' J', .inl (some v), 0, 0) := by
  intro F hF
  obtain ⟨c, s, I1, J1, v1, h1, h2, ⟨rfl, rfl, rfl⟩, h4⟩ := h F (by omega) 0 0
  have e1 : c = 0 := by omega
  have e2 : s = 0 := by omega
  subst e1
  subst e2
  unfold hl_rn
  rw [if_pos hl]
  unfold gx at h4
  exact xm_rn_up (fun k A As r h => h) (fun _ _ _ _ _ h => h) _ _ _ _ _ _ _ _ (by omega) h4
end GRB
