/-! Intrinsic steps: constants, Object's constructor, Math.min, System.arraycopy. -/
def tb_CLc (ci : Nat) : Bool := match tb_cl[ci]? with
  | some c => (List.range c.2.2).all (fun k => decide (parseFieldDescriptor (c.2.1 k).2.2.1 = some (tb_ft ci k))) && (List.range c.2.2).all (fun a => (List.range c.2.2).all (fun b => decide (a ≠ b → (c.2.1 a).2.1 ≠ (c.2.1 b).2.1)))
  | none => true
theorem tb_CLa : ∀ ci ∈ List.range 10, tb_CLc ci = true := by decide +kernel
theorem tb_CL : xm_CL tb_cl tb_ft := by
  intro ci C T N h
  have hl : ci < 10 := (List.getElem?_eq_some_iff.mp h).1
  have hc := tb_CLa ci (List.mem_range.mpr hl)
  simp only [tb_CLc, h, Bool.and_eq_true] at hc
  refine ⟨fun k hk => ?_, fun a ha b hb => ?_⟩
  · exact of_decide_eq_true (List.all_eq_true.mp hc.1 k (List.mem_range.mpr hk))
  · exact of_decide_eq_true (List.all_eq_true.mp (List.all_eq_true.mp hc.2 a (List.mem_range.mpr ha)) b (List.mem_range.mpr hb))
