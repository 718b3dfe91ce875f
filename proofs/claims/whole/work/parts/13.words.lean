/-! The tables' entries stand in the Statement's words: checked by the kernel, place by place. -/
def tb_nm (o : Nat) : String := tb_on.getD o ""
def tb_frC (q : (Nat × Nat) × (Nat × Nat × Bool) × Nat) : Bool := match tb_cl[q.2.1.1]? with
  | some c => decide (q.2.1.2.1 < c.2.2) && decide (lw_tbl[q.2.2]? = some (if q.2.1.2.2 = true then Cond.fieldLinkNest (tb_nm q.1.1) q.1.2 (c.2.1 q.2.1.2.1).1 (c.2.1 q.2.1.2.1).2.1 (c.2.1 q.2.1.2.1).2.2.1 "ConditionDesk" else Cond.fieldLink (tb_nm q.1.1) q.1.2 (c.2.1 q.2.1.2.1).1 (c.2.1 q.2.1.2.1).2.1 (c.2.1 q.2.1.2.1).2.2.1))
  | none => false
theorem tb_frA : ∀ q ∈ tb_frL, tb_frC q = true := by decide +kernel
def tb_crC (q : (Nat × Nat) × (Nat × Nat × Bool × Nat) × Nat) : Bool := decide (q.2.1.2.1 < tb_nM) && (decide (lw_tbl[q.2.2]? = some (if q.2.1.2.2.1 = true then Cond.methodLinkNest (tb_nm q.1.1) q.1.2 (tb_my q.2.1.2.1) "ConditionDesk" else Cond.methodLink (tb_nm q.1.1) q.1.2 (tb_my q.2.1.2.1))) && (decide ((parseMethodDescriptor (tb_my q.2.1.2.1).desc).map (fun d => d.parameters.length) = some q.2.1.2.2.2) && (decide (q.2.1.1 = 2 ↔ (tb_my q.2.1.2.1).name = "<init>") && decide (q.2.1.1 ≤ 2))))
theorem tb_crA : ∀ q ∈ tb_crL, tb_crC q = true := by decide +kernel
def tb_nrC (q : (Nat × Nat) × Nat × Nat) : Bool := match tb_cl[q.2.1]?, tb_cnI[q.2.1]? with
  | some c, some n => decide (lw_tbl[q.2.2]? = some (Cond.classLink (tb_nm q.1.1) q.1.2 c.1)) && (decide (lw_tbl[n.1]? = some (Cond.instantiable c.1 c.2.2)) && decide (lw_tbl[n.2]? = some (Cond.initialized c.1)))
  | _, _ => false
theorem tb_nrA : ∀ q ∈ tb_nrL, tb_nrC q = true := by decide +kernel
def tb_clC (q : vw_C × List Nat) : Bool := decide (q.2.map (fun i => lw_tbl[i]?) = (u_ws q.1.1 q.1.2.1 q.1.2.2).map some)
theorem tb_clA : ∀ q ∈ tb_cl.zip tb_clI, tb_clC q = true := by decide +kernel
