/-! The methods' words. -/
def tb_iI (k : Nat) : Nat × Nat × Nat × Nat := tb_mI.getD k (0, 0, 0, 0)
def tb_crD (q : (Nat × Nat) × (Nat × Nat × Bool × Nat) × Nat) : Bool := match q.2.1.1 with
  | 0 => decide (lw_tbl[(tb_iI q.2.1.2.1).2.2.1]? = some (Cond.instanceMethod (tb_my q.2.1.2.1))) && (decide (lw_tbl[(tb_iI q.2.1.2.1).2.2.2]? = some (Cond.selects (tb_my q.2.1.2.1).cls (tb_my q.2.1.2.1) (tb_my q.2.1.2.1))) && decide ((tb_cl[tb_oc q.2.1.2.1]?).map (fun c => c.1) = some (tb_my q.2.1.2.1).cls))
  | 1 => decide (lw_tbl[(tb_iI q.2.1.2.1).2.2.1]? = some (Cond.static (tb_my q.2.1.2.1)))
  | _ => decide (lw_tbl[(tb_iI q.2.1.2.1).2.2.1]? = some (Cond.instanceMethod (tb_my q.2.1.2.1))) && decide (tb_mr q.2.1.2.1 = none)
theorem tb_crB : ∀ q ∈ tb_crL, tb_crD q = true := by decide +kernel
def tb_mC (k : Nat) : Prop := lw_tbl[(tb_iI k).1]? = some (Cond.code (tb_my k) (tb_mb k) (tb_mL k) (tb_mr k))
def tb_mD (k : Nat) : Bool := decide (lw_tbl[(tb_iI k).2.1]? = some (Cond.initialized (tb_my k).cls)) && (decide ((tb_my k).cls = tb_nm (tb_oc k)) && (decide (tb_mL k ≤ 40) && (decide ((tb_my k).cls ≠ "java/lang/invoke/MethodHandle") && (decide ((tb_my k).cls ≠ "java/lang/invoke/VarHandle") && (plainName (tb_my k).cls && (match tb_ini k with
  | some ci => decide ((tb_my k).name = "<init>") && decide (ci < 10)
  | none => true))))))
theorem tb_mB : ∀ k ∈ List.range 136, tb_mD k = true := by decide +kernel
set_option maxRecDepth 200000 in
theorem tb_c0 : tb_mC 0 := rfl
set_option maxRecDepth 200000 in
theorem tb_c1 : tb_mC 1 := rfl
set_option maxRecDepth 200000 in
theorem tb_c2 : tb_mC 2 := rfl
set_option maxRecDepth 200000 in
theorem tb_c3 : tb_mC 3 := rfl
set_option maxRecDepth 200000 in
theorem tb_c4 : tb_mC 4 := rfl
set_option maxRecDepth 200000 in
theorem tb_c5 : tb_mC 5 := rfl
set_option maxRecDepth 200000 in
theorem tb_c6 : tb_mC 6 := rfl
set_option maxRecDepth 200000 in
theorem tb_c7 : tb_mC 7 := rfl
set_option maxRecDepth 200000 in
theorem tb_c8 : tb_mC 8 := rfl
set_option maxRecDepth 200000 in
theorem tb_c9 : tb_mC 9 := rfl
set_option maxRecDepth 200000 in
theorem tb_c10 : tb_mC 10 := rfl
set_option maxRecDepth 200000 in
theorem tb_c11 : tb_mC 11 := rfl
set_option maxRecDepth 200000 in
theorem tb_c12 : tb_mC 12 := rfl
set_option maxRecDepth 200000 in
theorem tb_c13 : tb_mC 13 := rfl
set_option maxRecDepth 200000 in
theorem tb_c14 : tb_mC 14 := rfl
set_option maxRecDepth 200000 in
theorem tb_c15 : tb_mC 15 := rfl
set_option maxRecDepth 200000 in
theorem tb_c16 : tb_mC 16 := rfl
set_option maxRecDepth 200000 in
theorem tb_c17 : tb_mC 17 := rfl
set_option maxRecDepth 200000 in
theorem tb_c18 : tb_mC 18 := rfl
set_option maxRecDepth 200000 in
theorem tb_c19 : tb_mC 19 := rfl
set_option maxRecDepth 200000 in
theorem tb_c20 : tb_mC 20 := rfl
set_option maxRecDepth 200000 in
theorem tb_c21 : tb_mC 21 := rfl
set_option maxRecDepth 200000 in
theorem tb_c22 : tb_mC 22 := rfl
set_option maxRecDepth 200000 in
theorem tb_c23 : tb_mC 23 := rfl
set_option maxRecDepth 200000 in
theorem tb_c24 : tb_mC 24 := rfl
set_option maxRecDepth 200000 in
theorem tb_c25 : tb_mC 25 := rfl
set_option maxRecDepth 200000 in
theorem tb_c26 : tb_mC 26 := rfl
set_option maxRecDepth 200000 in
theorem tb_c27 : tb_mC 27 := rfl
set_option maxRecDepth 200000 in
theorem tb_c28 : tb_mC 28 := rfl
set_option maxRecDepth 200000 in
theorem tb_c29 : tb_mC 29 := rfl
set_option maxRecDepth 200000 in
theorem tb_c30 : tb_mC 30 := rfl
set_option maxRecDepth 200000 in
theorem tb_c31 : tb_mC 31 := rfl
set_option maxRecDepth 200000 in
theorem tb_c32 : tb_mC 32 := rfl
set_option maxRecDepth 200000 in
theorem tb_c33 : tb_mC 33 := rfl
set_option maxRecDepth 200000 in
theorem tb_c34 : tb_mC 34 := rfl
set_option maxRecDepth 200000 in
theorem tb_c35 : tb_mC 35 := rfl
set_option maxRecDepth 200000 in
theorem tb_c36 : tb_mC 36 := rfl
set_option maxRecDepth 200000 in
theorem tb_c37 : tb_mC 37 := rfl
set_option maxRecDepth 200000 in
theorem tb_c38 : tb_mC 38 := rfl
set_option maxRecDepth 200000 in
theorem tb_c39 : tb_mC 39 := rfl
set_option maxRecDepth 200000 in
theorem tb_c40 : tb_mC 40 := rfl
set_option maxRecDepth 200000 in
theorem tb_c41 : tb_mC 41 := rfl
set_option maxRecDepth 200000 in
theorem tb_c42 : tb_mC 42 := rfl
set_option maxRecDepth 200000 in
theorem tb_c43 : tb_mC 43 := rfl
set_option maxRecDepth 200000 in
theorem tb_c44 : tb_mC 44 := rfl
set_option maxRecDepth 200000 in
theorem tb_c45 : tb_mC 45 := rfl
set_option maxRecDepth 200000 in
theorem tb_c46 : tb_mC 46 := rfl
set_option maxRecDepth 200000 in
theorem tb_c47 : tb_mC 47 := rfl
set_option maxRecDepth 200000 in
theorem tb_c48 : tb_mC 48 := rfl
set_option maxRecDepth 200000 in
theorem tb_c49 : tb_mC 49 := rfl
set_option maxRecDepth 200000 in
theorem tb_c50 : tb_mC 50 := rfl
set_option maxRecDepth 200000 in
theorem tb_c51 : tb_mC 51 := rfl
set_option maxRecDepth 200000 in
theorem tb_c52 : tb_mC 52 := rfl
set_option maxRecDepth 200000 in
theorem tb_c53 : tb_mC 53 := rfl
set_option maxRecDepth 200000 in
theorem tb_c54 : tb_mC 54 := rfl
set_option maxRecDepth 200000 in
theorem tb_c55 : tb_mC 55 := rfl
set_option maxRecDepth 200000 in
theorem tb_c56 : tb_mC 56 := rfl
set_option maxRecDepth 200000 in
theorem tb_c57 : tb_mC 57 := rfl
set_option maxRecDepth 200000 in
theorem tb_c58 : tb_mC 58 := rfl
set_option maxRecDepth 200000 in
theorem tb_c59 : tb_mC 59 := rfl
set_option maxRecDepth 200000 in
theorem tb_c60 : tb_mC 60 := rfl
set_option maxRecDepth 200000 in
theorem tb_c61 : tb_mC 61 := rfl
set_option maxRecDepth 200000 in
theorem tb_c62 : tb_mC 62 := rfl
set_option maxRecDepth 200000 in
theorem tb_c63 : tb_mC 63 := rfl
set_option maxRecDepth 200000 in
theorem tb_c64 : tb_mC 64 := rfl
set_option maxRecDepth 200000 in
theorem tb_c65 : tb_mC 65 := rfl
set_option maxRecDepth 200000 in
theorem tb_c66 : tb_mC 66 := rfl
set_option maxRecDepth 200000 in
theorem tb_c67 : tb_mC 67 := rfl
set_option maxRecDepth 200000 in
theorem tb_c68 : tb_mC 68 := rfl
set_option maxRecDepth 200000 in
theorem tb_c69 : tb_mC 69 := rfl
set_option maxRecDepth 200000 in
theorem tb_c70 : tb_mC 70 := rfl
set_option maxRecDepth 200000 in
theorem tb_c71 : tb_mC 71 := rfl
set_option maxRecDepth 200000 in
theorem tb_c72 : tb_mC 72 := rfl
set_option maxRecDepth 200000 in
theorem tb_c73 : tb_mC 73 := rfl
set_option maxRecDepth 200000 in
theorem tb_c74 : tb_mC 74 := rfl
set_option maxRecDepth 200000 in
theorem tb_c75 : tb_mC 75 := rfl
set_option maxRecDepth 200000 in
theorem tb_c76 : tb_mC 76 := rfl
set_option maxRecDepth 200000 in
theorem tb_c77 : tb_mC 77 := rfl
set_option maxRecDepth 200000 in
theorem tb_c78 : tb_mC 78 := rfl
set_option maxRecDepth 200000 in
theorem tb_c79 : tb_mC 79 := rfl
set_option maxRecDepth 200000 in
theorem tb_c80 : tb_mC 80 := rfl
set_option maxRecDepth 200000 in
theorem tb_c81 : tb_mC 81 := rfl
set_option maxRecDepth 200000 in
theorem tb_c82 : tb_mC 82 := rfl
set_option maxRecDepth 200000 in
theorem tb_c83 : tb_mC 83 := rfl
set_option maxRecDepth 200000 in
theorem tb_c84 : tb_mC 84 := rfl
set_option maxRecDepth 200000 in
theorem tb_c85 : tb_mC 85 := rfl
set_option maxRecDepth 200000 in
theorem tb_c86 : tb_mC 86 := rfl
set_option maxRecDepth 200000 in
theorem tb_c87 : tb_mC 87 := rfl
set_option maxRecDepth 200000 in
theorem tb_c88 : tb_mC 88 := rfl
set_option maxRecDepth 200000 in
theorem tb_c89 : tb_mC 89 := rfl
set_option maxRecDepth 200000 in
theorem tb_c90 : tb_mC 90 := rfl
set_option maxRecDepth 200000 in
theorem tb_c91 : tb_mC 91 := rfl
set_option maxRecDepth 200000 in
theorem tb_c92 : tb_mC 92 := rfl
set_option maxRecDepth 200000 in
theorem tb_c93 : tb_mC 93 := rfl
set_option maxRecDepth 200000 in
theorem tb_c94 : tb_mC 94 := rfl
set_option maxRecDepth 200000 in
theorem tb_c95 : tb_mC 95 := rfl
set_option maxRecDepth 200000 in
theorem tb_c96 : tb_mC 96 := rfl
set_option maxRecDepth 200000 in
theorem tb_c97 : tb_mC 97 := rfl
set_option maxRecDepth 200000 in
theorem tb_c98 : tb_mC 98 := rfl
set_option maxRecDepth 200000 in
theorem tb_c99 : tb_mC 99 := rfl
set_option maxRecDepth 200000 in
theorem tb_c100 : tb_mC 100 := rfl
set_option maxRecDepth 200000 in
theorem tb_c101 : tb_mC 101 := rfl
set_option maxRecDepth 200000 in
theorem tb_c102 : tb_mC 102 := rfl
set_option maxRecDepth 200000 in
theorem tb_c103 : tb_mC 103 := rfl
set_option maxRecDepth 200000 in
theorem tb_c104 : tb_mC 104 := rfl
set_option maxRecDepth 200000 in
theorem tb_c105 : tb_mC 105 := rfl
set_option maxRecDepth 200000 in
theorem tb_c106 : tb_mC 106 := rfl
set_option maxRecDepth 200000 in
theorem tb_c107 : tb_mC 107 := rfl
set_option maxRecDepth 200000 in
theorem tb_c108 : tb_mC 108 := rfl
set_option maxRecDepth 200000 in
theorem tb_c109 : tb_mC 109 := rfl
set_option maxRecDepth 200000 in
theorem tb_c110 : tb_mC 110 := rfl
set_option maxRecDepth 200000 in
theorem tb_c111 : tb_mC 111 := rfl
set_option maxRecDepth 200000 in
theorem tb_c112 : tb_mC 112 := rfl
set_option maxRecDepth 200000 in
theorem tb_c113 : tb_mC 113 := rfl
set_option maxRecDepth 200000 in
theorem tb_c114 : tb_mC 114 := rfl
set_option maxRecDepth 200000 in
theorem tb_c115 : tb_mC 115 := rfl
set_option maxRecDepth 200000 in
theorem tb_c116 : tb_mC 116 := rfl
set_option maxRecDepth 200000 in
theorem tb_c117 : tb_mC 117 := rfl
set_option maxRecDepth 200000 in
theorem tb_c118 : tb_mC 118 := rfl
set_option maxRecDepth 200000 in
theorem tb_c119 : tb_mC 119 := rfl
set_option maxRecDepth 200000 in
theorem tb_c120 : tb_mC 120 := rfl
set_option maxRecDepth 200000 in
theorem tb_c121 : tb_mC 121 := rfl
set_option maxRecDepth 200000 in
theorem tb_c122 : tb_mC 122 := rfl
set_option maxRecDepth 200000 in
theorem tb_c123 : tb_mC 123 := rfl
set_option maxRecDepth 200000 in
theorem tb_c124 : tb_mC 124 := rfl
set_option maxRecDepth 200000 in
theorem tb_c125 : tb_mC 125 := rfl
set_option maxRecDepth 200000 in
theorem tb_c126 : tb_mC 126 := rfl
set_option maxRecDepth 200000 in
theorem tb_c127 : tb_mC 127 := rfl
set_option maxRecDepth 200000 in
theorem tb_c128 : tb_mC 128 := rfl
set_option maxRecDepth 200000 in
theorem tb_c129 : tb_mC 129 := rfl
set_option maxRecDepth 200000 in
theorem tb_c130 : tb_mC 130 := rfl
set_option maxRecDepth 200000 in
theorem tb_c131 : tb_mC 131 := rfl
set_option maxRecDepth 200000 in
theorem tb_c132 : tb_mC 132 := rfl
set_option maxRecDepth 200000 in
theorem tb_c133 : tb_mC 133 := rfl
set_option maxRecDepth 200000 in
theorem tb_c134 : tb_mC 134 := rfl
set_option maxRecDepth 200000 in
theorem tb_c135 : tb_mC 135 := rfl
def tb_K0 : List Nat := [0, 1, 2, 3, 4, 5, 6, 7, 8, 9, 10, 11, 12, 13, 14, 15, 16]
theorem tb_r0 : ∀ k ∈ tb_K0, tb_mC k := List.forall_mem_cons.mpr ⟨tb_c0, List.forall_mem_cons.mpr ⟨tb_c1, List.forall_mem_cons.mpr ⟨tb_c2, List.forall_mem_cons.mpr ⟨tb_c3, List.forall_mem_cons.mpr ⟨tb_c4, List.forall_mem_cons.mpr ⟨tb_c5, List.forall_mem_cons.mpr ⟨tb_c6, List.forall_mem_cons.mpr ⟨tb_c7, List.forall_mem_cons.mpr ⟨tb_c8, List.forall_mem_cons.mpr ⟨tb_c9, List.forall_mem_cons.mpr ⟨tb_c10, List.forall_mem_cons.mpr ⟨tb_c11, List.forall_mem_cons.mpr ⟨tb_c12, List.forall_mem_cons.mpr ⟨tb_c13, List.forall_mem_cons.mpr ⟨tb_c14, List.forall_mem_cons.mpr ⟨tb_c15, List.forall_mem_cons.mpr ⟨tb_c16, fun _ h => absurd h List.not_mem_nil⟩⟩⟩⟩⟩⟩⟩⟩⟩⟩⟩⟩⟩⟩⟩⟩⟩
def tb_K1 : List Nat := [17, 18, 19, 20, 21, 22, 23, 24, 25, 26, 27, 28, 29, 30, 31, 32, 33]
theorem tb_r1 : ∀ k ∈ tb_K1, tb_mC k := List.forall_mem_cons.mpr ⟨tb_c17, List.forall_mem_cons.mpr ⟨tb_c18, List.forall_mem_cons.mpr ⟨tb_c19, List.forall_mem_cons.mpr ⟨tb_c20, List.forall_mem_cons.mpr ⟨tb_c21, List.forall_mem_cons.mpr ⟨tb_c22, List.forall_mem_cons.mpr ⟨tb_c23, List.forall_mem_cons.mpr ⟨tb_c24, List.forall_mem_cons.mpr ⟨tb_c25, List.forall_mem_cons.mpr ⟨tb_c26, List.forall_mem_cons.mpr ⟨tb_c27, List.forall_mem_cons.mpr ⟨tb_c28, List.forall_mem_cons.mpr ⟨tb_c29, List.forall_mem_cons.mpr ⟨tb_c30, List.forall_mem_cons.mpr ⟨tb_c31, List.forall_mem_cons.mpr ⟨tb_c32, List.forall_mem_cons.mpr ⟨tb_c33, fun _ h => absurd h List.not_mem_nil⟩⟩⟩⟩⟩⟩⟩⟩⟩⟩⟩⟩⟩⟩⟩⟩⟩
def tb_K2 : List Nat := [34, 35, 36, 37, 38, 39, 40, 41, 42, 43, 44, 45, 46, 47, 48, 49, 50]
theorem tb_r2 : ∀ k ∈ tb_K2, tb_mC k := List.forall_mem_cons.mpr ⟨tb_c34, List.forall_mem_cons.mpr ⟨tb_c35, List.forall_mem_cons.mpr ⟨tb_c36, List.forall_mem_cons.mpr ⟨tb_c37, List.forall_mem_cons.mpr ⟨tb_c38, List.forall_mem_cons.mpr ⟨tb_c39, List.forall_mem_cons.mpr ⟨tb_c40, List.forall_mem_cons.mpr ⟨tb_c41, List.forall_mem_cons.mpr ⟨tb_c42, List.forall_mem_cons.mpr ⟨tb_c43, List.forall_mem_cons.mpr ⟨tb_c44, List.forall_mem_cons.mpr ⟨tb_c45, List.forall_mem_cons.mpr ⟨tb_c46, List.forall_mem_cons.mpr ⟨tb_c47, List.forall_mem_cons.mpr ⟨tb_c48, List.forall_mem_cons.mpr ⟨tb_c49, List.forall_mem_cons.mpr ⟨tb_c50, fun _ h => absurd h List.not_mem_nil⟩⟩⟩⟩⟩⟩⟩⟩⟩⟩⟩⟩⟩⟩⟩⟩⟩
def tb_K3 : List Nat := [51, 52, 53, 54, 55, 56, 57, 58, 59, 60, 61, 62, 63, 64, 65, 66, 67]
theorem tb_r3 : ∀ k ∈ tb_K3, tb_mC k := List.forall_mem_cons.mpr ⟨tb_c51, List.forall_mem_cons.mpr ⟨tb_c52, List.forall_mem_cons.mpr ⟨tb_c53, List.forall_mem_cons.mpr ⟨tb_c54, List.forall_mem_cons.mpr ⟨tb_c55, List.forall_mem_cons.mpr ⟨tb_c56, List.forall_mem_cons.mpr ⟨tb_c57, List.forall_mem_cons.mpr ⟨tb_c58, List.forall_mem_cons.mpr ⟨tb_c59, List.forall_mem_cons.mpr ⟨tb_c60, List.forall_mem_cons.mpr ⟨tb_c61, List.forall_mem_cons.mpr ⟨tb_c62, List.forall_mem_cons.mpr ⟨tb_c63, List.forall_mem_cons.mpr ⟨tb_c64, List.forall_mem_cons.mpr ⟨tb_c65, List.forall_mem_cons.mpr ⟨tb_c66, List.forall_mem_cons.mpr ⟨tb_c67, fun _ h => absurd h List.not_mem_nil⟩⟩⟩⟩⟩⟩⟩⟩⟩⟩⟩⟩⟩⟩⟩⟩⟩
def tb_K4 : List Nat := [68, 69, 70, 71, 72, 73, 74, 75, 76, 77, 78, 79, 80, 81, 82, 83, 84]
theorem tb_r4 : ∀ k ∈ tb_K4, tb_mC k := List.forall_mem_cons.mpr ⟨tb_c68, List.forall_mem_cons.mpr ⟨tb_c69, List.forall_mem_cons.mpr ⟨tb_c70, List.forall_mem_cons.mpr ⟨tb_c71, List.forall_mem_cons.mpr ⟨tb_c72, List.forall_mem_cons.mpr ⟨tb_c73, List.forall_mem_cons.mpr ⟨tb_c74, List.forall_mem_cons.mpr ⟨tb_c75, List.forall_mem_cons.mpr ⟨tb_c76, List.forall_mem_cons.mpr ⟨tb_c77, List.forall_mem_cons.mpr ⟨tb_c78, List.forall_mem_cons.mpr ⟨tb_c79, List.forall_mem_cons.mpr ⟨tb_c80, List.forall_mem_cons.mpr ⟨tb_c81, List.forall_mem_cons.mpr ⟨tb_c82, List.forall_mem_cons.mpr ⟨tb_c83, List.forall_mem_cons.mpr ⟨tb_c84, fun _ h => absurd h List.not_mem_nil⟩⟩⟩⟩⟩⟩⟩⟩⟩⟩⟩⟩⟩⟩⟩⟩⟩
def tb_K5 : List Nat := [85, 86, 87, 88, 89, 90, 91, 92, 93, 94, 95, 96, 97, 98, 99, 100, 101]
theorem tb_r5 : ∀ k ∈ tb_K5, tb_mC k := List.forall_mem_cons.mpr ⟨tb_c85, List.forall_mem_cons.mpr ⟨tb_c86, List.forall_mem_cons.mpr ⟨tb_c87, List.forall_mem_cons.mpr ⟨tb_c88, List.forall_mem_cons.mpr ⟨tb_c89, List.forall_mem_cons.mpr ⟨tb_c90, List.forall_mem_cons.mpr ⟨tb_c91, List.forall_mem_cons.mpr ⟨tb_c92, List.forall_mem_cons.mpr ⟨tb_c93, List.forall_mem_cons.mpr ⟨tb_c94, List.forall_mem_cons.mpr ⟨tb_c95, List.forall_mem_cons.mpr ⟨tb_c96, List.forall_mem_cons.mpr ⟨tb_c97, List.forall_mem_cons.mpr ⟨tb_c98, List.forall_mem_cons.mpr ⟨tb_c99, List.forall_mem_cons.mpr ⟨tb_c100, List.forall_mem_cons.mpr ⟨tb_c101, fun _ h => absurd h List.not_mem_nil⟩⟩⟩⟩⟩⟩⟩⟩⟩⟩⟩⟩⟩⟩⟩⟩⟩
def tb_K6 : List Nat := [102, 103, 104, 105, 106, 107, 108, 109, 110, 111, 112, 113, 114, 115, 116, 117, 118]
theorem tb_r6 : ∀ k ∈ tb_K6, tb_mC k := List.forall_mem_cons.mpr ⟨tb_c102, List.forall_mem_cons.mpr ⟨tb_c103, List.forall_mem_cons.mpr ⟨tb_c104, List.forall_mem_cons.mpr ⟨tb_c105, List.forall_mem_cons.mpr ⟨tb_c106, List.forall_mem_cons.mpr ⟨tb_c107, List.forall_mem_cons.mpr ⟨tb_c108, List.forall_mem_cons.mpr ⟨tb_c109, List.forall_mem_cons.mpr ⟨tb_c110, List.forall_mem_cons.mpr ⟨tb_c111, List.forall_mem_cons.mpr ⟨tb_c112, List.forall_mem_cons.mpr ⟨tb_c113, List.forall_mem_cons.mpr ⟨tb_c114, List.forall_mem_cons.mpr ⟨tb_c115, List.forall_mem_cons.mpr ⟨tb_c116, List.forall_mem_cons.mpr ⟨tb_c117, List.forall_mem_cons.mpr ⟨tb_c118, fun _ h => absurd h List.not_mem_nil⟩⟩⟩⟩⟩⟩⟩⟩⟩⟩⟩⟩⟩⟩⟩⟩⟩
def tb_K7 : List Nat := [119, 120, 121, 122, 123, 124, 125, 126, 127, 128, 129, 130, 131, 132, 133, 134, 135]
theorem tb_r7 : ∀ k ∈ tb_K7, tb_mC k := List.forall_mem_cons.mpr ⟨tb_c119, List.forall_mem_cons.mpr ⟨tb_c120, List.forall_mem_cons.mpr ⟨tb_c121, List.forall_mem_cons.mpr ⟨tb_c122, List.forall_mem_cons.mpr ⟨tb_c123, List.forall_mem_cons.mpr ⟨tb_c124, List.forall_mem_cons.mpr ⟨tb_c125, List.forall_mem_cons.mpr ⟨tb_c126, List.forall_mem_cons.mpr ⟨tb_c127, List.forall_mem_cons.mpr ⟨tb_c128, List.forall_mem_cons.mpr ⟨tb_c129, List.forall_mem_cons.mpr ⟨tb_c130, List.forall_mem_cons.mpr ⟨tb_c131, List.forall_mem_cons.mpr ⟨tb_c132, List.forall_mem_cons.mpr ⟨tb_c133, List.forall_mem_cons.mpr ⟨tb_c134, List.forall_mem_cons.mpr ⟨tb_c135, fun _ h => absurd h List.not_mem_nil⟩⟩⟩⟩⟩⟩⟩⟩⟩⟩⟩⟩⟩⟩⟩⟩⟩
theorem tb_Kin : ∀ k ∈ List.range 136, k ∈ tb_K0 ∨ k ∈ tb_K1 ∨ k ∈ tb_K2 ∨ k ∈ tb_K3 ∨ k ∈ tb_K4 ∨ k ∈ tb_K5 ∨ k ∈ tb_K6 ∨ k ∈ tb_K7 := by decide +kernel
theorem tb_mA : ∀ k, k < 136 → tb_mC k := by
  intro k hk
  rcases tb_Kin k (List.mem_range.mpr hk) with h | h | h | h | h | h | h | h
  · exact tb_r0 k h
  · exact tb_r1 k h
  · exact tb_r2 k h
  · exact tb_r3 k h
  · exact tb_r4 k h
  · exact tb_r5 k h
  · exact tb_r6 k h
  · exact tb_r7 k h
