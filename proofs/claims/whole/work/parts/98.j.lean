/-! The heap that the constructors lay. -/
def zo_1 : Option xm_R := tb_zx 400 10 94 (zA zo_0 ++ [z_1]) [.ref 92]
def zH : xm_H := zA zo_1 ++ [z_2]
theorem z_all : ((zK zo_0).1 < 1000 ∧ (zK zo_0).2 < 100000) ∧ ((zK zo_1).1 < 1000 ∧ (zK zo_1).2 < 100000) ∧ ((zA zo_0).length = 92) ∧ ((zA zo_1).length = 119) ∧ (xm_okS (zA zo_0) [(1, .ref 0), (0, .ref lx_S)] [] = true) ∧ (xm_okS (zA zo_0 ++ [z_1]) [(1, .ref 0), (0, .ref lx_S)] [.ref 92] = true) ∧ (xm_okS (zA zo_1) [(2, .ref 92), (1, .ref 0), (0, .ref lx_S)] [] = true) ∧ (zH.map er_ = SK.map es_) := by decide +kernel
theorem zk_0 : (zK zo_0).1 < 1000 ∧ (zK zo_0).2 < 100000 := z_all.1
theorem zk_1 : (zK zo_1).1 < 1000 ∧ (zK zo_1).2 < 100000 := z_all.2.1
theorem zl_0 : (zA zo_0).length = 92 := z_all.2.2.1
theorem zl_1 : (zA zo_1).length = 119 := z_all.2.2.2.1
theorem zs_0 : xm_okS (zA zo_0) [(1, .ref 0), (0, .ref lx_S)] [] = true := z_all.2.2.2.2.1
theorem zs_1 : xm_okS (zA zo_0 ++ [z_1]) [(1, .ref 0), (0, .ref lx_S)] [.ref 92] = true := z_all.2.2.2.2.2.1
theorem zs_2 : xm_okS (zA zo_1) [(2, .ref 92), (1, .ref 0), (0, .ref lx_S)] [] = true := z_all.2.2.2.2.2.2.1
theorem ze_ : zH.map er_ = SK.map es_ := z_all.2.2.2.2.2.2.2
theorem z19 : (List.range 120).all (fun p => match SK[p]? with
  | some (.inr (_, _, _ + 2)) => p == 19
  | _ => true) = true := by decide +kernel
theorem zK_of {o : Option xm_R} (h : (zK o).1 < 1000) : o = some (zA o, .inl none, (zK o).1, (zK o).2) := by
  unfold zK at h ⊢
  split at h
  · rfl
  · exact absurd h (by decide)
theorem zx_0 : tb_zx 400 10 0 [z_0] [.ref 0] = some (zA zo_0, .inl none, (zK zo_0).1, (zK zo_0).2) := zK_of (o := zo_0) zk_0.1
theorem zx_1 : tb_zx 400 10 94 (zA zo_0 ++ [z_1]) [.ref 92] = some (zA zo_1, .inl none, (zK zo_1).1, (zK zo_1).2) := zK_of (o := zo_1) zk_1.1
