/-! What the abstract machine asks of the tables, it has. -/
def tb_gd : List Cond := lw_tbl.filter goodWord
theorem tb_gd_in {i : Nat} {w : Cond} (h : lw_tbl[i]? = some w) (hg : goodWord w = true) : w ∈ tb_gd := List.mem_filter.mpr ⟨List.mem_of_getElem? h, hg⟩
theorem tb_good : ∀ w ∈ tb_gd, goodWord w = true := fun _ h => (List.mem_filter.mp h).2
def tb_isN : Cond → Bool
  | .fieldLinkNest _ _ _ _ _ _ => true
  | .methodLinkNest _ _ _ _ => true
  | .declares _ => true
  | _ => false
/-- what holds all along: the links of nest mates, the array of conditions; Z: the rest -/
def tb_G (Z : State → Prop) (U : State) : Prop := (∀ w ∈ lw_tbl, tb_isN w = true → va_Nw w U) ∧ va_AO "ConditionDesk$Condition" U ∧ Z U
theorem tb_G1 {Z : State → Prop} (hZ : ∀ (U : State) (g : JFrame) (mk : MethodId) (a : Array Value), Z U → Z (U.calling g mk a)) : ∀ (U : State) (g : JFrame) (mk : MethodId) (a : Array Value), tb_G Z U → tb_G Z (U.calling g mk a) := by
  intro U g mk a h
  refine ⟨fun w hw hn => ?_, va_AO.moved (u := U) (U := U.calling g mk a) (Vm.Alike.refl U.vm) h.2.1, hZ U g mk a h.2.2⟩
  cases w <;> first | exact va_Nw.same rfl (u := U) (U := U.calling g mk a) rfl (h.1 _ hw hn) | cases hn
theorem tb_G2 {N0 : Nat} {Z : State → Prop} (hZ : ∀ (s U : State) (H1 : Heap) (locs1 : List Loc), Z s → va_S (fun q => N0 ≤ q) s.heap H1 locs1 → U.heap = H1 → s.WarmedH U.vm → Z U) : ∀ (s U : State) (H1 : Heap) (locs1 : List Loc), tb_G Z s → va_S (fun q => N0 ≤ q) s.heap H1 locs1 → U.heap = H1 → s.WarmedH U.vm → tb_G Z U := by
  intro s U H1 locs1 h hS hU hW
  refine ⟨fun w hw hn => ?_, va_AO.moved hW.alike h.2.1, hZ s U H1 locs1 h.2.2 hS hU hW⟩
  cases w <;> first | exact va_Nw.warmF hW (h.1 _ hw hn) | exact va_Nw.warmM hW (h.1 _ hw hn) | exact va_Nw.warmD hW (h.1 _ hw hn) | cases hn
theorem tb_find {α β : Type} {l : List α} {P : α → Bool} {f : α → β} {v : β} (h : (l.find? P).map f = some v) : ∃ q, q ∈ l ∧ P q = true ∧ f q = v := by
  cases hf : l.find? P with
  | none => rw [hf] at h; cases h
  | some q => rw [hf] at h; exact ⟨q, List.mem_of_find?_eq_some hf, List.find?_some hf, Option.some.inj h⟩
theorem tb_key {a b o x : Nat} (h : (a == o && b == x) = true) : a = o ∧ b = x := by
  simpa using h
theorem tb_zip {α β : Type} : ∀ (l : List α) (l' : List β) (i : Nat) (a : α), l.length = l'.length → l[i]? = some a → ∃ b, (a, b) ∈ l.zip l'
  | [], _, i, a, _, h => by simp at h
  | x :: l, [], i, a, hl, h => by simp at hl
  | x :: l, y :: l', 0, a, _, h => by
    simp at h
    exact ⟨y, by rw [h]; exact List.mem_cons_self⟩
  | x :: l, y :: l', i + 1, a, hl, h => by
    obtain ⟨b, hb⟩ := tb_zip l l' i a (by simpa using hl) (by simpa using h)
    exact ⟨b, List.mem_cons_of_mem _ hb⟩
theorem tb_lay_good {C : String} {T : u_T} {k : Nat} : goodWord (u_lay C T k) = true := by
  unfold u_lay
  split <;> rfl
theorem tb_cl_ws {ci : Nat} {C : String} {T : u_T} {N : Nat} (h : tb_cl[ci]? = some (C, T, N)) : ∀ w ∈ u_ws C T N, w ∈ tb_gd := by
  obtain ⟨is, hi⟩ := tb_zip tb_cl tb_clI ci _ rfl h
  have hc := tb_clA _ hi
  simp only [tb_clC, decide_eq_true_eq] at hc
  intro w hw
  have hm : some w ∈ (u_ws C T N).map some := List.mem_map.mpr ⟨w, hw, rfl⟩
  rw [← hc] at hm
  obtain ⟨i, -, hi2⟩ := List.mem_map.mp hm
  refine tb_gd_in hi2 ?_
  obtain ⟨k, -, rfl⟩ := List.mem_map.mp hw
  exact tb_lay_good
theorem tb_own {k : Nat} (hk : tb_mok k = true) : k < 136 ∧ lw_tbl[(tb_iI k).2.1]? = some (Cond.initialized (tb_my k).cls) ∧ (tb_my k).cls = tb_nm (tb_oc k) ∧ tb_mL k ≤ 40 ∧ (tb_my k).cls ≠ "java/lang/invoke/MethodHandle" ∧ (tb_my k).cls ≠ "java/lang/invoke/VarHandle" ∧ plainName (tb_my k).cls = true ∧ ∀ ci, tb_ini k = some ci → (tb_my k).name = "<init>" := by
  have hk : k < 136 := of_decide_eq_true hk
  have h := tb_mB k (List.mem_range.mpr hk)
  simp only [tb_mD, Bool.and_eq_true, decide_eq_true_eq] at h
  obtain ⟨h1, h2, h3, h4, h5, h6, h7⟩ := h
  refine ⟨hk, h1, h2, h3, h4, h5, h6, fun ci hci => ?_⟩
  rw [hci] at h7
  simp only [Bool.and_eq_true, decide_eq_true_eq] at h7
  exact h7.1
set_option maxHeartbeats 4000000 in
theorem tb_SF (Z : State → Prop) : xm_SF tb_cl tb_tt tb_fr tb_nr tb_qr tb_ta tb_oc tb_cr tb_mb tb_mL tb_mr tb_gd (tb_G Z) tb_my tb_mok := by
  intro k args s hk hts hG
  obtain ⟨hk6, hini0, hcls, -, -, -, -, -⟩ := tb_own hk
  have hgd : ∀ w ∈ tb_gd, w.before args s = true := fun w hw => hts w (List.mem_cons_of_mem _ hw)
  have hat : ∀ {i : Nat} {w : Cond}, lw_tbl[i]? = some w → goodWord w = true → w.before args s = true := fun h hg => hgd _ (tb_gd_in h hg)
  refine ⟨?_, ?_, ?_, ?_, ?_⟩
  · intro x ci kk b h
    obtain ⟨⟨⟨o, x'⟩, v, i⟩, hm, hp, rfl⟩ := tb_find h
    obtain ⟨rfl, rfl⟩ := tb_key hp
    have hc := tb_frA _ hm
    simp only [tb_frC] at hc
    split at hc
    · rename_i c hcl
      obtain ⟨C, T, N⟩ := c
      simp only [Bool.and_eq_true, decide_eq_true_eq] at hc
      obtain ⟨h1, h2⟩ := hc
      refine ⟨C, T, N, hcl, h1, fun w hw => List.mem_cons_of_mem _ (tb_cl_ws hcl w hw), fun hb => ?_, fun hb => ?_⟩
      · subst hb
        rw [hcls]
        exact hat h2 rfl
      · subst hb
        rw [hcls]
        exact ⟨_, va_Nw.use rfl (hG.1 _ (List.mem_of_getElem? h2) rfl)⟩
    · cases hc
  · intro x ci h C T N hcl
    obtain ⟨⟨⟨o, x'⟩, v, i⟩, hm, hp, rfl⟩ := tb_find h
    obtain ⟨rfl, rfl⟩ := tb_key hp
    have hc := tb_nrA _ hm
    simp only [tb_nrC] at hc
    split at hc
    · rename_i c n hcl2 hn
      have e9 := Option.some.inj (hcl2.symm.trans hcl)
      subst e9
      simp only [Bool.and_eq_true, decide_eq_true_eq] at hc
      obtain ⟨h1, h2, h3⟩ := hc
      refine ⟨fun w hw => List.mem_cons_of_mem _ (tb_cl_ws hcl w hw), ?_, hat h2 rfl, hat h3 rfl⟩
      rw [hcls]
      exact hat h1 rfl
    · cases hc
  · intro x t h
    obtain ⟨⟨⟨o, x'⟩, i⟩, hm, hp, rfl⟩ := tb_find h
    obtain ⟨rfl, rfl⟩ := tb_key hp
    have hc : ∀ q ∈ tb_qrL, lw_tbl[q.2]? = some (Cond.classLink (tb_nm q.1.1) q.1.2 "ConditionDesk$Condition") := by decide +kernel
    refine ⟨"ConditionDesk$Condition", rfl, ?_, hG.2.1⟩
    rw [hcls]
    exact hat (hc _ hm) rfl
  · intro a t h
    have h0 : Cond.arrayClass .int ∈ lw_tbl ∧ Cond.arrayClass .long ∈ lw_tbl ∧ Cond.arrayClass .char ∈ lw_tbl ∧ Cond.arrayClass .boolean ∈ lw_tbl := by decide +kernel
    have hmem : ∀ {w : Cond}, w ∈ lw_tbl → goodWord w = true → w.before args s = true := fun h1 h2 => hgd _ (List.mem_filter.mpr ⟨h1, h2⟩)
    cases a <;> first | exact hmem h0.1 rfl | exact hmem h0.2.1 rfl | exact hmem h0.2.2.1 rfl | exact hmem h0.2.2.2 rfl | cases h
  · intro x kd k' b na h
    obtain ⟨⟨⟨o, x'⟩, v, i⟩, hm, hp, hv⟩ := tb_find h
    obtain ⟨rfl, rfl⟩ := tb_key hp
    dsimp only at hv
    subst hv
    have hc := tb_crA _ hm
    have hd := tb_crB _ hm
    simp only [tb_crC, Bool.and_eq_true, decide_eq_true_eq] at hc
    obtain ⟨hk1, h2, h3, h4, h5⟩ := hc
    have hk1 : k' < 136 := hk1
    obtain ⟨-, hin, -, hL, hm1, hm2, -, -⟩ := tb_own (k := k') (decide_eq_true hk1)
    refine ⟨tb_gd_in (tb_mA k' hk1) rfl, hL, ⟨hm1, hm2⟩, h3, hat hin rfl, fun hb => ?_, fun hb => ?_, fun hkd => ?_, fun hkd => ?_, fun hkd => ?_⟩
    · subst hb
      rw [hcls]
      exact hat h2 rfl
    · subst hb
      rw [hcls]
      exact ⟨_, va_Nw.use rfl (hG.1 _ (List.mem_of_getElem? h2) rfl)⟩
    · subst hkd
      simp only [tb_crD, Bool.and_eq_true, decide_eq_true_eq] at hd
      obtain ⟨d1, d2, d3⟩ := hd
      refine ⟨hat d1 rfl, hat d2 rfl, ?_⟩
      cases hq : tb_cl[tb_oc k']? with
      | none => rw [hq] at d3; cases d3
      | some q => rw [hq] at d3; exact ⟨q, rfl, Option.some.inj d3⟩
    · subst hkd
      simp only [tb_crD, decide_eq_true_eq] at hd
      exact hat hd rfl
    · subst hkd
      simp only [tb_crD, Bool.and_eq_true, decide_eq_true_eq] at hd
      exact ⟨h4.mp rfl, hat hd.1 rfl, hd.2⟩
