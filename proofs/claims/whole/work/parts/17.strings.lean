/-! String constants: what length() and charAt answer of them. Printed by wip/whole/gen_strings.py. -/
def st_n : Nat := 13
def st_len : List Nat := [17, 16, 12, 27, 26, 29, 2, 3, 5, 4, 4, 3, 7]
def st_byt : List (List Int32) := [[110, 111, 32, 115, 117, 99, 104, 32, 99, 111, 110, 100, 105, 116, 105, 111, 110], [110, 111, 32, 115, 117, 99, 104, 32, 114, 101, 103, 105, 115, 116, 101, 114], [110, 111, 32, 115, 117, 99, 104, 32, 99, 101, 108, 108], [110, 111, 32, 115, 117, 99, 104, 32, 99, 111, 110, 100, 105, 116, 105, 111, 110, 32, 111, 114, 32, 110, 117, 109, 98, 101, 114], [116, 104, 101, 32, 99, 111, 110, 100, 105, 116, 105, 111, 110, 32, 105, 115, 32, 110, 111, 116, 32, 116, 104, 101, 114, 101], [110, 111, 32, 115, 117, 99, 104, 32, 99, 111, 110, 100, 105, 116, 105, 111, 110, 32, 111, 114, 32, 113, 117, 101, 115, 116, 105, 111, 110], [112, 99], [112, 105, 100], [99, 111, 117, 110, 116], [98, 121, 116, 101], [104, 97, 108, 102], [111, 108, 100], [99, 104, 97, 110, 103, 101, 100]]
def st_own : List (String × Nat × String) := [("ConditionDesk", 55, "no such condition"), ("ConditionDesk", 79, "no such register"), ("ConditionDesk", 88, "no such cell"), ("ConditionDesk", 93, "no such condition or number"), ("ConditionDesk", 97, "the condition is not there"), ("ConditionDesk", 110, "no such condition or question"), ("ConditionDesk$Tokens", 79, "pc"), ("ConditionDesk$Tokens", 85, "pid"), ("ConditionDesk$Tokens", 87, "count"), ("ConditionDesk$Tokens", 89, "byte"), ("ConditionDesk$Tokens", 91, "half"), ("ConditionDesk$Tokens", 93, "old"), ("ConditionDesk$Tokens", 95, "changed")]
def tb_slL : List ((Nat × Nat) × Nat) := [((8, 55), 0), ((8, 79), 1), ((8, 88), 2), ((8, 93), 3), ((8, 97), 4), ((8, 110), 5), ((6, 79), 6), ((6, 85), 7), ((6, 87), 8), ((6, 89), 9), ((6, 91), 10), ((6, 93), 11), ((6, 95), 12)]
def tb_sl (o x : Nat) : Option Nat := (tb_slL.find? (fun q => q.1.1 == o && q.1.2 == x)).map (fun q => q.2)
/-- a static field is laid, its cell below -/
def th_L (C n d : String) (A : Nat → Prop) (U : State) (H : Heap) : Prop := ∃ (cf : ClassId) (k : Class) (i : Nat) (f : Field) (a : Nat) (cell : Cell), U.vm.findClass C = some cf ∧ U.fieldFound? C n d = some (cf, k, i, f) ∧ f.isStatic = true ∧ k.statics = some a ∧ H[a]? = some cell ∧ cell.vm.isStatics = true ∧ cell.cls = cf ∧ f.slot < cell.slots.size ∧ k.staticTypes[f.slot]? = some f.type ∧ ¬ A a
theorem th_L.moved {C n d : String} {A : Nat → Prop} {u U : State} {H : Heap} (hvm : u.vm.Alike U.vm) (h : th_L C n d A u H) : th_L C n d A U H := by
  obtain ⟨cf, k, i, f, a, cell, h0, h1, h2, h3, h4, h5, h6, h7, h8, h9⟩ := h
  obtain ⟨k', hi', he⟩ := State.fieldFound?_setVm hvm h1
  exact ⟨cf, k', i, f, a, cell, by rw [hvm.findClass]; exact h0, hi', h2, by rw [he]; exact h3, h4, h5, h6, h7, by rw [he]; exact h8, h9⟩
theorem th_L.kept {C n d : String} {A : Nat → Prop} {U : State} {H H1 : Heap} (h : th_L C n d A U H) (hq : ∀ a : Nat, a < H.size → ¬ A a → H1[a]? = H[a]?) : th_L C n d A U H1 := by
  obtain ⟨cf, k, i, f, a, cell, h0, h1, h2, h3, h4, h5, h6, h7, h8, h9⟩ := h
  exact ⟨cf, k, i, f, a, cell, h0, h1, h2, h3, by rw [hq a (Array.getElem?_eq_some_iff.mp h4).1 h9]; exact h4, h5, h6, h7, h8, h9⟩
theorem th_L.of {C n d : String} {A : Nat → Prop} {s : State} {args : Array Value} (h : (Cond.laysStatic C n d).before args s = true) (hA : ∀ a : Nat, a < s.heap.size → ¬ A a) : th_L C n d A s s.heap := by
  obtain ⟨c, k, i, f, a, cell, hc, hi, hst, ha, hcell, hs, hcls, hlt, hty⟩ := Cond.laysStatic_spec h
  exact ⟨c, k, i, f, a, cell, hc, hi, hst, ha, hcell, hs, hcls, hlt, hty, hA a (Array.getElem?_eq_some_iff.mp hcell).1⟩
theorem th_L.use {C n d : String} {A : Nat → Prop} {s : State} {args : Array Value} (h : th_L C n d A s s.heap) : (Cond.laysStatic C n d).before args s = true := by
  obtain ⟨c, k, i, f, a, cell, hc, hi, hst, ha, hcell, hs, hcls, hlt, hty, -⟩ := h
  exact Cond.laysStatic_of hc hi hst ha hcell hs hcls hlt hty
def st_Z (N0 : Nat) (adK adV : Nat → Nat) (U : State) : Prop := vk_S st_n st_len st_byt adK adV (fun q => N0 ≤ q) U U.heap ∧ va_Z "java/lang/String" "COMPACT_STRINGS" "Z" (.int 1) (fun q => N0 ≤ q) U U.heap ∧ va_Zq "jdk/internal/util/Preconditions" "SIOOBE_FORMATTER" "Ljava/util/function/BiFunction;" (fun q => N0 ≤ q) U U.heap ∧ (∀ j q, st_own[j]? = some q → vk_R q.1 q.2.1 q.2.2 (adK j) U) ∧ va_Zq "java/lang/Throwable" "UNASSIGNED_STACK" "[Ljava/lang/StackTraceElement;" (fun q => N0 ≤ q) U U.heap ∧ va_Zq "java/lang/Throwable" "SUPPRESSED_SENTINEL" "Ljava/util/List;" (fun q => N0 ≤ q) U U.heap ∧ th_L "java/lang/Throwable" "UNASSIGNED_STACK" "[Ljava/lang/StackTraceElement;" (fun q => N0 ≤ q) U U.heap ∧ th_L "java/lang/Throwable" "SUPPRESSED_SENTINEL" "Ljava/util/List;" (fun q => N0 ≤ q) U U.heap
theorem st_Z1 {N0 : Nat} {adK adV : Nat → Nat} (U : State) (g : JFrame) (mk : MethodId) (a : Array Value) (h : st_Z N0 adK adV U) : st_Z N0 adK adV (U.calling g mk a) :=
  ⟨vk_S.moved (u := U) (U := U.calling g mk a) (Vm.Alike.refl U.vm) h.1, va_Z.moved (u := U) (U := U.calling g mk a) (Vm.Alike.refl U.vm) h.2.1, va_Zq.moved (u := U) (U := U.calling g mk a) (Vm.Alike.refl U.vm) h.2.2.1, fun j q hq => vk_R.same (u := U) (U := U.calling g mk a) rfl (h.2.2.2.1 j q hq), va_Zq.moved (u := U) (U := U.calling g mk a) (Vm.Alike.refl U.vm) h.2.2.2.2.1, va_Zq.moved (u := U) (U := U.calling g mk a) (Vm.Alike.refl U.vm) h.2.2.2.2.2.1, th_L.moved (u := U) (U := U.calling g mk a) (Vm.Alike.refl U.vm) h.2.2.2.2.2.2.1, th_L.moved (u := U) (U := U.calling g mk a) (Vm.Alike.refl U.vm) h.2.2.2.2.2.2.2⟩
theorem st_Z2 {N0 : Nat} {adK adV : Nat → Nat} (s U : State) (H1 : Heap) (locs1 : List Loc) (h : st_Z N0 adK adV s) (hS : va_S (fun q => N0 ≤ q) s.heap H1 locs1) (hU : U.heap = H1) (hW : s.WarmedH U.vm) : st_Z N0 adK adV U := by
  subst hU
  exact ⟨(vk_S.moved hW.alike h.1).kept hS.2.1, (va_Z.moved hW.alike h.2.1).kept hS.2.1, (va_Zq.moved hW.alike h.2.2.1).kept hS.2.1, fun j q hq => vk_R.warm hW (h.2.2.2.1 j q hq), (va_Zq.moved hW.alike h.2.2.2.2.1).kept hS.2.1, (va_Zq.moved hW.alike h.2.2.2.2.2.1).kept hS.2.1, (th_L.moved hW.alike h.2.2.2.2.2.2.1).kept hS.2.1, (th_L.moved hW.alike h.2.2.2.2.2.2.2).kept hS.2.1⟩
def st_Q (v : Option Value) : Array Value → State → Outcome → State → Prop := fun _ st oc t => oc = .returned v ∧ t.heap = st.heap
section STA
variable {p : Program} {l : Launch} {e : Env} {R : Room} {s : State} {m : MethodId} {args : Array Value} {below : List Frame} {meth : Method} {c : Code} {H : Heap} {locs : List Loc} {cells slots : Nat} {Q : State → Prop} {pc : Nat} {ls : Array Slot} {st0 rest : List Value} {a : Array Value} {v : Option Value}
theorem st_back (hr : va_Run p l e R s m args below meth c H locs cells slots 0 0 (F0 m pc ls st0) rest (st_Q v a) (fun _ => False))
    (kk : W p l e R s m args below meth c H locs cells slots Q (F0 m (pc + 3) ls (v.toList ++ rest))) : W p l e R s m args below meth c H locs cells slots Q (F0 m pc ls st0) := by
  intro T hT X
  obtain ⟨v', st₀, t, T', L, h0, X', hL, e1, e2, ⟨hv, hh⟩, st⟩ := hr T hT X
  cases hv
  have hLn : L = [] := List.eq_nil_iff_forall_not_mem.mpr (fun q hq => hL q hq)
  subst hLn
  obtain ⟨t2, a1, b1⟩ := kk T' (e1.trans (hh.trans h0)) (by simpa using X')
  exact ⟨t2, st t2 a1, b1⟩
end STA
def st_ycoder : MethodName := ⟨"java/lang/String", "coder", "()B"⟩
set_option maxRecDepth 200000 in
theorem st_ccoder : Cond.code st_ycoder prog_17_method_152_code 1 (some .byte) ∈ tb_gd := tb_gd_in (i := 596) rfl rfl
def st_wcoder : List Cond := Cond.code st_ycoder prog_17_method_152_code 1 (some .byte) :: tb_gd
def st_ylat : MethodName := ⟨"java/lang/String", "isLatin1", "()Z"⟩
set_option maxRecDepth 200000 in
theorem st_clat : Cond.code st_ylat prog_17_method_154_code 1 (some .boolean) ∈ tb_gd := tb_gd_in (i := 606) rfl rfl
def st_wlat : List Cond := Cond.code st_ylat prog_17_method_154_code 1 (some .boolean) :: tb_gd
def st_ylen : MethodName := ⟨"java/lang/String", "length", "()I"⟩
set_option maxRecDepth 200000 in
theorem st_clen : Cond.code st_ylen prog_17_method_54_code 1 (some .int) ∈ tb_gd := tb_gd_in (i := 592) rfl rfl
def st_wlen : List Cond := Cond.code st_ylen prog_17_method_54_code 1 (some .int) :: tb_gd
def st_ychr : MethodName := ⟨"java/lang/String", "charAt", "(I)C"⟩
set_option maxRecDepth 200000 in
theorem st_cchr : Cond.code st_ychr prog_17_method_56_code 2 (some .char) ∈ tb_gd := tb_gd_in (i := 602) rfl rfl
def st_wchr : List Cond := Cond.code st_ychr prog_17_method_56_code 2 (some .char) :: tb_gd
def st_ylch : MethodName := ⟨"java/lang/StringLatin1", "charAt", "([BI)C"⟩
set_option maxRecDepth 200000 in
theorem st_clch : Cond.code st_ylch prog_18_method_2_code 2 (some .char) ∈ tb_gd := tb_gd_in (i := 609) rfl rfl
def st_wlch : List Cond := Cond.code st_ylch prog_18_method_2_code 2 (some .char) :: tb_gd
def st_ychk : MethodName := ⟨"java/lang/String", "checkIndex", "(II)V"⟩
set_option maxRecDepth 200000 in
theorem st_cchk : Cond.code st_ychk prog_17_method_155_code 2 none ∈ tb_gd := tb_gd_in (i := 612) rfl rfl
def st_wchk : List Cond := Cond.code st_ychk prog_17_method_155_code 2 none :: tb_gd
def st_ypre : MethodName := ⟨"jdk/internal/util/Preconditions", "checkIndex", "(IILjava/util/function/BiFunction;)I"⟩
set_option maxRecDepth 200000 in
theorem st_cpre : Cond.code st_ypre prog_22_method_11_code 3 (some .int) ∈ tb_gd := tb_gd_in (i := 617) rfl rfl
def st_wpre : List Cond := Cond.code st_ypre prog_22_method_11_code 3 (some .int) :: tb_gd
theorem st_f38 : Cond.fieldLink "java/lang/String" 38 "java/lang/String" "COMPACT_STRINGS" "Z" ∈ tb_gd := tb_gd_in (i := 597) (by decide +kernel) rfl
theorem st_f9 : Cond.fieldLink "java/lang/String" 9 "java/lang/String" "value" "[B" ∈ tb_gd := tb_gd_in (i := 1129) (by decide +kernel) rfl
theorem st_f15 : Cond.fieldLink "java/lang/String" 15 "java/lang/String" "coder" "B" ∈ tb_gd := tb_gd_in (i := 1130) (by decide +kernel) rfl
theorem st_f1053 : Cond.fieldLink "java/lang/String" 1053 "jdk/internal/util/Preconditions" "SIOOBE_FORMATTER" "Ljava/util/function/BiFunction;" ∈ tb_gd := tb_gd_in (i := 613) (by decide +kernel) rfl
theorem st_l335coder : Cond.methodLink "java/lang/String" 335 st_ycoder ∈ tb_gd := tb_gd_in (i := 593) (by decide +kernel) rfl
theorem st_l492lat : Cond.methodLink "java/lang/String" 492 st_ylat ∈ tb_gd := tb_gd_in (i := 603) (by decide +kernel) rfl
theorem st_l495lch : Cond.methodLink "java/lang/String" 495 st_ylch ∈ tb_gd := tb_gd_in (i := 607) (by decide +kernel) rfl
theorem st_l9chk : Cond.methodLink "java/lang/StringLatin1" 9 st_ychk ∈ tb_gd := tb_gd_in (i := 610) (by decide +kernel) rfl
theorem st_l1059pre : Cond.methodLink "java/lang/String" 1059 st_ypre ∈ tb_gd := tb_gd_in (i := 615) (by decide +kernel) rfl
theorem st_l97len : Cond.methodLink "ConditionDesk$Tokens" 97 st_ylen ∈ tb_gd := tb_gd_in (i := 589) (by decide +kernel) rfl
theorem st_l101chr : Cond.methodLink "ConditionDesk$Tokens" 101 st_ychr ∈ tb_gd := tb_gd_in (i := 599) (by decide +kernel) rfl
theorem st_icoder : Cond.instanceMethod st_ycoder ∈ tb_gd := tb_gd_in (i := 594) (by decide +kernel) rfl
theorem st_scoder : Cond.selects "java/lang/String" st_ycoder st_ycoder ∈ tb_gd := tb_gd_in (i := 595) (by decide +kernel) rfl
theorem st_ilat : Cond.instanceMethod st_ylat ∈ tb_gd := tb_gd_in (i := 604) (by decide +kernel) rfl
theorem st_slat : Cond.selects "java/lang/String" st_ylat st_ylat ∈ tb_gd := tb_gd_in (i := 605) (by decide +kernel) rfl
theorem st_ilen : Cond.instanceMethod st_ylen ∈ tb_gd := tb_gd_in (i := 590) (by decide +kernel) rfl
theorem st_slen : Cond.selects "java/lang/String" st_ylen st_ylen ∈ tb_gd := tb_gd_in (i := 591) (by decide +kernel) rfl
theorem st_ichr : Cond.instanceMethod st_ychr ∈ tb_gd := tb_gd_in (i := 600) (by decide +kernel) rfl
theorem st_schr : Cond.selects "java/lang/String" st_ychr st_ychr ∈ tb_gd := tb_gd_in (i := 601) (by decide +kernel) rfl
theorem st_tlch : Cond.static st_ylch ∈ tb_gd := tb_gd_in (i := 608) (by decide +kernel) rfl
theorem st_tchk : Cond.static st_ychk ∈ tb_gd := tb_gd_in (i := 611) (by decide +kernel) rfl
theorem st_tpre : Cond.static st_ypre ∈ tb_gd := tb_gd_in (i := 616) (by decide +kernel) rfl
theorem st_nS : Cond.initialized "java/lang/String" ∈ tb_gd := tb_gd_in (i := 94) (by decide +kernel) rfl
theorem st_nL : Cond.initialized "java/lang/StringLatin1" ∈ tb_gd := tb_gd_in (i := 95) (by decide +kernel) rfl
theorem st_nP : Cond.initialized "jdk/internal/util/Preconditions" ∈ tb_gd := tb_gd_in (i := 96) (by decide +kernel) rfl
theorem st_l31 : ∀ j, j < st_n → st_len.getD j 0 < 2 ^ 31 := by decide +kernel
def st_rm (d : Nat) : Room := { frames := d, cells := 0, slots := 0, locals := 40 * d }
theorem st_hws {s : State} {args : Array Value} {Ts : List Cond} {y : MethodName} {b : ByteArray} {n : Nat} {r : Option FieldType} (hts : ∀ w ∈ Ts, w.before args s = true) (hgd : ∀ w ∈ tb_gd, w ∈ Ts) (hc : Cond.code y b n r ∈ tb_gd) : ∀ w ∈ Cond.code y b n r :: tb_gd, ∀ (a' : Array Value) (U : State), s.WarmedH U.vm → w.before a' U = true := fun w hw a' U hW => by
  have hg : w ∈ tb_gd := (List.mem_cons.mp hw).elim (fun e => e ▸ hc) id
  exact word_at hW (good_of_word (tb_good w hg)) (hts w (hgd w hg))
theorem st_dcoder0 : decode prog_17_method_152_code 0 = .ok (.getstatic 38, 3) := by decide +kernel
theorem st_dcoder3 : decode prog_17_method_152_code 3 = .ok (.ifCond .eq 10, 3) := by decide +kernel
theorem st_dcoder6 : decode prog_17_method_152_code 6 = .ok (.aload_n 0, 1) := by decide +kernel
theorem st_dcoder7 : decode prog_17_method_152_code 7 = .ok (.getfield 15, 3) := by decide +kernel
theorem st_dcoder10 : decode prog_17_method_152_code 10 = .ok (.goto 4, 3) := by decide +kernel
theorem st_dcoder14 : decode prog_17_method_152_code 14 = .ok (.ireturn, 1) := by decide +kernel
theorem st_dlat0 : decode prog_17_method_154_code 0 = .ok (.getstatic 38, 3) := by decide +kernel
theorem st_dlat3 : decode prog_17_method_154_code 3 = .ok (.ifCond .eq 14, 3) := by decide +kernel
theorem st_dlat6 : decode prog_17_method_154_code 6 = .ok (.aload_n 0, 1) := by decide +kernel
theorem st_dlat7 : decode prog_17_method_154_code 7 = .ok (.getfield 15, 3) := by decide +kernel
theorem st_dlat10 : decode prog_17_method_154_code 10 = .ok (.ifCond .ne 7, 3) := by decide +kernel
theorem st_dlat13 : decode prog_17_method_154_code 13 = .ok (.iconst 1, 1) := by decide +kernel
theorem st_dlat14 : decode prog_17_method_154_code 14 = .ok (.goto 4, 3) := by decide +kernel
theorem st_dlat18 : decode prog_17_method_154_code 18 = .ok (.ireturn, 1) := by decide +kernel
theorem st_dlen0 : decode prog_17_method_54_code 0 = .ok (.aload_n 0, 1) := by decide +kernel
theorem st_dlen1 : decode prog_17_method_54_code 1 = .ok (.getfield 9, 3) := by decide +kernel
theorem st_dlen4 : decode prog_17_method_54_code 4 = .ok (.arraylength, 1) := by decide +kernel
theorem st_dlen5 : decode prog_17_method_54_code 5 = .ok (.aload_n 0, 1) := by decide +kernel
theorem st_dlen6 : decode prog_17_method_54_code 6 = .ok (.invokevirtual 335, 3) := by decide +kernel
theorem st_dlen9 : decode prog_17_method_54_code 9 = .ok (.ishr, 1) := by decide +kernel
theorem st_dlen10 : decode prog_17_method_54_code 10 = .ok (.ireturn, 1) := by decide +kernel
theorem st_dpre0 : decode prog_22_method_11_code 0 = .ok (.iload_n 0, 1) := by decide +kernel
theorem st_dpre1 : decode prog_22_method_11_code 1 = .ok (.ifCond .lt 8, 3) := by decide +kernel
theorem st_dpre4 : decode prog_22_method_11_code 4 = .ok (.iload_n 0, 1) := by decide +kernel
theorem st_dpre5 : decode prog_22_method_11_code 5 = .ok (.iload_n 1, 1) := by decide +kernel
theorem st_dpre6 : decode prog_22_method_11_code 6 = .ok (.if_icmp .lt 10, 3) := by decide +kernel
theorem st_dpre16 : decode prog_22_method_11_code 16 = .ok (.iload_n 0, 1) := by decide +kernel
theorem st_dpre17 : decode prog_22_method_11_code 17 = .ok (.ireturn, 1) := by decide +kernel
theorem st_dchk0 : decode prog_17_method_155_code 0 = .ok (.iload_n 0, 1) := by decide +kernel
theorem st_dchk1 : decode prog_17_method_155_code 1 = .ok (.iload_n 1, 1) := by decide +kernel
theorem st_dchk2 : decode prog_17_method_155_code 2 = .ok (.getstatic 1053, 3) := by decide +kernel
theorem st_dchk5 : decode prog_17_method_155_code 5 = .ok (.invokestatic 1059, 3) := by decide +kernel
theorem st_dchk8 : decode prog_17_method_155_code 8 = .ok (.pop, 1) := by decide +kernel
theorem st_dchk9 : decode prog_17_method_155_code 9 = .ok (.return_, 1) := by decide +kernel
theorem st_dlch0 : decode prog_18_method_2_code 0 = .ok (.iload_n 1, 1) := by decide +kernel
theorem st_dlch1 : decode prog_18_method_2_code 1 = .ok (.aload_n 0, 1) := by decide +kernel
theorem st_dlch2 : decode prog_18_method_2_code 2 = .ok (.arraylength, 1) := by decide +kernel
theorem st_dlch3 : decode prog_18_method_2_code 3 = .ok (.invokestatic 9, 3) := by decide +kernel
theorem st_dlch6 : decode prog_18_method_2_code 6 = .ok (.aload_n 0, 1) := by decide +kernel
theorem st_dlch7 : decode prog_18_method_2_code 7 = .ok (.iload_n 1, 1) := by decide +kernel
theorem st_dlch8 : decode prog_18_method_2_code 8 = .ok (.baload, 1) := by decide +kernel
theorem st_dlch9 : decode prog_18_method_2_code 9 = .ok (.sipush 255, 3) := by decide +kernel
theorem st_dlch12 : decode prog_18_method_2_code 12 = .ok (.iand, 1) := by decide +kernel
theorem st_dlch13 : decode prog_18_method_2_code 13 = .ok (.i2c, 1) := by decide +kernel
theorem st_dlch14 : decode prog_18_method_2_code 14 = .ok (.ireturn, 1) := by decide +kernel
theorem st_dchr0 : decode prog_17_method_56_code 0 = .ok (.aload_n 0, 1) := by decide +kernel
theorem st_dchr1 : decode prog_17_method_56_code 1 = .ok (.invokevirtual 492, 3) := by decide +kernel
theorem st_dchr4 : decode prog_17_method_56_code 4 = .ok (.ifCond .eq 12, 3) := by decide +kernel
theorem st_dchr7 : decode prog_17_method_56_code 7 = .ok (.aload_n 0, 1) := by decide +kernel
theorem st_dchr8 : decode prog_17_method_56_code 8 = .ok (.getfield 9, 3) := by decide +kernel
theorem st_dchr11 : decode prog_17_method_56_code 11 = .ok (.iload_n 1, 1) := by decide +kernel
theorem st_dchr12 : decode prog_17_method_56_code 12 = .ok (.invokestatic 495, 3) := by decide +kernel
theorem st_dchr15 : decode prog_17_method_56_code 15 = .ok (.ireturn, 1) := by decide +kernel
section STB
variable {l : Launch} {N0 : Nat} {adK adV : Nat → Nat}
set_option maxHeartbeats 4000000 in
set_option maxRecDepth 100000 in
theorem st_mcoder {j : Nat} (hj : j < st_n) : Met l st_ycoder st_wcoder (st_rm 1) (va_Pc ([.ref (adK j)]) (st_Z N0 adK adV)) (st_Q (some (.int 0))) 0 0 (fun _ => False) := by
  refine va_MetF (cc := prog_17_method_152_code) (maxL := 1) (ret := (some .byte)) (by decide +kernel) rfl ?_
  intro p e s m args below meth c s₁ B hml hv
  obtain ⟨rfl, hZ⟩ := hv
  have hx := B.exec
  have hb := B.bytes
  have hr := B.returns
  have hts := atoms_spec (ws := st_wcoder) B.pre
  have hown : s.vm.findClass "java/lang/String" = some m.cls := findClass_of_methodNamed B.named
  have hlocks := B.notSynchronized
  have hgd : ∀ w ∈ tb_gd, w ∈ st_wcoder := fun w hw => List.mem_cons_of_mem _ hw
  have hg : ∀ w ∈ tb_gd, w.before _ s = true := fun w hw => hts w (hgd w hw)
  have hS : va_S (fun q => N0 ≤ q) s.heap s.heap [] := va_S.rf
  have hl := lv_entry ([.ref (adK j)]) (n := 1) (Nat.le_of_ble_eq_true rfl)
  rw [lg_entry_eq]
  generalize (lg_sl ([.ref (adK j)]) ++ List.replicate (1 - (lg_sl ([.ref (adK j)])).length) Slot.unset).toArray = ls at hl ⊢
  have hl : lv_has ls 1 [(0, .ref (adK j))] := hl
  refine va_gets hx hb hZ.2.1 hS hown (hg _ st_f38) (fun _ h => h) st_dcoder0 ?_
  refine lv_if_eq (tgt := 13) hx hb st_dcoder3 (by decide) (fun h => absurd h (by decide)) (fun _ => ?_)
  refine lv_aload_n hx hb st_dcoder6 rfl (lv_at hl 0 rfl) ?_
  refine vk_getf hx hb (hZ.1.1 j hj).2.1 hS hown (hg _ st_f15) (fun _ h => h) st_dcoder7 ?_
  refine lv_goto (tgt := 14) hx hb st_dcoder10 (by decide) ?_
  exact W.zret hx hb hr rfl (fun t ht _ => ⟨rfl, ht⟩) (fun _ h => by cases h) st_dcoder14
set_option maxHeartbeats 4000000 in
set_option maxRecDepth 100000 in
theorem st_mlat {j : Nat} (hj : j < st_n) : Met l st_ylat st_wlat (st_rm 1) (va_Pc ([.ref (adK j)]) (st_Z N0 adK adV)) (st_Q (some (.int 1))) 0 0 (fun _ => False) := by
  refine va_MetF (cc := prog_17_method_154_code) (maxL := 1) (ret := (some .boolean)) (by decide +kernel) rfl ?_
  intro p e s m args below meth c s₁ B hml hv
  obtain ⟨rfl, hZ⟩ := hv
  have hx := B.exec
  have hb := B.bytes
  have hr := B.returns
  have hts := atoms_spec (ws := st_wlat) B.pre
  have hown : s.vm.findClass "java/lang/String" = some m.cls := findClass_of_methodNamed B.named
  have hlocks := B.notSynchronized
  have hgd : ∀ w ∈ tb_gd, w ∈ st_wlat := fun w hw => List.mem_cons_of_mem _ hw
  have hg : ∀ w ∈ tb_gd, w.before _ s = true := fun w hw => hts w (hgd w hw)
  have hS : va_S (fun q => N0 ≤ q) s.heap s.heap [] := va_S.rf
  have hl := lv_entry ([.ref (adK j)]) (n := 1) (Nat.le_of_ble_eq_true rfl)
  rw [lg_entry_eq]
  generalize (lg_sl ([.ref (adK j)]) ++ List.replicate (1 - (lg_sl ([.ref (adK j)])).length) Slot.unset).toArray = ls at hl ⊢
  have hl : lv_has ls 1 [(0, .ref (adK j))] := hl
  refine va_gets hx hb hZ.2.1 hS hown (hg _ st_f38) (fun _ h => h) st_dlat0 ?_
  refine lv_if_eq (tgt := 17) hx hb st_dlat3 (by decide) (fun h => absurd h (by decide)) (fun _ => ?_)
  refine lv_aload_n hx hb st_dlat6 rfl (lv_at hl 0 rfl) ?_
  refine vk_getf hx hb (hZ.1.1 j hj).2.1 hS hown (hg _ st_f15) (fun _ h => h) st_dlat7 ?_
  refine lv_if_ne (tgt := 17) hx hb st_dlat10 (by decide) (fun h => absurd rfl h) (fun _ => ?_)
  refine lv_iconst (v := 1) hx hb st_dlat13 (by decide) ?_
  refine lv_goto (tgt := 18) hx hb st_dlat14 (by decide) ?_
  exact W.zret hx hb hr rfl (fun t ht _ => ⟨rfl, ht⟩) (fun _ h => by cases h) st_dlat18
set_option maxHeartbeats 4000000 in
set_option maxRecDepth 100000 in
theorem st_mlen {j : Nat} (hj : j < st_n) : Met l st_ylen st_wlen (st_rm 2) (va_Pc ([.ref (adK j)]) (st_Z N0 adK adV)) (st_Q (some (.int (nI (st_len.getD j 0))))) 0 0 (fun _ => False) := by
  refine va_MetF (cc := prog_17_method_54_code) (maxL := 1) (ret := (some .int)) (by decide +kernel) rfl ?_
  intro p e s m args below meth c s₁ B hml hv
  obtain ⟨rfl, hZ⟩ := hv
  have hx := B.exec
  have hb := B.bytes
  have hr := B.returns
  have hts := atoms_spec (ws := st_wlen) B.pre
  have hown : s.vm.findClass "java/lang/String" = some m.cls := findClass_of_methodNamed B.named
  have hlocks := B.notSynchronized
  have hgd : ∀ w ∈ tb_gd, w ∈ st_wlen := fun w hw => List.mem_cons_of_mem _ hw
  have hg : ∀ w ∈ tb_gd, w.before _ s = true := fun w hw => hts w (hgd w hw)
  have hS : va_S (fun q => N0 ≤ q) s.heap s.heap [] := va_S.rf
  have hl := lv_entry ([.ref (adK j)]) (n := 1) (Nat.le_of_ble_eq_true rfl)
  rw [lg_entry_eq]
  generalize (lg_sl ([.ref (adK j)]) ++ List.replicate (1 - (lg_sl ([.ref (adK j)])).length) Slot.unset).toArray = ls at hl ⊢
  have hl : lv_has ls 1 [(0, .ref (adK j))] := hl
  refine lv_aload_n hx hb st_dlen0 rfl (lv_at hl 0 rfl) ?_
  refine vk_getf hx hb (hZ.1.1 j hj).2.2.1 hS hown (hg _ st_f9) (fun _ h => h) st_dlen1 ?_
  refine va_tlen hx hb (hZ.1.1 j hj).2.2.2 hS rfl st_dlen4 ?_
  refine lv_aload_n hx hb st_dlen5 rfl (lv_at hl 0 rfl) ?_
  refine st_back (va_runV (As := []) (rest := [.int (Int32.ofNat (st_len.getD j 0))]) ⟨hx, hb, hml, hown, hts⟩ (st_mcoder (l := l) hj) ⟨⟨rfl, rfl, Nat.le_of_ble_eq_true rfl, Nat.le_of_ble_eq_true rfl, st_hws hts hgd st_ccoder, List.mem_cons_self, hg _ st_ccoder, hg _ st_nS, ⟨by decide, by decide⟩, fun sig h9 => (by rw [show parseMethodDescriptor st_ycoder.desc = _ from rfl] at h9; cases h9; rfl), hg _ st_l335coder⟩, hg _ st_icoder, hg _ st_scoder⟩ ⟨fun a U g mk q => ⟨q.1, st_Z1 U g mk a q.2⟩, vk_recv hZ.1 hj hS, fun U hU hW => ⟨rfl, st_Z2 s U _ _ hZ hS hU hW⟩⟩ rfl rfl hl.1 rfl (lv_room (Nat.le_of_ble_eq_true rfl)) st_dlen6 ⟨Nat.le_refl _, Nat.le_refl _⟩) ?_
  refine lv_ishr hx hb st_dlen9 ?_
  have e9 : (Int32.ofNat (st_len.getD j 0)) >>> ((0 : Int32) &&& 31) = nI (st_len.getD j 0) := sb_shr0 _
  show W p l e _ s m _ below meth c s.heap [] 0 0 _ (F0 m 10 ls [.int ((Int32.ofNat (st_len.getD j 0)) >>> ((0 : Int32) &&& 31))])
  rw [e9]
  exact W.zret hx hb hr rfl (fun t ht _ => ⟨rfl, ht⟩) (fun _ h => by cases h) st_dlen10
set_option maxHeartbeats 4000000 in
set_option maxRecDepth 100000 in
theorem st_mpren {i n : Int32} (h0 : ¬ i < 0) (h1 : i < n) : Met l st_ypre st_wpre (st_rm 1) (va_Pc ([.int i, .int n, .null]) (st_Z N0 adK adV)) (st_Q (some (.int i))) 0 0 (fun _ => False) := by
  refine va_MetF (cc := prog_22_method_11_code) (maxL := 3) (ret := (some .int)) (by decide +kernel) rfl ?_
  intro p e s m args below meth c s₁ B hml hv
  obtain ⟨rfl, hZ⟩ := hv
  have hx := B.exec
  have hb := B.bytes
  have hr := B.returns
  have hts := atoms_spec (ws := st_wpre) B.pre
  have hown : s.vm.findClass "jdk/internal/util/Preconditions" = some m.cls := findClass_of_methodNamed B.named
  have hlocks := B.notSynchronized
  have hgd : ∀ w ∈ tb_gd, w ∈ st_wpre := fun w hw => List.mem_cons_of_mem _ hw
  have hg : ∀ w ∈ tb_gd, w.before _ s = true := fun w hw => hts w (hgd w hw)
  have hS : va_S (fun q => N0 ≤ q) s.heap s.heap [] := va_S.rf
  have hl := lv_entry ([.int i, .int n, .null]) (n := 3) (Nat.le_of_ble_eq_true rfl)
  rw [lg_entry_eq]
  generalize (lg_sl ([.int i, .int n, .null]) ++ List.replicate (3 - (lg_sl ([.int i, .int n, .null])).length) Slot.unset).toArray = ls at hl ⊢
  have hl : lv_has ls 3 [(0, .int i), (1, .int n), (2, .null)] := hl
  refine lv_iload_n hx hb st_dpre0 rfl (lv_at hl 0 rfl) ?_
  refine lv_if_lt (tgt := 9) hx hb st_dpre1 (by decide) (fun h => absurd h h0) (fun _ => ?_)
  refine lv_iload_n hx hb st_dpre4 rfl (lv_at hl 0 rfl) ?_
  refine lv_iload_n hx hb st_dpre5 rfl (lv_at hl 1 rfl) ?_
  refine lv_icmp_lt (tgt := 16) hx hb st_dpre6 (by decide) (fun _ => ?_) (fun h => absurd h1 h)
  refine lv_iload_n hx hb st_dpre16 rfl (lv_at hl 0 rfl) ?_
  exact W.zret hx hb hr rfl (fun t ht _ => ⟨rfl, ht⟩) (fun _ h => by cases h) st_dpre17
set_option maxHeartbeats 4000000 in
set_option maxRecDepth 100000 in
theorem st_mprer {i n : Int32} {f : Nat} (h0 : ¬ i < 0) (h1 : i < n) : Met l st_ypre st_wpre (st_rm 1) (va_Pc ([.int i, .int n, .ref f]) (st_Z N0 adK adV)) (st_Q (some (.int i))) 0 0 (fun _ => False) := by
  refine va_MetF (cc := prog_22_method_11_code) (maxL := 3) (ret := (some .int)) (by decide +kernel) rfl ?_
  intro p e s m args below meth c s₁ B hml hv
  obtain ⟨rfl, hZ⟩ := hv
  have hx := B.exec
  have hb := B.bytes
  have hr := B.returns
  have hts := atoms_spec (ws := st_wpre) B.pre
  have hown : s.vm.findClass "jdk/internal/util/Preconditions" = some m.cls := findClass_of_methodNamed B.named
  have hlocks := B.notSynchronized
  have hgd : ∀ w ∈ tb_gd, w ∈ st_wpre := fun w hw => List.mem_cons_of_mem _ hw
  have hg : ∀ w ∈ tb_gd, w.before _ s = true := fun w hw => hts w (hgd w hw)
  have hS : va_S (fun q => N0 ≤ q) s.heap s.heap [] := va_S.rf
  have hl := lv_entry ([.int i, .int n, .ref f]) (n := 3) (Nat.le_of_ble_eq_true rfl)
  rw [lg_entry_eq]
  generalize (lg_sl ([.int i, .int n, .ref f]) ++ List.replicate (3 - (lg_sl ([.int i, .int n, .ref f])).length) Slot.unset).toArray = ls at hl ⊢
  have hl : lv_has ls 3 [(0, .int i), (1, .int n), (2, .ref f)] := hl
  refine lv_iload_n hx hb st_dpre0 rfl (lv_at hl 0 rfl) ?_
  refine lv_if_lt (tgt := 9) hx hb st_dpre1 (by decide) (fun h => absurd h h0) (fun _ => ?_)
  refine lv_iload_n hx hb st_dpre4 rfl (lv_at hl 0 rfl) ?_
  refine lv_iload_n hx hb st_dpre5 rfl (lv_at hl 1 rfl) ?_
  refine lv_icmp_lt (tgt := 16) hx hb st_dpre6 (by decide) (fun _ => ?_) (fun h => absurd h1 h)
  refine lv_iload_n hx hb st_dpre16 rfl (lv_at hl 0 rfl) ?_
  exact W.zret hx hb hr rfl (fun t ht _ => ⟨rfl, ht⟩) (fun _ h => by cases h) st_dpre17
set_option maxHeartbeats 4000000 in
set_option maxRecDepth 100000 in
theorem st_mchk {i n : Int32} (h0 : ¬ i < 0) (h1 : i < n) : Met l st_ychk st_wchk (st_rm 2) (va_Pc ([.int i, .int n]) (st_Z N0 adK adV)) (st_Q (none)) 0 0 (fun _ => False) := by
  refine va_MetF (cc := prog_17_method_155_code) (maxL := 2) (ret := none) (by decide +kernel) rfl ?_
  intro p e s m args below meth c s₁ B hml hv
  obtain ⟨rfl, hZ⟩ := hv
  have hx := B.exec
  have hb := B.bytes
  have hr := B.returns
  have hts := atoms_spec (ws := st_wchk) B.pre
  have hown : s.vm.findClass "java/lang/String" = some m.cls := findClass_of_methodNamed B.named
  have hlocks := B.notSynchronized
  have hgd : ∀ w ∈ tb_gd, w ∈ st_wchk := fun w hw => List.mem_cons_of_mem _ hw
  have hg : ∀ w ∈ tb_gd, w.before _ s = true := fun w hw => hts w (hgd w hw)
  have hS : va_S (fun q => N0 ≤ q) s.heap s.heap [] := va_S.rf
  have hl := lv_entry ([.int i, .int n]) (n := 2) (Nat.le_of_ble_eq_true rfl)
  rw [lg_entry_eq]
  generalize (lg_sl ([.int i, .int n]) ++ List.replicate (2 - (lg_sl ([.int i, .int n])).length) Slot.unset).toArray = ls at hl ⊢
  have hl : lv_has ls 2 [(0, .int i), (1, .int n)] := hl
  refine lv_iload_n hx hb st_dchk0 rfl (lv_at hl 0 rfl) ?_
  refine lv_iload_n hx hb st_dchk1 rfl (lv_at hl 1 rfl) ?_
  rcases hZ.2.2.1 with hF | ⟨f, hF⟩
  · refine va_gets hx hb hF hS hown (hg _ st_f1053) (fun _ h => h) st_dchk2 ?_
    refine st_back (va_runS (As := [.int i, .int n, .null]) (rest := []) ⟨hx, hb, hml, hown, hts⟩ (st_mpren (l := l) h0 h1) ⟨⟨rfl, rfl, Nat.le_of_ble_eq_true rfl, Nat.le_of_ble_eq_true rfl, st_hws hts hgd st_cpre, List.mem_cons_self, hg _ st_cpre, hg _ st_nP, ⟨by decide, by decide⟩, fun sig h9 => (by rw [show parseMethodDescriptor st_ypre.desc = _ from rfl] at h9; cases h9; rfl), hg _ st_l1059pre⟩, hg _ st_tpre⟩ ⟨fun a U g mk q => ⟨q.1, st_Z1 U g mk a q.2⟩, fun U hU hW => ⟨rfl, st_Z2 s U _ _ hZ hS hU hW⟩⟩ rfl rfl hl.1 rfl (lv_room (Nat.le_of_ble_eq_true rfl)) st_dchk5 ⟨Nat.le_refl _, Nat.le_refl _⟩) ?_
    refine lv_pop hx hb st_dchk8 rfl ?_
    exact W.vret hx hb hr (fun t ht _ => ⟨rfl, ht⟩) (fun _ h => by cases h) st_dchk9
  · refine va_gets hx hb hF hS hown (hg _ st_f1053) (fun _ h => h) st_dchk2 ?_
    refine st_back (va_runS (As := [.int i, .int n, .ref f]) (rest := []) ⟨hx, hb, hml, hown, hts⟩ (st_mprer (l := l) h0 h1) ⟨⟨rfl, rfl, Nat.le_of_ble_eq_true rfl, Nat.le_of_ble_eq_true rfl, st_hws hts hgd st_cpre, List.mem_cons_self, hg _ st_cpre, hg _ st_nP, ⟨by decide, by decide⟩, fun sig h9 => (by rw [show parseMethodDescriptor st_ypre.desc = _ from rfl] at h9; cases h9; rfl), hg _ st_l1059pre⟩, hg _ st_tpre⟩ ⟨fun a U g mk q => ⟨q.1, st_Z1 U g mk a q.2⟩, fun U hU hW => ⟨rfl, st_Z2 s U _ _ hZ hS hU hW⟩⟩ rfl rfl hl.1 rfl (lv_room (Nat.le_of_ble_eq_true rfl)) st_dchk5 ⟨Nat.le_refl _, Nat.le_refl _⟩) ?_
    refine lv_pop hx hb st_dchk8 rfl ?_
    exact W.vret hx hb hr (fun t ht _ => ⟨rfl, ht⟩) (fun _ h => by cases h) st_dchk9
set_option maxHeartbeats 4000000 in
set_option maxRecDepth 100000 in
theorem st_mlch {j : Nat} {i : Int32} (hj : j < st_n) (hi : vp_in i (st_len.getD j 0)) : Met l st_ylch st_wlch (st_rm 3) (va_Pc ([.ref (adV j), .int i]) (st_Z N0 adK adV)) (st_Q (some (.int (((st_byt.getD j []).getD i.toNatClampNeg 0 &&& 255).toUInt32 % 65536).toInt32))) 0 0 (fun _ => False) := by
  refine va_MetF (cc := prog_18_method_2_code) (maxL := 2) (ret := (some .char)) (by decide +kernel) rfl ?_
  intro p e s m args below meth c s₁ B hml hv
  obtain ⟨rfl, hZ⟩ := hv
  have hx := B.exec
  have hb := B.bytes
  have hr := B.returns
  have hts := atoms_spec (ws := st_wlch) B.pre
  have hown : s.vm.findClass "java/lang/StringLatin1" = some m.cls := findClass_of_methodNamed B.named
  have hlocks := B.notSynchronized
  have hgd : ∀ w ∈ tb_gd, w ∈ st_wlch := fun w hw => List.mem_cons_of_mem _ hw
  have hg : ∀ w ∈ tb_gd, w.before _ s = true := fun w hw => hts w (hgd w hw)
  have hS : va_S (fun q => N0 ≤ q) s.heap s.heap [] := va_S.rf
  have hl := lv_entry ([.ref (adV j), .int i]) (n := 2) (Nat.le_of_ble_eq_true rfl)
  rw [lg_entry_eq]
  generalize (lg_sl ([.ref (adV j), .int i]) ++ List.replicate (2 - (lg_sl ([.ref (adV j), .int i])).length) Slot.unset).toArray = ls at hl ⊢
  have hl : lv_has ls 2 [(0, .ref (adV j)), (1, .int i)] := hl
  have h31 : st_len.getD j 0 < 2 ^ 31 := st_l31 j hj
  obtain ⟨z, hz, rfl⟩ := vp_in_of hi h31
  have h0 : ¬ nI z < 0 := nI_pos (by omega)
  have h1 : nI z < Int32.ofNat (st_len.getD j 0) := nI_lt hz h31
  refine lv_iload_n hx hb st_dlch0 rfl (lv_at hl 1 rfl) ?_
  refine lv_aload_n hx hb st_dlch1 rfl (lv_at hl 0 rfl) ?_
  refine va_tlen hx hb (hZ.1.1 j hj).2.2.2 hS rfl st_dlch2 ?_
  refine st_back (va_runS (As := [.int (nI z), .int (Int32.ofNat (st_len.getD j 0))]) (rest := []) ⟨hx, hb, hml, hown, hts⟩ (st_mchk (l := l) h0 h1) ⟨⟨rfl, rfl, Nat.le_of_ble_eq_true rfl, Nat.le_of_ble_eq_true rfl, st_hws hts hgd st_cchk, List.mem_cons_self, hg _ st_cchk, hg _ st_nS, ⟨by decide, by decide⟩, fun sig h9 => (by rw [show parseMethodDescriptor st_ychk.desc = _ from rfl] at h9; cases h9; rfl), hg _ st_l9chk⟩, hg _ st_tchk⟩ ⟨fun a U g mk q => ⟨q.1, st_Z1 U g mk a q.2⟩, fun U hU hW => ⟨rfl, st_Z2 s U _ _ hZ hS hU hW⟩⟩ rfl rfl hl.1 rfl (lv_room (Nat.le_of_ble_eq_true rfl)) st_dlch3 ⟨Nat.le_refl _, Nat.le_refl _⟩) ?_
  refine lv_aload_n hx hb st_dlch6 rfl (lv_at hl 0 rfl) ?_
  refine lv_iload_n hx hb st_dlch7 rfl (lv_at hl 1 rfl) ?_
  refine va_tb hx hb (hZ.1.1 j hj).2.2.2 hS hi rfl st_dlch8 ?_
  refine lv_sipush (v := 255) hx hb st_dlch9 (by decide) ?_
  refine lv_iand hx hb st_dlch12 ?_
  refine lv_i2c hx hb st_dlch13 rfl ?_
  exact W.zret hx hb hr (pk_nc _) (fun t ht _ => ⟨rfl, ht⟩) (fun _ h => by cases h) st_dlch14
set_option maxHeartbeats 4000000 in
set_option maxRecDepth 100000 in
theorem st_mchr {j : Nat} {i : Int32} (hj : j < st_n) (hi : vp_in i (st_len.getD j 0)) : Met l st_ychr st_wchr (st_rm 4) (va_Pc ([.ref (adK j), .int i]) (st_Z N0 adK adV)) (st_Q (some (.int (((st_byt.getD j []).getD i.toNatClampNeg 0 &&& 255).toUInt32 % 65536).toInt32))) 0 0 (fun _ => False) := by
  refine va_MetF (cc := prog_17_method_56_code) (maxL := 2) (ret := (some .char)) (by decide +kernel) rfl ?_
  intro p e s m args below meth c s₁ B hml hv
  obtain ⟨rfl, hZ⟩ := hv
  have hx := B.exec
  have hb := B.bytes
  have hr := B.returns
  have hts := atoms_spec (ws := st_wchr) B.pre
  have hown : s.vm.findClass "java/lang/String" = some m.cls := findClass_of_methodNamed B.named
  have hlocks := B.notSynchronized
  have hgd : ∀ w ∈ tb_gd, w ∈ st_wchr := fun w hw => List.mem_cons_of_mem _ hw
  have hg : ∀ w ∈ tb_gd, w.before _ s = true := fun w hw => hts w (hgd w hw)
  have hS : va_S (fun q => N0 ≤ q) s.heap s.heap [] := va_S.rf
  have hl := lv_entry ([.ref (adK j), .int i]) (n := 2) (Nat.le_of_ble_eq_true rfl)
  rw [lg_entry_eq]
  generalize (lg_sl ([.ref (adK j), .int i]) ++ List.replicate (2 - (lg_sl ([.ref (adK j), .int i])).length) Slot.unset).toArray = ls at hl ⊢
  have hl : lv_has ls 2 [(0, .ref (adK j)), (1, .int i)] := hl
  refine lv_aload_n hx hb st_dchr0 rfl (lv_at hl 0 rfl) ?_
  refine st_back (va_runV (As := []) (rest := []) ⟨hx, hb, hml, hown, hts⟩ (st_mlat (l := l) hj) ⟨⟨rfl, rfl, Nat.le_of_ble_eq_true rfl, Nat.le_of_ble_eq_true rfl, st_hws hts hgd st_clat, List.mem_cons_self, hg _ st_clat, hg _ st_nS, ⟨by decide, by decide⟩, fun sig h9 => (by rw [show parseMethodDescriptor st_ylat.desc = _ from rfl] at h9; cases h9; rfl), hg _ st_l492lat⟩, hg _ st_ilat, hg _ st_slat⟩ ⟨fun a U g mk q => ⟨q.1, st_Z1 U g mk a q.2⟩, vk_recv hZ.1 hj hS, fun U hU hW => ⟨rfl, st_Z2 s U _ _ hZ hS hU hW⟩⟩ rfl rfl hl.1 rfl (lv_room (Nat.le_of_ble_eq_true rfl)) st_dchr1 ⟨Nat.le_refl _, Nat.le_refl _⟩) ?_
  refine lv_if_eq (tgt := 16) hx hb st_dchr4 (by decide) (fun h => absurd h (by decide)) (fun _ => ?_)
  refine lv_aload_n hx hb st_dchr7 rfl (lv_at hl 0 rfl) ?_
  refine vk_getf hx hb (hZ.1.1 j hj).2.2.1 hS hown (hg _ st_f9) (fun _ h => h) st_dchr8 ?_
  refine lv_iload_n hx hb st_dchr11 rfl (lv_at hl 1 rfl) ?_
  refine st_back (va_runS (As := [.ref (adV j), .int i]) (rest := []) ⟨hx, hb, hml, hown, hts⟩ (st_mlch (l := l) hj hi) ⟨⟨rfl, rfl, Nat.le_of_ble_eq_true rfl, Nat.le_of_ble_eq_true rfl, st_hws hts hgd st_clch, List.mem_cons_self, hg _ st_clch, hg _ st_nL, ⟨by decide, by decide⟩, fun sig h9 => (by rw [show parseMethodDescriptor st_ylch.desc = _ from rfl] at h9; cases h9; rfl), hg _ st_l495lch⟩, hg _ st_tlch⟩ ⟨fun a U g mk q => ⟨q.1, st_Z1 U g mk a q.2⟩, fun U hU hW => ⟨rfl, st_Z2 s U _ _ hZ hS hU hW⟩⟩ rfl rfl hl.1 rfl (lv_room (Nat.le_of_ble_eq_true rfl)) st_dchr12 ⟨Nat.le_refl _, Nat.le_refl _⟩) ?_
  exact W.zret hx hb hr (pk_nc _) (fun t ht _ => ⟨rfl, ht⟩) (fun _ h => by cases h) st_dchr15
end STB
