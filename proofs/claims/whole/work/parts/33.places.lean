/-! Printed by wip/whole/gen_ok.py. What lies at each place, and rules of the steps that are not bytecode. -/
theorem sk_0 : SK[0]? = some (.inl (8, [3, 5, 8, 21, 1])) := rfl
theorem sk_1 : SK[1]? = some (.inl (5, [4, 0])) := rfl
theorem sk_2 : SK[2]? = some (.inr (2, 120, 0)) := rfl
theorem sk_3 : SK[3]? = some (.inl (2, [6, 7, 1])) := rfl
theorem sk_4 : SK[4]? = some (.inr (0, 34, 0)) := rfl
theorem sk_5 : SK[5]? = some (.inr (0, 256, 0)) := rfl
theorem sk_6 : SK[6]? = some (.inl (0, [3, 20, 9, 14, 16, 18, 0])) := rfl
theorem sk_7 : SK[7]? = some (.inl (4, [10, 11, 12, 13, 0, 0])) := rfl
theorem sk_8 : SK[8]? = some (.inr (0, 40, 0)) := rfl
theorem sk_9 : SK[9]? = some (.inr (0, 40, 0)) := rfl
theorem sk_10 : SK[10]? = some (.inr (0, 40, 0)) := rfl
theorem sk_11 : SK[11]? = some (.inr (1, 40, 1)) := rfl
theorem sk_12 : SK[12]? = some (.inl (3, [15, 0])) := rfl
theorem sk_13 : SK[13]? = some (.inr (0, 80, 0)) := rfl
theorem sk_14 : SK[14]? = some (.inl (3, [17, 0])) := rfl
theorem sk_15 : SK[15]? = some (.inr (0, 40, 0)) := rfl
theorem sk_16 : SK[16]? = some (.inl (3, [19, 0])) := rfl
theorem sk_17 : SK[17]? = some (.inr (0, 8, 0)) := rfl
theorem sk_18 : SK[18]? = some (.inl (6, [3, 0, 0, 0, 1])) := rfl
theorem sk_19 : SK[19]? = some (.inr (4, 8, 2)) := rfl
theorem sk_20 : SK[20]? = some (.inl (1, [23, 0, 0, 1, 1, 1, 1])) := rfl
theorem sk_21 : SK[21]? = some (.inl (7, [5, 24, 29, 30, 0, 0, 0])) := rfl
theorem sk_22 : SK[22]? = some (.inl (4, [25, 26, 27, 28, 0, 0])) := rfl
theorem sk_23 : SK[23]? = some (.inr (0, 40, 0)) := rfl
theorem sk_24 : SK[24]? = some (.inr (0, 40, 0)) := rfl
theorem sk_25 : SK[25]? = some (.inr (0, 40, 0)) := rfl
theorem sk_26 : SK[26]? = some (.inr (1, 40, 1)) := rfl
theorem sk_27 : SK[27]? = some (.inr (1, 40, 1)) := rfl
theorem sk_28 : SK[28]? = some (.inr (1, 40, 1)) := rfl
theorem sk_29 : SK[29]? = some (.inl (1, [32, 0, 0, 1, 1, 1, 1])) := rfl
theorem sk_30 : SK[30]? = some (.inl (7, [5, 33, 38, 39, 0, 0, 0])) := rfl
theorem sk_31 : SK[31]? = some (.inl (4, [34, 35, 36, 37, 0, 0])) := rfl
theorem sk_32 : SK[32]? = some (.inr (0, 40, 0)) := rfl
theorem sk_33 : SK[33]? = some (.inr (0, 40, 0)) := rfl
theorem sk_34 : SK[34]? = some (.inr (0, 40, 0)) := rfl
theorem sk_35 : SK[35]? = some (.inr (1, 40, 1)) := rfl
theorem sk_36 : SK[36]? = some (.inr (1, 40, 1)) := rfl
theorem sk_37 : SK[37]? = some (.inr (1, 40, 1)) := rfl
theorem sk_38 : SK[38]? = some (.inl (1, [41, 0, 0, 1, 1, 1, 1])) := rfl
theorem sk_39 : SK[39]? = some (.inl (7, [5, 42, 47, 48, 0, 0, 0])) := rfl
theorem sk_40 : SK[40]? = some (.inl (4, [43, 44, 45, 46, 0, 0])) := rfl
theorem sk_41 : SK[41]? = some (.inr (0, 40, 0)) := rfl
theorem sk_42 : SK[42]? = some (.inr (0, 40, 0)) := rfl
theorem sk_43 : SK[43]? = some (.inr (0, 40, 0)) := rfl
theorem sk_44 : SK[44]? = some (.inr (1, 40, 1)) := rfl
theorem sk_45 : SK[45]? = some (.inr (1, 40, 1)) := rfl
theorem sk_46 : SK[46]? = some (.inr (1, 40, 1)) := rfl
theorem sk_47 : SK[47]? = some (.inl (1, [50, 0, 0, 1, 1, 1, 1])) := rfl
theorem sk_48 : SK[48]? = some (.inl (7, [5, 51, 56, 57, 0, 0, 0])) := rfl
theorem sk_49 : SK[49]? = some (.inl (4, [52, 53, 54, 55, 0, 0])) := rfl
theorem sk_50 : SK[50]? = some (.inr (0, 40, 0)) := rfl
theorem sk_51 : SK[51]? = some (.inr (0, 40, 0)) := rfl
theorem sk_52 : SK[52]? = some (.inr (0, 40, 0)) := rfl
theorem sk_53 : SK[53]? = some (.inr (1, 40, 1)) := rfl
theorem sk_54 : SK[54]? = some (.inr (1, 40, 1)) := rfl
theorem sk_55 : SK[55]? = some (.inr (1, 40, 1)) := rfl
theorem sk_56 : SK[56]? = some (.inl (1, [59, 0, 0, 1, 1, 1, 1])) := rfl
theorem sk_57 : SK[57]? = some (.inl (7, [5, 60, 65, 66, 0, 0, 0])) := rfl
theorem sk_58 : SK[58]? = some (.inl (4, [61, 62, 63, 64, 0, 0])) := rfl
theorem sk_59 : SK[59]? = some (.inr (0, 40, 0)) := rfl
theorem sk_60 : SK[60]? = some (.inr (0, 40, 0)) := rfl
theorem sk_61 : SK[61]? = some (.inr (0, 40, 0)) := rfl
theorem sk_62 : SK[62]? = some (.inr (1, 40, 1)) := rfl
theorem sk_63 : SK[63]? = some (.inr (1, 40, 1)) := rfl
theorem sk_64 : SK[64]? = some (.inr (1, 40, 1)) := rfl
theorem sk_65 : SK[65]? = some (.inl (1, [68, 0, 0, 1, 1, 1, 1])) := rfl
theorem sk_66 : SK[66]? = some (.inl (7, [5, 69, 74, 75, 0, 0, 0])) := rfl
theorem sk_67 : SK[67]? = some (.inl (4, [70, 71, 72, 73, 0, 0])) := rfl
theorem sk_68 : SK[68]? = some (.inr (0, 40, 0)) := rfl
theorem sk_69 : SK[69]? = some (.inr (0, 40, 0)) := rfl
theorem sk_70 : SK[70]? = some (.inr (0, 40, 0)) := rfl
theorem sk_71 : SK[71]? = some (.inr (1, 40, 1)) := rfl
theorem sk_72 : SK[72]? = some (.inr (1, 40, 1)) := rfl
theorem sk_73 : SK[73]? = some (.inr (1, 40, 1)) := rfl
theorem sk_74 : SK[74]? = some (.inl (1, [77, 0, 0, 1, 1, 1, 1])) := rfl
theorem sk_75 : SK[75]? = some (.inl (7, [5, 78, 83, 84, 0, 0, 0])) := rfl
theorem sk_76 : SK[76]? = some (.inl (4, [79, 80, 81, 82, 0, 0])) := rfl
theorem sk_77 : SK[77]? = some (.inr (0, 40, 0)) := rfl
theorem sk_78 : SK[78]? = some (.inr (0, 40, 0)) := rfl
theorem sk_79 : SK[79]? = some (.inr (0, 40, 0)) := rfl
theorem sk_80 : SK[80]? = some (.inr (1, 40, 1)) := rfl
theorem sk_81 : SK[81]? = some (.inr (1, 40, 1)) := rfl
theorem sk_82 : SK[82]? = some (.inr (1, 40, 1)) := rfl
theorem sk_83 : SK[83]? = some (.inl (1, [86, 0, 0, 1, 1, 1, 1])) := rfl
theorem sk_84 : SK[84]? = some (.inl (7, [5, 87, 92, 93, 0, 0, 0])) := rfl
theorem sk_85 : SK[85]? = some (.inl (4, [88, 89, 90, 91, 0, 0])) := rfl
theorem sk_86 : SK[86]? = some (.inr (0, 40, 0)) := rfl
theorem sk_87 : SK[87]? = some (.inr (0, 40, 0)) := rfl
theorem sk_88 : SK[88]? = some (.inr (0, 40, 0)) := rfl
theorem sk_89 : SK[89]? = some (.inr (1, 40, 1)) := rfl
theorem sk_90 : SK[90]? = some (.inr (1, 40, 1)) := rfl
theorem sk_91 : SK[91]? = some (.inr (1, 40, 1)) := rfl
theorem sk_92 : SK[92]? = some (.inl (9, [0, 0, 95, 96, 97, 1, 98, 99, 100, 101, 102, 103, 104, 105, 106, 107, 108, 109, 110, 111, 1, 0, 0, 0, 0, 0, 0, 1, 112, 113, 114, 115, 0, 0, 0, 1, 116, 117, 118, 119, 120])) := rfl
theorem sk_93 : SK[93]? = some (.inr (2, 120, 0)) := rfl
theorem sk_94 : SK[94]? = some (.inr (0, 34, 0)) := rfl
theorem sk_95 : SK[95]? = some (.inr (0, 256, 0)) := rfl
theorem sk_96 : SK[96]? = some (.inr (3, 8, 0)) := rfl
theorem sk_97 : SK[97]? = some (.inr (3, 8, 0)) := rfl
theorem sk_98 : SK[98]? = some (.inr (0, 8, 0)) := rfl
theorem sk_99 : SK[99]? = some (.inr (0, 8, 0)) := rfl
theorem sk_100 : SK[100]? = some (.inr (0, 8, 0)) := rfl
theorem sk_101 : SK[101]? = some (.inr (0, 8, 0)) := rfl
theorem sk_102 : SK[102]? = some (.inr (0, 8, 0)) := rfl
theorem sk_103 : SK[103]? = some (.inr (1, 8, 1)) := rfl
theorem sk_104 : SK[104]? = some (.inr (1, 8, 1)) := rfl
theorem sk_105 : SK[105]? = some (.inr (0, 960, 0)) := rfl
theorem sk_106 : SK[106]? = some (.inr (0, 960, 0)) := rfl
theorem sk_107 : SK[107]? = some (.inr (1, 960, 1)) := rfl
theorem sk_108 : SK[108]? = some (.inr (1, 960, 1)) := rfl
theorem sk_109 : SK[109]? = some (.inr (1, 120, 1)) := rfl
theorem sk_110 : SK[110]? = some (.inr (0, 120, 0)) := rfl
theorem sk_111 : SK[111]? = some (.inr (0, 120, 0)) := rfl
theorem sk_112 : SK[112]? = some (.inr (0, 10, 0)) := rfl
theorem sk_113 : SK[113]? = some (.inr (1, 120, 1)) := rfl
theorem sk_114 : SK[114]? = some (.inr (0, 130, 0)) := rfl
theorem sk_115 : SK[115]? = some (.inr (0, 130, 0)) := rfl
theorem sk_116 : SK[116]? = some (.inr (0, 130, 0)) := rfl
theorem sk_117 : SK[117]? = some (.inr (0, 130, 0)) := rfl
theorem sk_118 : SK[118]? = some (.inr (1, 130, 1)) := rfl
theorem sk_119 : SK[119]? = some (.inr (1, 1, 1)) := rfl
def okPr (p : Nat) : Prop := SK[p]? = some (.inl (4, [p + 3, p + 4, p + 5, p + 6, 0, 0])) ∧ SK[p + 1]? = some (.inr (0, 40, 0)) ∧ SK[p + 2]? = some (.inr (0, 40, 0)) ∧ SK[p + 3]? = some (.inr (0, 40, 0)) ∧ SK[p + 4]? = some (.inr (1, 40, 1))
def okPi (p n : Nat) : Prop := SK[p]? = some (.inl (3, [p + 3, 0])) ∧ SK[p + 1]? = some (.inr (0, n, 0))
def okW (p : Nat) : Prop := SK[p]? = some (.inl (7, [5, p + 3, p + 8, p + 9, 0, 0, 0])) ∧ okPr (p + 1) ∧ SK[p + 6]? = some (.inr (1, 40, 1)) ∧ SK[p + 7]? = some (.inr (1, 40, 1))
def okC (p : Nat) : Prop := SK[p]? = some (.inl (1, [p + 3, 0, 0, 1, 1, 1, 1])) ∧ okW (p + 1)
theorem ok_7 : okPr 7 := ⟨rfl, rfl, rfl, rfl, rfl⟩
theorem ok_12 : okPi 12 80 := ⟨rfl, rfl⟩
theorem ok_14 : okPi 14 40 := ⟨rfl, rfl⟩
theorem ok_16 : okPi 16 8 := ⟨rfl, rfl⟩
theorem ok_c : ∀ j, j < 8 → okC (20 + 9 * j)
  | 0, _ => ⟨rfl, rfl, ⟨rfl, rfl, rfl, rfl, rfl⟩, rfl, rfl⟩
  | 1, _ => ⟨rfl, rfl, ⟨rfl, rfl, rfl, rfl, rfl⟩, rfl, rfl⟩
  | 2, _ => ⟨rfl, rfl, ⟨rfl, rfl, rfl, rfl, rfl⟩, rfl, rfl⟩
  | 3, _ => ⟨rfl, rfl, ⟨rfl, rfl, rfl, rfl, rfl⟩, rfl, rfl⟩
  | 4, _ => ⟨rfl, rfl, ⟨rfl, rfl, rfl, rfl, rfl⟩, rfl, rfl⟩
  | 5, _ => ⟨rfl, rfl, ⟨rfl, rfl, rfl, rfl, rfl⟩, rfl, rfl⟩
  | 6, _ => ⟨rfl, rfl, ⟨rfl, rfl, rfl, rfl, rfl⟩, rfl, rfl⟩
  | 7, _ => ⟨rfl, rfl, ⟨rfl, rfl, rfl, rfl, rfl⟩, rfl, rfl⟩
  | j + 8, h => absurd h (by omega)
theorem ok_cj {j : Int32} (h : ¬ (j < 0 ∨ 8 ≤ j.toNatClampNeg)) : okC (20 + 9 * j.toNatClampNeg) := ok_c _ (Nat.not_le.mp fun q => h (Or.inr q))
def FU : Nat := 5000
/-- a value that is named -/
def lt_ {α β : Type} (a : α) (f : α → β) : β := f a
theorem letS {α β : Type} {a : α} {f : α → Option β} {b : β} (h : lt_ a f = some b) : ∃ x, x = a ∧ f x = some b := ⟨a, rfl, h⟩
theorem i_ne {x v : Int32} {z : Int} (h : ¬ x = v) (hz : v.toInt = z) : x.toInt ≠ z := fun e => h (Int32.toInt_inj.mp (e.trans hz.symm))
theorem ts_def {d lo hi : Int} {offs : Array Int} {n pc t : Nat} {x : Int32} {rest : List Value} (h : x.toInt < lo ∨ hi < x.toInt) (ht : xm_tg pc d = some t) : xm_br (.tableswitch d lo hi offs) n pc (.int x :: rest) = some (true, t, rest) := by
  simp only [xm_br, if_pos h, ht, Option.map_some]
theorem lk_def {d : Int} {ps : Array (Int × Int)} {n pc t : Nat} {x : Int32} {rest : List Value} (hs : ((ps.toList.zip (ps.toList.drop 1)).all (fun q => q.1.1 < q.2.1)) = true) (ho : Op.lookupswitch.offset ps.toList d x.toInt = d) (ht : xm_tg pc d = some t) : xm_br (.lookupswitch d ps) n pc (.int x :: rest) = some (true, t, rest) := by
  simp only [xm_br, if_pos hs, ho, ht, Option.map_some]
section OKA
variable {Q : Nat → Option Nat} {D k pc x : Nat} {ls : xm_L} {st : List Value} {I I' : dI} {J J' : dJ} {v : Option Value}
theorem Rn.ic {z : Int} {c : Int32} (hd : decode (tb_mb k) pc = .ok (.iconst z, 1)) (hz : Int32.ofInt z = c) (h : Rn Q D k (pc + 1) ls (.int c :: st) I J v I' J') : Rn Q D k pc ls st I J v I' J' := Rn.pu hd rfl (by rw [← hz]; rfl) h
theorem Rn.bp {z : Int} {c : Int32} (hd : decode (tb_mb k) pc = .ok (.bipush z, 2)) (hz : (Int8.ofInt z).toInt32 = c) (h : Rn Q D k (pc + 2) ls (.int c :: st) I J v I' J') : Rn Q D k pc ls st I J v I' J' := Rn.pu hd rfl (by rw [← hz]; rfl) h
theorem Rn.sp {z : Int} {c : Int32} (hd : decode (tb_mb k) pc = .ok (.sipush z, 3)) (hz : (Int16.ofInt z).toInt32 = c) (h : Rn Q D k (pc + 3) ls (.int c :: st) I J v I' J') : Rn Q D k pc ls st I J v I' J' := Rn.pu hd rfl (by rw [← hz]; rfl) h
theorem Rn.lc {z : Fin 2} {c : Int64} (hd : decode (tb_mb k) pc = .ok (.lconst z, 1)) (hz : Int64.ofNat (z : Nat) = c) (h : Rn Q D k (pc + 1) ls (.long c :: st) I J v I' J') : Rn Q D k pc ls st I J v I' J' := Rn.pu hd rfl (by rw [← hz]; rfl) h
theorem Rn.inc {j nL : Nat} {z : Int} {c y : Int32} {ls' : xm_L} (hd : decode (tb_mb k) pc = .ok (.iinc j z, 3)) (hL : tb_mL k = nL) (hj : j < nL) (hz : Int32.ofInt z = c) (hl : xm_ld ls j = some (.int y)) (hs : xm_s1 ls j (.int (y + c)) = ls') (h : Rn Q D k (pc + 3) ls' st I J v I' J') : Rn Q D k pc ls st I J v I' J' :=
  Rn.pu hd hL (by simp only [xm_pu, hl, if_true, hj, hz, hs]) h
theorem Rn.ldl {w : Int64} (hd : decode (tb_mb k) pc = .ok (.ldc2_w x, 3)) (hk : tb_kl (tb_oc k) x = some w) (h : Rn Q D k (pc + 3) ls (.long w :: st) I J v I' J') : Rn Q D k pc ls st I J v I' J' :=
  Rn.xt hd (fun _ _ => rfl) rfl (fun _ _ => rfl) (fun _ => rfl) rfl rfl (by simp only [tb_xt, tb_xo, if_true, hk, Option.map_some]) h
theorem Rn.lds {j : Nat} (hd : decode (tb_mb k) pc = .ok (.ldc x, 2)) (hk : tb_sl (tb_oc k) x = some j) (h : Rn Q D k (pc + 2) ls (.ref (xm_K0 + j) :: st) I J v I' J') : Rn Q D k pc ls st I J v I' J' :=
  Rn.xt hd (fun _ _ => rfl) rfl (fun _ _ => rfl) (fun _ => rfl) rfl rfl (by simp only [tb_xt, tb_xo, if_true, hk, Option.map_some]) h
theorem Rn.min {a b : Int64} (hd : decode (tb_mb k) pc = .ok (.invokestatic 63, 3)) (ho : tb_oc k = 6) (hc : tb_cr 6 63 = none) (hs : xm_cat st ≤ 8) (h : Rn Q D k (pc + 3) ls (.long (if b < a then b else a) :: st) I J v I' J') : Rn Q D k pc ls (.long b :: .long a :: st) I J v I' J' :=
  Rn.xt hd (fun _ _ => rfl) rfl (fun _ _ => rfl) (fun _ => rfl) (by simp only [xm_ca, if_true, ho, hc]) rfl (by simp only [tb_xt, tb_xo, if_true, ho, hs, and_self]) h
theorem xi_litS {j : Nat} (hj : j < 13) : xi_lit (xm_K0 + j) = some j := by
  unfold xi_lit
  rw [if_pos ⟨Nat.le_add_right _ _, by rw [Nat.add_sub_cancel_left]; exact hj⟩, Nat.add_sub_cancel_left]
theorem Rn.slen {j : Nat} (hd : decode (tb_mb k) pc = .ok (.invokevirtual 97, 3)) (ho : tb_oc k = 6) (hc : tb_cr 6 97 = none) (hs : xm_cat st ≤ 8) (hj : j < 13) (h : Rn Q D k (pc + 3) ls (.int (nI (st_len.getD j 0)) :: st) I J v I' J') : Rn Q D k pc ls (.ref (xm_K0 + j) :: st) I J v I' J' :=
  Rn.xt hd (fun _ _ => rfl) rfl (fun _ _ => rfl) (fun _ => rfl) (by simp only [xm_ca, if_true, ho, hc]) rfl (by simp only [tb_xt, tb_xo, if_true, ho, hs, and_self, xi_litS hj, Option.map_some]) h
theorem Rn.schar {j : Nat} {z : Int32} (hd : decode (tb_mb k) pc = .ok (.invokevirtual 101, 3)) (ho : tb_oc k = 6) (hc : tb_cr 6 101 = none) (hs : xm_cat st ≤ 8) (hj : j < 13) (hz : ¬ (z < 0 ∨ st_len.getD j 0 ≤ z.toNatClampNeg)) (h : Rn Q D k (pc + 3) ls (.int (((st_byt.getD j []).getD z.toNatClampNeg 0 &&& 255).toUInt32 % 65536).toInt32 :: st) I J v I' J') : Rn Q D k pc ls (.int z :: .ref (xm_K0 + j) :: st) I J v I' J' :=
  Rn.xt hd (fun _ _ => rfl) rfl (fun _ _ => rfl) (fun _ => rfl) (by simp only [xm_ca, if_true, ho, hc]) rfl (by
    have e9 : ¬ (101 = 97) := by decide
    simp only [tb_xt, tb_xo, if_true, ho, hs, and_self, xi_litS hj, xm_ix, hz, not_false_eq_true, Option.map_some, e9, if_false]) h
theorem Rn.cpI {p q n0 n1 : Nat} {n : Int32} {i1 : Nat} (hd : decode (tb_mb k) pc = .ok (.invokestatic x, 3)) (ho : ¬ (tb_oc k = 6 ∧ x = 63)) (ha : tb_ac (tb_oc k) x = some i1) (hc : tb_cr (tb_oc k) x = none) (hs : xm_cat st ≤ 8) (h1 : SK[p]? = some (.inr (0, n0, 0))) (h2 : SK[q]? = some (.inr (0, n1, 0))) (hn : ¬ n < 0) (hn0 : n.toNatClampNeg ≤ n0) (hn1 : n.toNatClampNeg ≤ n1)
    (h : Rn Q D k (pc + 3) ls st (rI I q (va_cpy (I p) (I q) 0 0 n.toNatClampNeg)) J v I' J') : Rn Q D k pc ls (.int n :: .int 0 :: .ref q :: .int 0 :: .ref p :: st) I J v I' J' := by
  refine Rn.xt hd (fun _ _ => rfl) rfl (fun _ _ => rfl) (fun _ => rfl) (by simp only [xm_ca, if_true, hc]) rfl ?_ h
  have e1 := bld_setI (Q := Q) (I := I) (J := J) h2 (va_cpy (I p) (I q) 0 0 n.toNatClampNeg)
  simp only [sk_e] at e1
  have z0 : ¬ ((0 : Int32) < 0) := by decide
  have z1 : (0 : Int32).toNatClampNeg = 0 := by decide
  have t0 : tb_tt[0]? = some .int := rfl
  simp only [tb_xt, tb_xo, if_true, if_neg ho, ha, Option.isSome_some, xi_cp, hs, z0, hn, not_false_eq_true, and_self, bld_get h1, bld_get h2, sk_e, t0, z1, Nat.zero_add, hn0, hn1, e1]
theorem Rn.cpJ {p q n0 n1 : Nat} {n : Int32} {i1 : Nat} (hd : decode (tb_mb k) pc = .ok (.invokestatic x, 3)) (ho : ¬ (tb_oc k = 6 ∧ x = 63)) (ha : tb_ac (tb_oc k) x = some i1) (hc : tb_cr (tb_oc k) x = none) (hs : xm_cat st ≤ 8) (h1 : SK[p]? = some (.inr (1, n0, 1))) (h2 : SK[q]? = some (.inr (1, n1, 1))) (hn : ¬ n < 0) (hn0 : n.toNatClampNeg ≤ n0) (hn1 : n.toNatClampNeg ≤ n1)
    (h : Rn Q D k (pc + 3) ls st I (rJ J q (va_cpy (J p) (J q) 0 0 n.toNatClampNeg)) v I' J') : Rn Q D k pc ls (.int n :: .int 0 :: .ref q :: .int 0 :: .ref p :: st) I J v I' J' := by
  refine Rn.xt hd (fun _ _ => rfl) rfl (fun _ _ => rfl) (fun _ => rfl) (by simp only [xm_ca, if_true, hc]) rfl ?_ h
  have e1 := bld_setJ (Q := Q) (I := I) (J := J) h2 (va_cpy (J p) (J q) 0 0 n.toNatClampNeg)
  simp only [sk_e] at e1
  have z0 : ¬ ((0 : Int32) < 0) := by decide
  have z1 : (0 : Int32).toNatClampNeg = 0 := by decide
  have t0 : tb_tt[1]? = some .long := rfl
  simp only [tb_xt, tb_xo, if_true, if_neg ho, ha, Option.isSome_some, xi_cp, hs, z0, hn, not_false_eq_true, and_self, bld_get h1, bld_get h2, sk_e, t0, z1, Nat.zero_add, hn0, hn1, e1]
end OKA
