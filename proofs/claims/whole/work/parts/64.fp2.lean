/-! Shares and means are numbers. -/
theorem yenc (s : Bool) (num den : Nat) (e : Int) : Jvm.FP.Core.encode Jvm.FP.Core.b32 (Jvm.FP.Core.roundRatio Jvm.FP.Core.b32 s num den e) % 2147483648 ≤ 2139095040 ∧ Jvm.FP.Core.encode Jvm.FP.Core.b32 (Jvm.FP.Core.roundRatio Jvm.FP.Core.b32 s num den e) < 4294967296 := by
  have asm : ∀ (E t : Nat), E ≤ 254 → t < 8388608 → Jvm.FP.Core.assemble Jvm.FP.Core.b32 s E t % 2147483648 ≤ 2139095040 ∧ Jvm.FP.Core.assemble Jvm.FP.Core.b32 s E t < 4294967296 := by
    intro E t hE ht
    have e1 : Jvm.FP.Core.assemble Jvm.FP.Core.b32 s E t = (s.toNat * 256 + E) * 8388608 + t := rfl
    have e2 : s.toNat ≤ 1 := Bool.toNat_le s
    rw [e1]
    omega
  have ainf : Jvm.FP.Core.encode Jvm.FP.Core.b32 (.inf s) % 2147483648 ≤ 2139095040 ∧ Jvm.FP.Core.encode Jvm.FP.Core.b32 (.inf s) < 4294967296 := by
    cases s <;> decide
  have afin : ∀ (c : Nat) (q : Int), c < 16777216 → q ≤ 104 → Jvm.FP.Core.encode Jvm.FP.Core.b32 (.fin s c q) % 2147483648 ≤ 2139095040 ∧ Jvm.FP.Core.encode Jvm.FP.Core.b32 (.fin s c q) < 4294967296 := by
    intro c q hc hq
    have e1 : Jvm.FP.Core.encode Jvm.FP.Core.b32 (.fin s c q) = if c < 8388608 then Jvm.FP.Core.assemble Jvm.FP.Core.b32 s 0 c else Jvm.FP.Core.assemble Jvm.FP.Core.b32 s ((q - (-149 : Int)).toNat + 1) (c - 8388608) := rfl
    rw [e1]
    split
    · exact asm _ _ (by omega) (by omega)
    · exact asm _ _ (by omega) (by omega)
  have abnd : ∀ (c : Nat) (q : Int), c < 16777216 → Jvm.FP.Core.encode Jvm.FP.Core.b32 (Jvm.FP.Core.bound Jvm.FP.Core.b32 s c q) % 2147483648 ≤ 2139095040 ∧ Jvm.FP.Core.encode Jvm.FP.Core.b32 (Jvm.FP.Core.bound Jvm.FP.Core.b32 s c q) < 4294967296 := by
    intro c q hc
    have e1 : Jvm.FP.Core.bound Jvm.FP.Core.b32 s c q = if q ≤ (104 : Int) then .fin s c q else .inf s := rfl
    rw [e1]
    split
    · rename_i hq
      exact afin c q hc hq
    · exact ainf
  unfold Jvm.FP.Core.roundRatio
  split
  · exact afin 0 _ (by omega) (by decide)
  · unfold Jvm.FP.Core.roundAt Jvm.FP.Core.settle
    split
    · rename_i hc
      exact abnd _ _ hc
    · exact abnd 8388608 _ (by omega)
theorem yfdiv {a b : UInt32} {s t : Bool} {c d : Nat} {q r : Int} (ha : Jvm.FP.Core.decode Jvm.FP.Core.b32 a.toNat = .fin s c q) (hb : Jvm.FP.Core.decode Jvm.FP.Core.b32 b.toNat = .fin t d r) (hd : d ≠ 0) : FP.fdiv a b &&& 0x7fffffff ≤ 0x7f800000 := by
  have e : FP.fdiv a b = UInt32.ofNat (Jvm.FP.Core.encode Jvm.FP.Core.b32 (Jvm.FP.Core.quotient Jvm.FP.Core.b32 (Jvm.FP.Core.decode Jvm.FP.Core.b32 a.toNat) (Jvm.FP.Core.decode Jvm.FP.Core.b32 b.toNat))) := rfl
  rw [e, ha, hb]
  have e2 : Jvm.FP.Core.quotient Jvm.FP.Core.b32 (.fin s c q) (.fin t d r) = Jvm.FP.Core.roundRatio Jvm.FP.Core.b32 (s != t) c d (q - r) := by
    show (if d = 0 then _ else _) = _
    rw [if_neg hd]
  rw [e2]
  obtain ⟨h1, h2⟩ := yenc (s != t) c d (q - r)
  generalize Jvm.FP.Core.encode Jvm.FP.Core.b32 (Jvm.FP.Core.roundRatio Jvm.FP.Core.b32 (s != t) c d (q - r)) = n at *
  rw [UInt32.le_iff_toNat_le, UInt32.toNat_and]
  have e3 : (UInt32.ofNat n).toNat = n := UInt32.toNat_ofNat_of_lt h2
  have e4 : (0x7fffffff : UInt32).toNat = 2 ^ 31 - 1 := rfl
  have e5 : (0x7f800000 : UInt32).toNat = 2139095040 := rfl
  rw [e3, e4, e5, Nat.and_two_pow_sub_one_eq_mod]
  exact h1
def yint (v : Int32) (z : Bool) : Bool := match Jvm.FP.Core.decode Jvm.FP.Core.b32 (FP.i2f v).toNat with | .fin _ c _ => z || decide (c ≠ 0) | _ => false
theorem yints : ∀ n, n < 513 → yint (zi n) (n == 0) = true := by decide +kernel
theorem yhit {t f : Nat} (h1 : 0 < t) (h2 : t < 513) (h3 : f ≤ t) : FP.fdiv (FP.i2f (zi t - zi f)) (FP.i2f (zi t)) &&& 0x7fffffff ≤ 0x7f800000 := by
  have a := yints (t - f) (by omega)
  have b := yints t h2
  rw [zi_sub h3 (by omega)]
  unfold yint at a b
  split at a
  · rename_i s c q e1
    split at b
    · rename_i s2 c2 q2 e2
      refine yfdiv e1 e2 ?_
      have : (t == 0) = false := by simp; omega
      rw [this, Bool.false_or] at b
      exact of_decide_eq_true b
    · cases b
  · cases a
def ydok (w : UInt64) : Bool := decide (w &&& 0x7fffffffffffffff ≤ 0x7ff0000000000000)
theorem ymeans : ∀ l, l < 7 → 0 < l → ∀ m, m < 601 → ydok (FP.ddiv (FP.i2d (zi m)) (FP.i2d (zi l))) = true := by decide +kernel
theorem sMean_sum {T : ZD2} (I : zIv T) : ∃ m, zfo (sMeanF T) (sNp T) 0 (zi 0) = zi m ∧ m < 601 := by
  have n2 := zIv_np6 I
  have key : ∀ d i m, i + d ≤ 6 → ∃ m', zfo (sMeanF T) d i (zi m) = zi m' ∧ m' ≤ m + 100 * d := by
    intro d
    induction d with
    | zero => intro i m _; exact ⟨m, rfl, by omega⟩
    | succ d ih =>
      intro i m h
      rw [zfo]
      obtain ⟨tr, e2, h2⟩ := ytrust I (p := i) (by omega)
      have e : ∃ m1, sMeanF T i (zi m) = zi m1 ∧ m1 ≤ m + 100 := by
        unfold sMeanF
        rw [e2]
        split
        · exact ⟨m + 0, zi_add _ _, by omega⟩
        · exact ⟨m + tr, zi_add _ _, by omega⟩
      obtain ⟨m1, e3, h3⟩ := e
      rw [e3]
      obtain ⟨m', e4, h4⟩ := ih (i + 1) m1 (by omega)
      exact ⟨m', e4, by omega⟩
  obtain ⟨m, h1, h2⟩ := key (sNp T) 0 0 (by omega)
  exact ⟨m, h1, by omega⟩
theorem sLive_le (T : ZD2) : sLive T ≤ sNp T := by
  have := zct_le (fun p => !sEnd T p) (sNp T) 0 0
  unfold sLive
  omega
theorem sMean_ok {T : ZD2} (I : zIv T) (h : 0 < sLive T) : sMean T &&& 0x7fffffffffffffff ≤ 0x7ff0000000000000 := by
  have n2 := zIv_np6 I
  have n3 := sLive_le T
  obtain ⟨m, e, hm⟩ := sMean_sum I
  unfold sMean
  rw [e]
  exact of_decide_eq_true (ymeans (sLive T) (by omega) h m hm)
section
variable {X : ZX} {D T : ZD2} {s : Nat → Int32} {O : ZO2} {k : Nat × Nat × Nat}
/-- touches and fetches counted, at most so many -/
def zTch (n : Nat) (T : ZD2) : Prop := ∃ t f, T 1 6 = zi t ∧ T 1 14 = zi f ∧ f ≤ t ∧ t ≤ n
theorem sHit_ok {n : Nat} (h : zTch n T) (hn : n ≤ 512) : zi 0 < T 1 6 → sHit T &&& 0x7fffffff ≤ 0x7f800000 := by
  obtain ⟨t, f, e1, e2, h1, h2⟩ := h
  intro h0
  rw [e1, zi_lt (by omega) (by omega)] at h0
  unfold sHit
  rw [e1, e2]
  exact yhit h0 (by omega) h1
theorem m243 {n : Nat} (R : zRd s T) (C : zTch n T) (hn : n ≤ 512) (h : D 168 1 = zi 1) : zev X 243 0 [.ref 168] [] (zHP (zrow D 172 s) O, k) = some (.inl (some (.float (if zi 0 < T 1 6 then sHit T else FP.fconst0))), (zHP (zrow (zth D 0) 172 s) O, k)) := by
  have g := sHit_ok C hn
  obtain ⟨t, f, e1, e2, h1, h2⟩ := C
  have r1 : s 1 = T 1 6 := zRt_all.mp R.1 1 (by omega)
  have r9 : s 9 = T 1 14 := zRt_all.mp R.1 9 (by omega)
  have a1 : ¬ 540 ≤ 1 := by omega
  have a9 : ¬ 540 ≤ 9 := by omega
  have e199 := m199 (X := X) (s := s) (O := O) (k := k) h
  unfold sHit at g ⊢
  simp (disch := first | assumption | omega) only [b243_0, e199, b243_4, ↓zn_l, zl_0, zl_1, zl_2, zl_3, zl_4, zl_5, zl_6, zl_7, zl_8, zl_9, zl_10, zl_11, zl_12, zl_13, zl_14, zl_15, zl_16, zl_17, zl_18, zl_19, zl_20, zl_21, zl_22, zl_23, zl_24, zl_25, zl_26, zl_27, zl_28, zl_29, zl_30, zl_31, zl_32, zl_36, zl_46, zl_48, zl_50, zl_57, zl_63, zl_64, zl_72, zl_97, zl_99, zl_100, zl_101, zl_122, zl_127, zl_200, zl_255, zl_406, zl_534, zl_540, zl_600, zl_9999, zl_33, zl_34, zl_35, zl_37, zl_38, zl_39, zl_40, zl_41, zl_42, zl_43, zl_44, zl_45, zl_47, zl_49, zl_52, zl_53, zl_54, zl_55, zl_58, zl_59, zl_60, zl_61, zl_62, zl_65, zl_70, zl_71, zl_98, zl_102, zl_103, zl_104, zl_105, zl_110, zl_111, zl_115, zl_120, zl_123, zl_126, zl_128, zl_256, zl_1000, zl_1024, zcon_inl, zcon_inr, Option.toList_some, Option.toList_none, List.cons_append, List.nil_append, List.append_nil, Nat.add_zero, zbind_some, zi_toNat, zi_lt, zi_inj, zi_add, zi_mul, zi_ne_zn, zn_ne_zi, zn_lt_zi, zi_lt_zn, Nat.not_lt_zero, false_or, if_true, if_false, true_or, or_false, Nat.reduceEqDiff, eq_self, a1, a9, zrow_self, r1, r9]
  by_cases h0 : 0 < t
  · have hz : zi 0 < T 1 6 := by rw [e1, zi_lt (by omega) (by omega)]; exact h0
    have hz2 : ¬ T 1 6 = zi 0 := by rw [e1, zi_inj (by omega) (by omega)]; omega
    rw [if_neg hz2, if_pos (g hz), if_pos hz]
  · have hz : ¬ zi 0 < T 1 6 := by rw [e1, zi_lt (by omega) (by omega)]; exact h0
    have hz2 : T 1 6 = zi 0 := by rw [e1, zi_inj (by omega) (by omega)]; omega
    rw [if_pos hz2, if_neg hz]
theorem m243n1 (h : D 168 1 = zi 0) : zev X 243 0 [.ref 168] [] (zHP (zrow D 172 s) O, k) = some (.inl (some (.float FP.fconst0)), (zHP (zrow (zth D 1) 172 s) O, k)) := by
  simp (disch := first | assumption | omega) only [b243_0, b243_4, ↓zn_l, zl_0, zl_1, zl_2, zl_3, zl_4, zl_5, zl_6, zl_7, zl_8, zl_9, zl_10, zl_11, zl_12, zl_13, zl_14, zl_15, zl_16, zl_17, zl_18, zl_19, zl_20, zl_21, zl_22, zl_23, zl_24, zl_25, zl_26, zl_27, zl_28, zl_29, zl_30, zl_31, zl_32, zl_36, zl_46, zl_48, zl_50, zl_57, zl_63, zl_64, zl_72, zl_97, zl_99, zl_100, zl_101, zl_122, zl_127, zl_200, zl_255, zl_406, zl_534, zl_540, zl_600, zl_9999, zl_33, zl_34, zl_35, zl_37, zl_38, zl_39, zl_40, zl_41, zl_42, zl_43, zl_44, zl_45, zl_47, zl_49, zl_52, zl_53, zl_54, zl_55, zl_58, zl_59, zl_60, zl_61, zl_62, zl_65, zl_70, zl_71, zl_98, zl_102, zl_103, zl_104, zl_105, zl_110, zl_111, zl_115, zl_120, zl_123, zl_126, zl_128, zl_256, zl_1000, zl_1024, zcon_inl, zcon_inr, Option.toList_some, Option.toList_none, List.cons_append, List.nil_append, List.append_nil, Nat.add_zero, zbind_some, zi_toNat, zi_lt, zi_inj, zi_add, zi_mul, zi_ne_zn, zn_ne_zi, zn_lt_zi, zi_lt_zn, Nat.not_lt_zero, false_or, if_true, if_false, true_or, or_false, Nat.reduceEqDiff, eq_self, m199n, h]
theorem m244 (I : zIv T) (S : zRs D T) (R : zRd s T) (h : D 168 1 = zi 1) : zev X 244 0 [.ref 168, zJ, zJ] [] (zHP (zrow D 172 s) O, k) = some (.inl (some (.double (if zi 0 < zi (sLive T) then sMean T else FP.dconst0))), (zHP (zrow (zth D 0) 172 s) O, k)) := by
  have n1 := zIv_np I
  have n2 := zIv_np6 I
  have n3 := sLive_le T
  have S0 := zRs_th (c := 0) S
  have e199 := m199 (X := X) (s := s) (O := O) (k := k) h
  have e201 := m201 (X := X) (O := O) (k := k) I S0 R
  simp (disch := first | assumption | omega) only [b244_0, e199, b244_4, ↓zn_l, zl_0, zl_1, zl_2, zl_3, zl_4, zl_5, zl_6, zl_7, zl_8, zl_9, zl_10, zl_11, zl_12, zl_13, zl_14, zl_15, zl_16, zl_17, zl_18, zl_19, zl_20, zl_21, zl_22, zl_23, zl_24, zl_25, zl_26, zl_27, zl_28, zl_29, zl_30, zl_31, zl_32, zl_36, zl_46, zl_48, zl_50, zl_57, zl_63, zl_64, zl_72, zl_97, zl_99, zl_100, zl_101, zl_122, zl_127, zl_200, zl_255, zl_406, zl_534, zl_540, zl_600, zl_9999, zl_33, zl_34, zl_35, zl_37, zl_38, zl_39, zl_40, zl_41, zl_42, zl_43, zl_44, zl_45, zl_47, zl_49, zl_52, zl_53, zl_54, zl_55, zl_58, zl_59, zl_60, zl_61, zl_62, zl_65, zl_70, zl_71, zl_98, zl_102, zl_103, zl_104, zl_105, zl_110, zl_111, zl_115, zl_120, zl_123, zl_126, zl_128, zl_256, zl_1000, zl_1024, zcon_inl, zcon_inr, Option.toList_some, Option.toList_none, List.cons_append, List.nil_append, List.append_nil, Nat.add_zero, zbind_some, zi_toNat, zi_lt, zi_inj, zi_add, zi_mul, zi_ne_zn, zn_ne_zi, zn_lt_zi, zi_lt_zn, Nat.not_lt_zero, false_or, if_true, if_false, true_or, or_false, Nat.reduceEqDiff, eq_self, e201, b244_11]
  by_cases h0 : 0 < sLive T
  · have hg := sMean_ok I h0
    rw [if_neg (by omega), if_pos h0]
    have loop := zloop (P := fun i (a : Int32) => zev X 244 20 [.ref 168, .int a, .int (zi i)] [] (zHP (zrow (zth D 0) 172 s) O, k)) (Q := fun a => if FP.ddiv (FP.i2d a) (FP.i2d (zi (sLive T))) &&& 0x7fffffffffffffff ≤ 0x7ff0000000000000 then some (.inl (some (.double (FP.ddiv (FP.i2d a) (FP.i2d (zi (sLive T)))))), (zHP (zrow (zth D 0) 172 s) O, k)) else none) (f := sMeanF T) (n := sNp T) (fun i a hi => by
      have e202 := m202 (X := X) (D := zth D 0) (O := O) (k := k) I R hi
      have e203 := @m203 X (zth D 0) s O k i 2 (by omega) (by omega)
      rw [(R.2.1 i hi).2.2.1] at e203
      refine b244_20.trans ?_
      simp (disch := first | assumption | omega) only [e168s, S0.1.1, n1, ↓zn_l, zl_0, zl_1, zl_2, zl_3, zl_4, zl_5, zl_6, zl_7, zl_8, zl_9, zl_10, zl_11, zl_12, zl_13, zl_14, zl_15, zl_16, zl_17, zl_18, zl_19, zl_20, zl_21, zl_22, zl_23, zl_24, zl_25, zl_26, zl_27, zl_28, zl_29, zl_30, zl_31, zl_32, zl_36, zl_46, zl_48, zl_50, zl_57, zl_63, zl_64, zl_72, zl_97, zl_99, zl_100, zl_101, zl_122, zl_127, zl_200, zl_255, zl_406, zl_534, zl_540, zl_600, zl_9999, zl_33, zl_34, zl_35, zl_37, zl_38, zl_39, zl_40, zl_41, zl_42, zl_43, zl_44, zl_45, zl_47, zl_49, zl_52, zl_53, zl_54, zl_55, zl_58, zl_59, zl_60, zl_61, zl_62, zl_65, zl_70, zl_71, zl_98, zl_102, zl_103, zl_104, zl_105, zl_110, zl_111, zl_115, zl_120, zl_123, zl_126, zl_128, zl_256, zl_1000, zl_1024, zcon_inl, zcon_inr, Option.toList_some, Option.toList_none, List.cons_append, List.nil_append, List.append_nil, Nat.add_zero, zbind_some, zi_toNat, zi_lt, zi_inj, zi_add, zi_mul, zi_ne_zn, zn_ne_zi, zn_lt_zi, zi_lt_zn, Nat.not_lt_zero, false_or, if_true, if_false, true_or, or_false, Nat.reduceEqDiff, eq_self, hi, e202]
      refine b244_34.trans ?_
      unfold sMeanF
      cases sEnd T i
      · simp only [↓zn_l, zl_0, zl_1, zl_2, zl_3, zl_4, zl_5, zl_6, zl_7, zl_8, zl_9, zl_10, zl_11, zl_12, zl_13, zl_14, zl_15, zl_16, zl_17, zl_18, zl_19, zl_20, zl_21, zl_22, zl_23, zl_24, zl_25, zl_26, zl_27, zl_28, zl_29, zl_30, zl_31, zl_32, zl_36, zl_46, zl_48, zl_50, zl_57, zl_63, zl_64, zl_72, zl_97, zl_99, zl_100, zl_101, zl_122, zl_127, zl_200, zl_255, zl_406, zl_534, zl_540, zl_600, zl_9999, zl_33, zl_34, zl_35, zl_37, zl_38, zl_39, zl_40, zl_41, zl_42, zl_43, zl_44, zl_45, zl_47, zl_49, zl_52, zl_53, zl_54, zl_55, zl_58, zl_59, zl_60, zl_61, zl_62, zl_65, zl_70, zl_71, zl_98, zl_102, zl_103, zl_104, zl_105, zl_110, zl_111, zl_115, zl_120, zl_123, zl_126, zl_128, zl_256, zl_1000, zl_1024, zb_0, if_true, e203, zcon_inl, Option.toList_some, List.cons_append, List.nil_append, Bool.false_eq_true, if_false]
        refine b244_47.trans ?_
        simp only [↓zn_l, zl_0, zl_1, zl_2, zl_3, zl_4, zl_5, zl_6, zl_7, zl_8, zl_9, zl_10, zl_11, zl_12, zl_13, zl_14, zl_15, zl_16, zl_17, zl_18, zl_19, zl_20, zl_21, zl_22, zl_23, zl_24, zl_25, zl_26, zl_27, zl_28, zl_29, zl_30, zl_31, zl_32, zl_36, zl_46, zl_48, zl_50, zl_57, zl_63, zl_64, zl_72, zl_97, zl_99, zl_100, zl_101, zl_122, zl_127, zl_200, zl_255, zl_406, zl_534, zl_540, zl_600, zl_9999, zl_33, zl_34, zl_35, zl_37, zl_38, zl_39, zl_40, zl_41, zl_42, zl_43, zl_44, zl_45, zl_47, zl_49, zl_52, zl_53, zl_54, zl_55, zl_58, zl_59, zl_60, zl_61, zl_62, zl_65, zl_70, zl_71, zl_98, zl_102, zl_103, zl_104, zl_105, zl_110, zl_111, zl_115, zl_120, zl_123, zl_126, zl_128, zl_256, zl_1000, zl_1024, zi_add]
      · simp only [↓zn_l, zl_0, zl_1, zl_2, zl_3, zl_4, zl_5, zl_6, zl_7, zl_8, zl_9, zl_10, zl_11, zl_12, zl_13, zl_14, zl_15, zl_16, zl_17, zl_18, zl_19, zl_20, zl_21, zl_22, zl_23, zl_24, zl_25, zl_26, zl_27, zl_28, zl_29, zl_30, zl_31, zl_32, zl_36, zl_46, zl_48, zl_50, zl_57, zl_63, zl_64, zl_72, zl_97, zl_99, zl_100, zl_101, zl_122, zl_127, zl_200, zl_255, zl_406, zl_534, zl_540, zl_600, zl_9999, zl_33, zl_34, zl_35, zl_37, zl_38, zl_39, zl_40, zl_41, zl_42, zl_43, zl_44, zl_45, zl_47, zl_49, zl_52, zl_53, zl_54, zl_55, zl_58, zl_59, zl_60, zl_61, zl_62, zl_65, zl_70, zl_71, zl_98, zl_102, zl_103, zl_104, zl_105, zl_110, zl_111, zl_115, zl_120, zl_123, zl_126, zl_128, zl_256, zl_1000, zl_1024, zb_0, Bool.true_eq_false, if_true, if_false]
        refine b244_47.trans ?_
        simp only [↓zn_l, zl_0, zl_1, zl_2, zl_3, zl_4, zl_5, zl_6, zl_7, zl_8, zl_9, zl_10, zl_11, zl_12, zl_13, zl_14, zl_15, zl_16, zl_17, zl_18, zl_19, zl_20, zl_21, zl_22, zl_23, zl_24, zl_25, zl_26, zl_27, zl_28, zl_29, zl_30, zl_31, zl_32, zl_36, zl_46, zl_48, zl_50, zl_57, zl_63, zl_64, zl_72, zl_97, zl_99, zl_100, zl_101, zl_122, zl_127, zl_200, zl_255, zl_406, zl_534, zl_540, zl_600, zl_9999, zl_33, zl_34, zl_35, zl_37, zl_38, zl_39, zl_40, zl_41, zl_42, zl_43, zl_44, zl_45, zl_47, zl_49, zl_52, zl_53, zl_54, zl_55, zl_58, zl_59, zl_60, zl_61, zl_62, zl_65, zl_70, zl_71, zl_98, zl_102, zl_103, zl_104, zl_105, zl_110, zl_111, zl_115, zl_120, zl_123, zl_126, zl_128, zl_256, zl_1000, zl_1024, zi_add]) (fun a => by
      refine b244_20.trans ?_
      simp (disch := first | assumption | omega) only [e168s, S0.1.1, n1, ↓zn_l, zl_0, zl_1, zl_2, zl_3, zl_4, zl_5, zl_6, zl_7, zl_8, zl_9, zl_10, zl_11, zl_12, zl_13, zl_14, zl_15, zl_16, zl_17, zl_18, zl_19, zl_20, zl_21, zl_22, zl_23, zl_24, zl_25, zl_26, zl_27, zl_28, zl_29, zl_30, zl_31, zl_32, zl_36, zl_46, zl_48, zl_50, zl_57, zl_63, zl_64, zl_72, zl_97, zl_99, zl_100, zl_101, zl_122, zl_127, zl_200, zl_255, zl_406, zl_534, zl_540, zl_600, zl_9999, zl_33, zl_34, zl_35, zl_37, zl_38, zl_39, zl_40, zl_41, zl_42, zl_43, zl_44, zl_45, zl_47, zl_49, zl_52, zl_53, zl_54, zl_55, zl_58, zl_59, zl_60, zl_61, zl_62, zl_65, zl_70, zl_71, zl_98, zl_102, zl_103, zl_104, zl_105, zl_110, zl_111, zl_115, zl_120, zl_123, zl_126, zl_128, zl_256, zl_1000, zl_1024, zcon_inl, zcon_inr, Option.toList_some, Option.toList_none, List.cons_append, List.nil_append, List.append_nil, Nat.add_zero, zbind_some, zi_toNat, zi_lt, zi_inj, zi_add, zi_mul, zi_ne_zn, zn_ne_zi, zn_lt_zi, zi_lt_zn, Nat.not_lt_zero, false_or, if_true, if_false, true_or, or_false, Nat.reduceEqDiff, eq_self, Nat.lt_irrefl, e201]
      exact b244_61) (sNp T) 0 (zi 0) (by omega)
    refine loop.trans ?_
    unfold sMean at hg ⊢
    rw [if_pos hg]
  · rw [if_pos (by omega), if_neg h0]
theorem m244n1 (h : D 168 1 = zi 0) : zev X 244 0 [.ref 168, zJ, zJ] [] (zHP (zrow D 172 s) O, k) = some (.inl (some (.double FP.dconst0)), (zHP (zrow (zth D 1) 172 s) O, k)) := by
  simp (disch := first | assumption | omega) only [b244_0, b244_4, ↓zn_l, zl_0, zl_1, zl_2, zl_3, zl_4, zl_5, zl_6, zl_7, zl_8, zl_9, zl_10, zl_11, zl_12, zl_13, zl_14, zl_15, zl_16, zl_17, zl_18, zl_19, zl_20, zl_21, zl_22, zl_23, zl_24, zl_25, zl_26, zl_27, zl_28, zl_29, zl_30, zl_31, zl_32, zl_36, zl_46, zl_48, zl_50, zl_57, zl_63, zl_64, zl_72, zl_97, zl_99, zl_100, zl_101, zl_122, zl_127, zl_200, zl_255, zl_406, zl_534, zl_540, zl_600, zl_9999, zl_33, zl_34, zl_35, zl_37, zl_38, zl_39, zl_40, zl_41, zl_42, zl_43, zl_44, zl_45, zl_47, zl_49, zl_52, zl_53, zl_54, zl_55, zl_58, zl_59, zl_60, zl_61, zl_62, zl_65, zl_70, zl_71, zl_98, zl_102, zl_103, zl_104, zl_105, zl_110, zl_111, zl_115, zl_120, zl_123, zl_126, zl_128, zl_256, zl_1000, zl_1024, zcon_inl, zcon_inr, Option.toList_some, Option.toList_none, List.cons_append, List.nil_append, List.append_nil, Nat.add_zero, zbind_some, zi_toNat, zi_lt, zi_inj, zi_add, zi_mul, zi_ne_zn, zn_ne_zi, zn_lt_zi, zi_lt_zn, Nat.not_lt_zero, false_or, if_true, if_false, true_or, or_false, Nat.reduceEqDiff, eq_self, m199n, h]
end
