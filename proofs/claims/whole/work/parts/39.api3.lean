/-! The class's further looks. -/
section
variable {X : ZX} {D T : ZD2} {O : ZO2} {k : Nat × Nat × Nat}
def sStepF (T : ZD2) (a : Int32) (r : Nat) (b : Int32) : Int32 := if decide (a < sPrice T r) && (decide (b = zn) || decide (sPrice T r < b)) && sOff T r (T 1 5) then sPrice T r else b
theorem c133 {a : Int32} (I : zIv T) (h : D 20 6 = zi 1) (h1 : ¬ a < zi 0) (h2 : ¬ zi 200 < a) : zev X 133 0 [.ref 0, .int a, zJ, zJ, zJ] [] (zHP (zmt D 20 T) O, k) = some (.inl (some (.int (zfo (sStepF T a) 72 0 zn))), (zHP (zmt D 20 T) O, k)) := by
  have e116 := @c116 X (zmt D 20 T) O k a (zi 0) (zi 200) h1 h2
  have e32 := @c32 X D T O k 20 hm20
  simp (disch := first | assumption | omega) only [b133_0, c114, b133_4, e116, b133_12, ↓zn_l, zl_0, zl_1, zl_2, zl_3, zl_4, zl_5, zl_6, zl_7, zl_8, zl_9, zl_10, zl_11, zl_12, zl_13, zl_14, zl_15, zl_16, zl_17, zl_18, zl_19, zl_20, zl_21, zl_22, zl_23, zl_24, zl_25, zl_26, zl_27, zl_28, zl_29, zl_30, zl_31, zl_32, zl_36, zl_46, zl_48, zl_50, zl_57, zl_63, zl_64, zl_72, zl_97, zl_99, zl_100, zl_101, zl_122, zl_127, zl_200, zl_255, zl_406, zl_534, zl_540, zl_600, zl_9999, zl_33, zl_34, zl_35, zl_37, zl_38, zl_39, zl_40, zl_41, zl_42, zl_43, zl_44, zl_45, zl_47, zl_49, zl_52, zl_53, zl_54, zl_55, zl_58, zl_59, zl_60, zl_61, zl_62, zl_65, zl_70, zl_71, zl_98, zl_102, zl_103, zl_104, zl_105, zl_110, zl_111, zl_115, zl_120, zl_123, zl_126, zl_128, zl_256, zl_1000, zl_1024, zcon_inl, zcon_inr, Option.toList_some, Option.toList_none, List.cons_append, List.nil_append, List.append_nil, Nat.add_zero, zbind_some]
  refine (zloopW (P := fun i b v => zev X 133 16 [.ref 0, .int a, .int b, .int (zi i), v] [] (zHP (zmt D 20 T) O, k)) (Q := fun b => some (.inl (some (.int b)), (zHP (zmt D 20 T) O, k))) (f := sStepF T a) (n := 72) (J := fun _ _ => True) ?_ ?_ 72 0 zn zJ (by omega) trivial rfl).1
  · intro i b v hi _ hv
    have hz := zIv_at I i hi
    have e44 := @c44 X D T O k 20 i hm20 hi hz
    have e35 := @c35 X D T O k 20 i (T 1 5) hm20 hi hz
    refine ⟨.int (sPrice T i), rfl, ?_, trivial⟩
    have e49 : zev X 133 49 [.ref 0, .int a, .int b, .int (zi i), .int (sPrice T i)] [] (zHP (zmt D 20 T) O, k) = zev X 133 16 [.ref 0, .int a, .int (if sOff T i (T 1 5) then sPrice T i else b), .int (zi (i + 1)), .int (sPrice T i)] [] (zHP (zmt D 20 T) O, k) := by
      simp (disch := first | assumption | omega) only [b133_49, e32, b133_61, e35, b133_64, ↓zn_l, zl_0, zl_1, zl_2, zl_3, zl_4, zl_5, zl_6, zl_7, zl_8, zl_9, zl_10, zl_11, zl_12, zl_13, zl_14, zl_15, zl_16, zl_17, zl_18, zl_19, zl_20, zl_21, zl_22, zl_23, zl_24, zl_25, zl_26, zl_27, zl_28, zl_29, zl_30, zl_31, zl_32, zl_36, zl_46, zl_48, zl_50, zl_57, zl_63, zl_64, zl_72, zl_97, zl_99, zl_100, zl_101, zl_122, zl_127, zl_200, zl_255, zl_406, zl_534, zl_540, zl_600, zl_9999, zl_33, zl_34, zl_35, zl_37, zl_38, zl_39, zl_40, zl_41, zl_42, zl_43, zl_44, zl_45, zl_47, zl_49, zl_52, zl_53, zl_54, zl_55, zl_58, zl_59, zl_60, zl_61, zl_62, zl_65, zl_70, zl_71, zl_98, zl_102, zl_103, zl_104, zl_105, zl_110, zl_111, zl_115, zl_120, zl_123, zl_126, zl_128, zl_256, zl_1000, zl_1024, zcon_inl, zcon_inr, Option.toList_some, Option.toList_none, List.cons_append, List.nil_append, List.append_nil, Nat.add_zero, zbind_some, zi_toNat, zi_lt, zi_inj, zi_add, zi_mul, zi_ne_zn, zn_ne_zi, zn_lt_zi, zi_lt_zn, Nat.not_lt_zero, false_or, if_true, if_false, true_or, or_false, zb_0]
      cases sOff T i (T 1 5) <;> simp
    refine b133_16.trans ?_
    simp (disch := first | assumption | omega) only [hi, e44, b133_30, e49, ↓zn_l, zl_0, zl_1, zl_2, zl_3, zl_4, zl_5, zl_6, zl_7, zl_8, zl_9, zl_10, zl_11, zl_12, zl_13, zl_14, zl_15, zl_16, zl_17, zl_18, zl_19, zl_20, zl_21, zl_22, zl_23, zl_24, zl_25, zl_26, zl_27, zl_28, zl_29, zl_30, zl_31, zl_32, zl_36, zl_46, zl_48, zl_50, zl_57, zl_63, zl_64, zl_72, zl_97, zl_99, zl_100, zl_101, zl_122, zl_127, zl_200, zl_255, zl_406, zl_534, zl_540, zl_600, zl_9999, zl_33, zl_34, zl_35, zl_37, zl_38, zl_39, zl_40, zl_41, zl_42, zl_43, zl_44, zl_45, zl_47, zl_49, zl_52, zl_53, zl_54, zl_55, zl_58, zl_59, zl_60, zl_61, zl_62, zl_65, zl_70, zl_71, zl_98, zl_102, zl_103, zl_104, zl_105, zl_110, zl_111, zl_115, zl_120, zl_123, zl_126, zl_128, zl_256, zl_1000, zl_1024, zcon_inl, zcon_inr, Option.toList_some, Option.toList_none, List.cons_append, List.nil_append, List.append_nil, Nat.add_zero, zbind_some, zi_toNat, zi_lt, zi_inj, zi_add, zi_mul, zi_ne_zn, zn_ne_zi, zn_lt_zi, zi_lt_zn, Nat.not_lt_zero, false_or, if_true, if_false, true_or, or_false]
    unfold sStepF
    by_cases q1 : a < sPrice T i
    · by_cases q2 : b = zn
      · simp [q1, q2]
      · by_cases q3 : sPrice T i < b
        · simp [q1, q2, q3]
        · simp [q1, q2, q3]
    · simp [q1]
  · intro b v _ _
    refine b133_16.trans ?_
    simp (disch := first | assumption | omega) only [↓zn_l, zl_0, zl_1, zl_2, zl_3, zl_4, zl_5, zl_6, zl_7, zl_8, zl_9, zl_10, zl_11, zl_12, zl_13, zl_14, zl_15, zl_16, zl_17, zl_18, zl_19, zl_20, zl_21, zl_22, zl_23, zl_24, zl_25, zl_26, zl_27, zl_28, zl_29, zl_30, zl_31, zl_32, zl_36, zl_46, zl_48, zl_50, zl_57, zl_63, zl_64, zl_72, zl_97, zl_99, zl_100, zl_101, zl_122, zl_127, zl_200, zl_255, zl_406, zl_534, zl_540, zl_600, zl_9999, zl_33, zl_34, zl_35, zl_37, zl_38, zl_39, zl_40, zl_41, zl_42, zl_43, zl_44, zl_45, zl_47, zl_49, zl_52, zl_53, zl_54, zl_55, zl_58, zl_59, zl_60, zl_61, zl_62, zl_65, zl_70, zl_71, zl_98, zl_102, zl_103, zl_104, zl_105, zl_110, zl_111, zl_115, zl_120, zl_123, zl_126, zl_128, zl_256, zl_1000, zl_1024, zcon_inl, zcon_inr, Option.toList_some, Option.toList_none, List.cons_append, List.nil_append, List.append_nil, Nat.add_zero, zbind_some, zi_toNat, zi_lt, zi_inj, zi_add, zi_mul, zi_ne_zn, zn_ne_zi, zn_lt_zi, zi_lt_zn, Nat.not_lt_zero, false_or, if_true, if_false, true_or, or_false, Nat.lt_irrefl]
def sShr (T : ZD2) (f : Int32) (r : Nat) (s : Int32) : Int32 := if decide (T 3 (5 * r) = f) then s ||| ((1 : Int32) <<< (zi (r / 12) &&& 31)) else s
theorem c134 {p g : Nat} (I : zIv T) (h : D 20 6 = zi 1) (hp : p < sNp T) (hg : g < sPgs T p) : zev X 134 0 [.ref 0, .int (zi p), .int (zi g), zJ, zJ, zJ, zJ] [] (zHP (zmt D 20 T) O, k) = some (.inl (some (.int (if sIn T (12 * p + g) then zfo (sShr T (T 3 (5 * (12 * p + g)))) 72 0 (zi 0) else zi 0))), (zHP (zmt D 20 T) O, k)) := by
  have n1 := zIv_np I
  have n2 := zIv_np6 I
  have hp6 : p < 6 := by omega
  obtain ⟨g1, g2⟩ := zIv_pg I hp6
  have hr : 12 * p + g < 72 := by omega
  have e121 := @c121 X D T O k p g (sNp T) h n1 n2 hp g1 g2 hg
  have e21 := @c21 X (zmt D 20 T) O k p g
  generalize 12 * p + g = r at *
  have e22 := @c22 X D T O k 20 r hm20 hr
  have e94 := fun r hr => @tg3 X D T O k 20 r 0 hm20 hr (by omega)
  have e94r := e94 r hr
  simp (disch := first | assumption | omega) only [b134_0, e121, b134_6, e21, b134_11, e22, b134_20, zb_0, ↓zn_l, zl_0, zl_1, zl_2, zl_3, zl_4, zl_5, zl_6, zl_7, zl_8, zl_9, zl_10, zl_11, zl_12, zl_13, zl_14, zl_15, zl_16, zl_17, zl_18, zl_19, zl_20, zl_21, zl_22, zl_23, zl_24, zl_25, zl_26, zl_27, zl_28, zl_29, zl_30, zl_31, zl_32, zl_36, zl_46, zl_48, zl_50, zl_57, zl_63, zl_64, zl_72, zl_97, zl_99, zl_100, zl_101, zl_122, zl_127, zl_200, zl_255, zl_406, zl_534, zl_540, zl_600, zl_9999, zl_33, zl_34, zl_35, zl_37, zl_38, zl_39, zl_40, zl_41, zl_42, zl_43, zl_44, zl_45, zl_47, zl_49, zl_52, zl_53, zl_54, zl_55, zl_58, zl_59, zl_60, zl_61, zl_62, zl_65, zl_70, zl_71, zl_98, zl_102, zl_103, zl_104, zl_105, zl_110, zl_111, zl_115, zl_120, zl_123, zl_126, zl_128, zl_256, zl_1000, zl_1024, zcon_inl, zcon_inr, Option.toList_some, Option.toList_none, List.cons_append, List.nil_append, List.append_nil, Nat.add_zero, zbind_some]
  cases hin : sIn T r
  · simp
  · simp (disch := first | assumption | omega) only [Bool.true_eq_false, if_false, if_true]
    simp (disch := first | assumption | omega) only [e94r, b134_37, ↓zn_l, zl_0, zl_1, zl_2, zl_3, zl_4, zl_5, zl_6, zl_7, zl_8, zl_9, zl_10, zl_11, zl_12, zl_13, zl_14, zl_15, zl_16, zl_17, zl_18, zl_19, zl_20, zl_21, zl_22, zl_23, zl_24, zl_25, zl_26, zl_27, zl_28, zl_29, zl_30, zl_31, zl_32, zl_36, zl_46, zl_48, zl_50, zl_57, zl_63, zl_64, zl_72, zl_97, zl_99, zl_100, zl_101, zl_122, zl_127, zl_200, zl_255, zl_406, zl_534, zl_540, zl_600, zl_9999, zl_33, zl_34, zl_35, zl_37, zl_38, zl_39, zl_40, zl_41, zl_42, zl_43, zl_44, zl_45, zl_47, zl_49, zl_52, zl_53, zl_54, zl_55, zl_58, zl_59, zl_60, zl_61, zl_62, zl_65, zl_70, zl_71, zl_98, zl_102, zl_103, zl_104, zl_105, zl_110, zl_111, zl_115, zl_120, zl_123, zl_126, zl_128, zl_256, zl_1000, zl_1024, zcon_inl, zcon_inr, Option.toList_some, Option.toList_none, List.cons_append, List.nil_append, List.append_nil, Nat.add_zero, zbind_some]
    refine zloop (P := fun i s => zev X 134 45 [.ref 0, .int (zi p), .int (zi g), .int (zi r), .int (T 3 (5 * r)), .int s, .int (zi i)] [] (zHP (zmt D 20 T) O, k)) (Q := fun s => some (.inl (some (.int s)), (zHP (zmt D 20 T) O, k))) (f := sShr T (T 3 (5 * r))) (n := 72) ?_ ?_ 72 0 (zi 0) (by omega)
    · intro i s hi
      have e94i := e94 i hi
      refine b134_45.trans ?_
      rw [if_pos (by rw [zl_72, zi_lt (by omega) (by omega)]; exact hi), zl_0]
      show zcon (zev X 94 0 [.ref 27, _, _, _] _ _) _ = _
      rw [show zev X 94 0 [.ref 27, .int (zi i), .int (zi 0), zJ] [] (zHP (zmt D 20 T) O, k) = _ from e94i, zcon_inl]
      refine b134_65.trans ?_
      rw [zl_12, zi_div (by omega) (by omega), show zi i + 1 = zi (i + 1) from zi_add i 1, Nat.add_zero]
      unfold sShr
      by_cases q : T 3 (5 * i) = T 3 (5 * r)
      · rw [if_pos q, if_pos (by simpa using q)]
      · rw [if_neg q, if_neg (by simpa using q)]
    · intro s
      refine b134_45.trans ?_
      simp (disch := first | assumption | omega) only [↓zn_l, zl_0, zl_1, zl_2, zl_3, zl_4, zl_5, zl_6, zl_7, zl_8, zl_9, zl_10, zl_11, zl_12, zl_13, zl_14, zl_15, zl_16, zl_17, zl_18, zl_19, zl_20, zl_21, zl_22, zl_23, zl_24, zl_25, zl_26, zl_27, zl_28, zl_29, zl_30, zl_31, zl_32, zl_36, zl_46, zl_48, zl_50, zl_57, zl_63, zl_64, zl_72, zl_97, zl_99, zl_100, zl_101, zl_122, zl_127, zl_200, zl_255, zl_406, zl_534, zl_540, zl_600, zl_9999, zl_33, zl_34, zl_35, zl_37, zl_38, zl_39, zl_40, zl_41, zl_42, zl_43, zl_44, zl_45, zl_47, zl_49, zl_52, zl_53, zl_54, zl_55, zl_58, zl_59, zl_60, zl_61, zl_62, zl_65, zl_70, zl_71, zl_98, zl_102, zl_103, zl_104, zl_105, zl_110, zl_111, zl_115, zl_120, zl_123, zl_126, zl_128, zl_256, zl_1000, zl_1024, zcon_inl, zcon_inr, Option.toList_some, Option.toList_none, List.cons_append, List.nil_append, List.append_nil, Nat.add_zero, zbind_some, zi_toNat, zi_lt, zi_inj, zi_add, zi_mul, zi_ne_zn, zn_ne_zi, zn_lt_zi, zi_lt_zn, Nat.not_lt_zero, false_or, if_true, if_false, true_or, or_false, Nat.lt_irrefl]
def sHit (T : ZD2) : UInt32 := FP.fdiv (FP.i2f (T 1 6 - T 1 14)) (FP.i2f (T 1 6))
theorem c135 (h : D 20 6 = zi 1) (hg : zi 0 < T 1 6 → sHit T &&& 0x7fffffff ≤ 0x7f800000) : zev X 135 0 [.ref 0, zJ, zJ] [] (zHP (zmt D 20 T) O, k) = some (.inl (some (.float (if zi 0 < T 1 6 then sHit T else FP.fconst0))), (zHP (zmt D 20 T) O, k)) := by
  have e6 := @tg1 X D T O k 20 6 hm20 (by omega)
  have e14 := @tg1 X D T O k 20 14 hm20 (by omega)
  simp (disch := first | assumption | omega) only [b135_0, c114, b135_4, e6, b135_17, e14, ↓zn_l, zl_0, zl_1, zl_2, zl_3, zl_4, zl_5, zl_6, zl_7, zl_8, zl_9, zl_10, zl_11, zl_12, zl_13, zl_14, zl_15, zl_16, zl_17, zl_18, zl_19, zl_20, zl_21, zl_22, zl_23, zl_24, zl_25, zl_26, zl_27, zl_28, zl_29, zl_30, zl_31, zl_32, zl_36, zl_46, zl_48, zl_50, zl_57, zl_63, zl_64, zl_72, zl_97, zl_99, zl_100, zl_101, zl_122, zl_127, zl_200, zl_255, zl_406, zl_534, zl_540, zl_600, zl_9999, zl_33, zl_34, zl_35, zl_37, zl_38, zl_39, zl_40, zl_41, zl_42, zl_43, zl_44, zl_45, zl_47, zl_49, zl_52, zl_53, zl_54, zl_55, zl_58, zl_59, zl_60, zl_61, zl_62, zl_65, zl_70, zl_71, zl_98, zl_102, zl_103, zl_104, zl_105, zl_110, zl_111, zl_115, zl_120, zl_123, zl_126, zl_128, zl_256, zl_1000, zl_1024, zcon_inl, zcon_inr, Option.toList_some, Option.toList_none, List.cons_append, List.nil_append, List.append_nil, Nat.add_zero, zbind_some]
  refine b135_32.trans ?_
  rw [zl_0]
  by_cases q : zi 0 < T 1 6
  · rw [if_pos q, if_pos q]
    exact if_pos (hg q)
  · rw [if_neg q, if_neg q]
def sMeanF (T : ZD2) (p : Nat) (s : Int32) : Int32 := s + (if sEnd T p then zi 0 else T 2 (12 * p + 4))
def sLive (T : ZD2) : Nat := zct (fun p => !sEnd T p) (sNp T) 0 0
def sMean (T : ZD2) : UInt64 := FP.ddiv (FP.i2d (zfo (sMeanF T) (sNp T) 0 (zi 0))) (FP.i2d (zi (sLive T)))
theorem c136 (I : zIv T) (h : D 20 6 = zi 1) (hg : zi 0 < zi (sLive T) → sMean T &&& 0x7fffffffffffffff ≤ 0x7ff0000000000000) : zev X 136 0 [.ref 0, zJ, zJ] [] (zHP (zmt D 20 T) O, k) = some (.inl (some (.double (if zi 0 < zi (sLive T) then sMean T else FP.dconst0))), (zHP (zmt D 20 T) O, k)) := by
  have n1 := zIv_np I
  have n2 := zIv_np6 I
  have e18 := @c18 X D T O k 20 hm20
  have e29 := @c29 X D T O k 20 (sNp T) hm20 n1 n2
  simp (disch := first | assumption | omega) only [b136_0, c114, b136_4, ↓zn_l, zl_0, zl_1, zl_2, zl_3, zl_4, zl_5, zl_6, zl_7, zl_8, zl_9, zl_10, zl_11, zl_12, zl_13, zl_14, zl_15, zl_16, zl_17, zl_18, zl_19, zl_20, zl_21, zl_22, zl_23, zl_24, zl_25, zl_26, zl_27, zl_28, zl_29, zl_30, zl_31, zl_32, zl_36, zl_46, zl_48, zl_50, zl_57, zl_63, zl_64, zl_72, zl_97, zl_99, zl_100, zl_101, zl_122, zl_127, zl_200, zl_255, zl_406, zl_534, zl_540, zl_600, zl_9999, zl_33, zl_34, zl_35, zl_37, zl_38, zl_39, zl_40, zl_41, zl_42, zl_43, zl_44, zl_45, zl_47, zl_49, zl_52, zl_53, zl_54, zl_55, zl_58, zl_59, zl_60, zl_61, zl_62, zl_65, zl_70, zl_71, zl_98, zl_102, zl_103, zl_104, zl_105, zl_110, zl_111, zl_115, zl_120, zl_123, zl_126, zl_128, zl_256, zl_1000, zl_1024, zcon_inl, zcon_inr, Option.toList_some, Option.toList_none, List.cons_append, List.nil_append, List.append_nil, Nat.add_zero, zbind_some]
  refine zloop (P := fun i s => zev X 136 8 [.ref 0, .int s, .int (zi i)] [] (zHP (zmt D 20 T) O, k)) (Q := fun s => if zi 0 < zi (sLive T) then (if FP.ddiv (FP.i2d s) (FP.i2d (zi (sLive T))) &&& 0x7fffffffffffffff ≤ 0x7ff0000000000000 then some (.inl (some (.double (FP.ddiv (FP.i2d s) (FP.i2d (zi (sLive T)))))), (zHP (zmt D 20 T) O, k)) else none) else some (.inl (some (.double FP.dconst0)), (zHP (zmt D 20 T) O, k))) (f := sMeanF T) (n := sNp T) ?_ ?_ (sNp T) 0 (zi 0) (by omega) |>.trans ?_
  · intro i s hi
    have hi6 : i < 6 := by omega
    have e30 := @c30 X D T O k 20 i hm20 hi6
    refine b136_8.trans ?_
    simp (disch := first | assumption | omega) only [e18, n1, b136_16, ↓zn_l, zl_0, zl_1, zl_2, zl_3, zl_4, zl_5, zl_6, zl_7, zl_8, zl_9, zl_10, zl_11, zl_12, zl_13, zl_14, zl_15, zl_16, zl_17, zl_18, zl_19, zl_20, zl_21, zl_22, zl_23, zl_24, zl_25, zl_26, zl_27, zl_28, zl_29, zl_30, zl_31, zl_32, zl_36, zl_46, zl_48, zl_50, zl_57, zl_63, zl_64, zl_72, zl_97, zl_99, zl_100, zl_101, zl_122, zl_127, zl_200, zl_255, zl_406, zl_534, zl_540, zl_600, zl_9999, zl_33, zl_34, zl_35, zl_37, zl_38, zl_39, zl_40, zl_41, zl_42, zl_43, zl_44, zl_45, zl_47, zl_49, zl_52, zl_53, zl_54, zl_55, zl_58, zl_59, zl_60, zl_61, zl_62, zl_65, zl_70, zl_71, zl_98, zl_102, zl_103, zl_104, zl_105, zl_110, zl_111, zl_115, zl_120, zl_123, zl_126, zl_128, zl_256, zl_1000, zl_1024, zcon_inl, zcon_inr, Option.toList_some, Option.toList_none, List.cons_append, List.nil_append, List.append_nil, Nat.add_zero, zbind_some, zi_toNat, zi_lt, zi_inj, zi_add, zi_mul, zi_ne_zn, zn_ne_zi, zn_lt_zi, zi_lt_zn, Nat.not_lt_zero, false_or, if_true, if_false, true_or, or_false, hi, e30, b136_28, zb_0, c130, b136_40]
    unfold sMeanF
    cases sEnd T i <;> simp
  · intro s
    refine b136_8.trans ?_
    simp (disch := first | assumption | omega) only [e18, n1, b136_16, ↓zn_l, zl_0, zl_1, zl_2, zl_3, zl_4, zl_5, zl_6, zl_7, zl_8, zl_9, zl_10, zl_11, zl_12, zl_13, zl_14, zl_15, zl_16, zl_17, zl_18, zl_19, zl_20, zl_21, zl_22, zl_23, zl_24, zl_25, zl_26, zl_27, zl_28, zl_29, zl_30, zl_31, zl_32, zl_36, zl_46, zl_48, zl_50, zl_57, zl_63, zl_64, zl_72, zl_97, zl_99, zl_100, zl_101, zl_122, zl_127, zl_200, zl_255, zl_406, zl_534, zl_540, zl_600, zl_9999, zl_33, zl_34, zl_35, zl_37, zl_38, zl_39, zl_40, zl_41, zl_42, zl_43, zl_44, zl_45, zl_47, zl_49, zl_52, zl_53, zl_54, zl_55, zl_58, zl_59, zl_60, zl_61, zl_62, zl_65, zl_70, zl_71, zl_98, zl_102, zl_103, zl_104, zl_105, zl_110, zl_111, zl_115, zl_120, zl_123, zl_126, zl_128, zl_256, zl_1000, zl_1024, zcon_inl, zcon_inr, Option.toList_some, Option.toList_none, List.cons_append, List.nil_append, List.append_nil, Nat.add_zero, zbind_some, zi_toNat, zi_lt, zi_inj, zi_add, zi_mul, zi_ne_zn, zn_ne_zi, zn_lt_zi, zi_lt_zn, Nat.not_lt_zero, false_or, if_true, if_false, true_or, or_false, Nat.lt_irrefl, e29]
    refine b136_55.trans ?_
    rw [zl_0]
    rfl
  · by_cases q : zi 0 < zi (sLive T)
    · rw [if_pos q, if_pos q]
      exact if_pos (hg q)
    · rw [if_neg q, if_neg q]
def sHeldD (T : ZD2) (p : Nat) : Int32 := zPop (zfo (sSet T p true) 12 0 0)
theorem c137 {p : Nat} (I : zIv T) (h : D 20 6 = zi 1) (hp : p < sNp T) : zev X 137 0 [.ref 0, .int (zi p)] [] (zHP (zmt D 20 T) O, k) = some (.inl (some (.int (sHeldD T p))), (zHP (zmt D 20 T) O, k)) := by
  have n2 := zIv_np6 I
  have hp6 : p < 6 := by omega
  have e119 := @c119 X D T O k p (sNp T) h (zIv_np I) n2 hp
  have e40 := @c40 X D T O k 20 p true hm20 hp6 (zIv_at I)
  rw [zb_t] at e40
  simp (disch := first | assumption | omega) only [b137_0, e119, b137_5, e40, b137_14, c351, b137_17, ↓zn_l, zl_0, zl_1, zl_2, zl_3, zl_4, zl_5, zl_6, zl_7, zl_8, zl_9, zl_10, zl_11, zl_12, zl_13, zl_14, zl_15, zl_16, zl_17, zl_18, zl_19, zl_20, zl_21, zl_22, zl_23, zl_24, zl_25, zl_26, zl_27, zl_28, zl_29, zl_30, zl_31, zl_32, zl_36, zl_46, zl_48, zl_50, zl_57, zl_63, zl_64, zl_72, zl_97, zl_99, zl_100, zl_101, zl_122, zl_127, zl_200, zl_255, zl_406, zl_534, zl_540, zl_600, zl_9999, zl_33, zl_34, zl_35, zl_37, zl_38, zl_39, zl_40, zl_41, zl_42, zl_43, zl_44, zl_45, zl_47, zl_49, zl_52, zl_53, zl_54, zl_55, zl_58, zl_59, zl_60, zl_61, zl_62, zl_65, zl_70, zl_71, zl_98, zl_102, zl_103, zl_104, zl_105, zl_110, zl_111, zl_115, zl_120, zl_123, zl_126, zl_128, zl_256, zl_1000, zl_1024, zcon_inl, zcon_inr, Option.toList_some, Option.toList_none, List.cons_append, List.nil_append, List.append_nil, Nat.add_zero, zbind_some]
  rfl
theorem c140 {a : Int32} (I : zIv T) (h : D 20 6 = zi 1) (h1 : ¬ a < zi 0) (h2 : ¬ zi 200 < a) : zev X 140 0 [.ref 0, .int a] [] (zHP (zmt D 20 T) O, k) = some (.inl (some (.int (zi (zct (sFreeAt T (T 1 5 + a)) (sNf T) 0 0)))), (zHP (zmt D 20 T) O, k)) := by
  have e116 := @c116 X (zmt D 20 T) O k a (zi 0) (zi 200) h1 h2
  have e32 := @c32 X D T O k 20 hm20
  have e57 := @c57 X D T O k 20 (sNf T) (T 1 5 + a) hm20 (zIv_nf I) (zIv_nf64 I)
  simp (disch := first | assumption | omega) only [b140_0, c114, b140_4, e116, b140_12, e32, b140_23, e57, b140_28, ↓zn_l, zl_0, zl_1, zl_2, zl_3, zl_4, zl_5, zl_6, zl_7, zl_8, zl_9, zl_10, zl_11, zl_12, zl_13, zl_14, zl_15, zl_16, zl_17, zl_18, zl_19, zl_20, zl_21, zl_22, zl_23, zl_24, zl_25, zl_26, zl_27, zl_28, zl_29, zl_30, zl_31, zl_32, zl_36, zl_46, zl_48, zl_50, zl_57, zl_63, zl_64, zl_72, zl_97, zl_99, zl_100, zl_101, zl_122, zl_127, zl_200, zl_255, zl_406, zl_534, zl_540, zl_600, zl_9999, zl_33, zl_34, zl_35, zl_37, zl_38, zl_39, zl_40, zl_41, zl_42, zl_43, zl_44, zl_45, zl_47, zl_49, zl_52, zl_53, zl_54, zl_55, zl_58, zl_59, zl_60, zl_61, zl_62, zl_65, zl_70, zl_71, zl_98, zl_102, zl_103, zl_104, zl_105, zl_110, zl_111, zl_115, zl_120, zl_123, zl_126, zl_128, zl_256, zl_1000, zl_1024, zcon_inl, zcon_inr, Option.toList_some, Option.toList_none, List.cons_append, List.nil_append, List.append_nil, Nat.add_zero, zbind_some]
theorem c141 {a : Int32} (I : zIv T) (h : D 20 6 = zi 1) (h1 : ¬ a < zi 0) (h2 : ¬ zi 200 < a) : zev X 141 0 [.ref 0, .int a] [] (zHP (zmt D 20 T) O, k) = some (.inl (some (.int (zi (zfo (fun p c => c + zct (fun g => sOff T (12 * p + g) (T 1 5 + a)) 12 0 0) (sNp T) 0 0)))), (zHP (zmt D 20 T) O, k)) := by
  have e116 := @c116 X (zmt D 20 T) O k a (zi 0) (zi 200) h1 h2
  have e32 := @c32 X D T O k 20 hm20
  have e33 := @c33 X D T O k 20 (sNp T) (T 1 5 + a) hm20 (zIv_np I) (zIv_np6 I) (zIv_at I)
  simp (disch := first | assumption | omega) only [b141_0, c114, b141_4, e116, b141_12, e32, b141_23, e33, b141_28, ↓zn_l, zl_0, zl_1, zl_2, zl_3, zl_4, zl_5, zl_6, zl_7, zl_8, zl_9, zl_10, zl_11, zl_12, zl_13, zl_14, zl_15, zl_16, zl_17, zl_18, zl_19, zl_20, zl_21, zl_22, zl_23, zl_24, zl_25, zl_26, zl_27, zl_28, zl_29, zl_30, zl_31, zl_32, zl_36, zl_46, zl_48, zl_50, zl_57, zl_63, zl_64, zl_72, zl_97, zl_99, zl_100, zl_101, zl_122, zl_127, zl_200, zl_255, zl_406, zl_534, zl_540, zl_600, zl_9999, zl_33, zl_34, zl_35, zl_37, zl_38, zl_39, zl_40, zl_41, zl_42, zl_43, zl_44, zl_45, zl_47, zl_49, zl_52, zl_53, zl_54, zl_55, zl_58, zl_59, zl_60, zl_61, zl_62, zl_65, zl_70, zl_71, zl_98, zl_102, zl_103, zl_104, zl_105, zl_110, zl_111, zl_115, zl_120, zl_123, zl_126, zl_128, zl_256, zl_1000, zl_1024, zcon_inl, zcon_inr, Option.toList_some, Option.toList_none, List.cons_append, List.nil_append, List.append_nil, Nat.add_zero, zbind_some]
theorem c142 {a : Int32} (I : zIv T) (h : D 20 6 = zi 1) (h1 : ¬ a < zi 0) (h2 : ¬ T 0 0 < a) : zev X 142 0 [.ref 0, .int a, zJ] [] (zHP (zmt D 20 T) O, k) = some (.inl (some (.int (zff (fun t => !decide (zi (zct (sFreeAt T (T 1 5 + zi t)) (sNf T) 0 0) < a)) 21 0))), (zHP (zmt D 20 T) O, k)) := by
  have e116 := @c116 X (zmt D 20 T) O k a (zi 0) (T 0 0) h1 h2
  have e32 := @c32 X D T O k 20 hm20
  have e24 := @c24 X D T O k 20 hm20
  have e57 := fun t => @c57 X D T O k 20 (sNf T) t hm20 (zIv_nf I) (zIv_nf64 I)
  simp (disch := first | assumption | omega) only [b142_0, c114, b142_4, e24, b142_13, e116, b142_16, ↓zn_l, zl_0, zl_1, zl_2, zl_3, zl_4, zl_5, zl_6, zl_7, zl_8, zl_9, zl_10, zl_11, zl_12, zl_13, zl_14, zl_15, zl_16, zl_17, zl_18, zl_19, zl_20, zl_21, zl_22, zl_23, zl_24, zl_25, zl_26, zl_27, zl_28, zl_29, zl_30, zl_31, zl_32, zl_36, zl_46, zl_48, zl_50, zl_57, zl_63, zl_64, zl_72, zl_97, zl_99, zl_100, zl_101, zl_122, zl_127, zl_200, zl_255, zl_406, zl_534, zl_540, zl_600, zl_9999, zl_33, zl_34, zl_35, zl_37, zl_38, zl_39, zl_40, zl_41, zl_42, zl_43, zl_44, zl_45, zl_47, zl_49, zl_52, zl_53, zl_54, zl_55, zl_58, zl_59, zl_60, zl_61, zl_62, zl_65, zl_70, zl_71, zl_98, zl_102, zl_103, zl_104, zl_105, zl_110, zl_111, zl_115, zl_120, zl_123, zl_126, zl_128, zl_256, zl_1000, zl_1024, zcon_inl, zcon_inr, Option.toList_some, Option.toList_none, List.cons_append, List.nil_append, List.append_nil, Nat.add_zero, zbind_some]
  refine zfind (P := fun i => zev X 142 18 [.ref 0, .int a, .int (zi i)] [] (zHP (zmt D 20 T) O, k)) (Q := fun b => some (.inl (some (.int b)), (zHP (zmt D 20 T) O, k))) (n := 21) ?_ ?_ 21 0 (by omega)
  · intro i hi
    have hi2 : ¬ 20 < i := by omega
    refine b142_18.trans ?_
    simp (disch := first | assumption | omega) only [hi2, e32, b142_35, e57, b142_40, ↓zn_l, zl_0, zl_1, zl_2, zl_3, zl_4, zl_5, zl_6, zl_7, zl_8, zl_9, zl_10, zl_11, zl_12, zl_13, zl_14, zl_15, zl_16, zl_17, zl_18, zl_19, zl_20, zl_21, zl_22, zl_23, zl_24, zl_25, zl_26, zl_27, zl_28, zl_29, zl_30, zl_31, zl_32, zl_36, zl_46, zl_48, zl_50, zl_57, zl_63, zl_64, zl_72, zl_97, zl_99, zl_100, zl_101, zl_122, zl_127, zl_200, zl_255, zl_406, zl_534, zl_540, zl_600, zl_9999, zl_33, zl_34, zl_35, zl_37, zl_38, zl_39, zl_40, zl_41, zl_42, zl_43, zl_44, zl_45, zl_47, zl_49, zl_52, zl_53, zl_54, zl_55, zl_58, zl_59, zl_60, zl_61, zl_62, zl_65, zl_70, zl_71, zl_98, zl_102, zl_103, zl_104, zl_105, zl_110, zl_111, zl_115, zl_120, zl_123, zl_126, zl_128, zl_256, zl_1000, zl_1024, zcon_inl, zcon_inr, Option.toList_some, Option.toList_none, List.cons_append, List.nil_append, List.append_nil, Nat.add_zero, zbind_some, zi_toNat, zi_lt, zi_inj, zi_add, zi_mul, zi_ne_zn, zn_ne_zi, zn_lt_zi, zi_lt_zn, Nat.not_lt_zero, false_or, if_true, if_false, true_or, or_false]
    by_cases q : zi (zct (sFreeAt T (T 1 5 + zi i)) (sNf T) 0 0) < a <;> simp [q]
  · refine b142_18.trans ?_
    simp (disch := first | assumption | omega) only [↓zn_l, zl_0, zl_1, zl_2, zl_3, zl_4, zl_5, zl_6, zl_7, zl_8, zl_9, zl_10, zl_11, zl_12, zl_13, zl_14, zl_15, zl_16, zl_17, zl_18, zl_19, zl_20, zl_21, zl_22, zl_23, zl_24, zl_25, zl_26, zl_27, zl_28, zl_29, zl_30, zl_31, zl_32, zl_36, zl_46, zl_48, zl_50, zl_57, zl_63, zl_64, zl_72, zl_97, zl_99, zl_100, zl_101, zl_122, zl_127, zl_200, zl_255, zl_406, zl_534, zl_540, zl_600, zl_9999, zl_33, zl_34, zl_35, zl_37, zl_38, zl_39, zl_40, zl_41, zl_42, zl_43, zl_44, zl_45, zl_47, zl_49, zl_52, zl_53, zl_54, zl_55, zl_58, zl_59, zl_60, zl_61, zl_62, zl_65, zl_70, zl_71, zl_98, zl_102, zl_103, zl_104, zl_105, zl_110, zl_111, zl_115, zl_120, zl_123, zl_126, zl_128, zl_256, zl_1000, zl_1024, zcon_inl, zcon_inr, Option.toList_some, Option.toList_none, List.cons_append, List.nil_append, List.append_nil, Nat.add_zero, zbind_some, zi_toNat, zi_lt, zi_inj, zi_add, zi_mul, zi_ne_zn, zn_ne_zi, zn_lt_zi, zi_lt_zn, Nat.not_lt_zero, false_or, if_true, if_false, true_or, or_false, show 20 < 21 by omega]
theorem c162 {q : Nat} (h : D 20 6 = zi 1) (hq : q < 6) : zev X 162 0 [.ref 0, .int (zi q)] [] (zHP (zmt D 20 T) O, k) = some (.inl (some (.int (T 5 q))), (zHP (zmt D 20 T) O, k)) := by
  have e := @tg5 X D T O k 20 q hm20 hq
  simp (disch := first | assumption | omega) only [b162_0, c114, b162_4, c161, b162_9, e, b162_21, ↓zn_l, zl_0, zl_1, zl_2, zl_3, zl_4, zl_5, zl_6, zl_7, zl_8, zl_9, zl_10, zl_11, zl_12, zl_13, zl_14, zl_15, zl_16, zl_17, zl_18, zl_19, zl_20, zl_21, zl_22, zl_23, zl_24, zl_25, zl_26, zl_27, zl_28, zl_29, zl_30, zl_31, zl_32, zl_36, zl_46, zl_48, zl_50, zl_57, zl_63, zl_64, zl_72, zl_97, zl_99, zl_100, zl_101, zl_122, zl_127, zl_200, zl_255, zl_406, zl_534, zl_540, zl_600, zl_9999, zl_33, zl_34, zl_35, zl_37, zl_38, zl_39, zl_40, zl_41, zl_42, zl_43, zl_44, zl_45, zl_47, zl_49, zl_52, zl_53, zl_54, zl_55, zl_58, zl_59, zl_60, zl_61, zl_62, zl_65, zl_70, zl_71, zl_98, zl_102, zl_103, zl_104, zl_105, zl_110, zl_111, zl_115, zl_120, zl_123, zl_126, zl_128, zl_256, zl_1000, zl_1024, zcon_inl, zcon_inr, Option.toList_some, Option.toList_none, List.cons_append, List.nil_append, List.append_nil, Nat.add_zero, zbind_some]
theorem c1i : zev X 1 0 [.ref 2] [] (zHP D O, k) = some (.inl (some (.int (D 2 1))), (zHP D O, k)) := b1_0 zisB_2
theorem c1t : zev X 1 0 [.ref 18] [] (zHP D O, k) = some (.inl (some (.int (D 18 1))), (zHP D O, k)) := b1_0 zisB_18
theorem c107 : zev X 107 0 [.ref 0] [] (zHP D O, k) = some (.inl (some (.int (D 0 10))), (zHP D O, k)) := b107_0
theorem c108 : zev X 108 0 [.ref 0] [] (zHP D O, k) = some (.inl (some (.int (D 0 11))), (zHP D O, k)) := b108_0
theorem c109 : zev X 109 0 [.ref 0] [] (zHP D O, k) = some (.inl (some (.int (D 2 1))), (zHP D O, k)) := by
  rw [b109_0, c1i, zcon_inl]
  exact b109_7
theorem c11 : zev X 11 0 [.ref 59] [] (zHP D O, k) = some (.inl (some (.int (D 59 2))), (zHP D O, k)) := b11_0
theorem c110 : zev X 110 0 [.ref 0] [] (zHP D O, k) = some (.inl (some (.int (D 59 2))), (zHP D O, k)) := by
  rw [b110_0, c11, zcon_inl]
  exact b110_7
theorem c149 {i n : Nat} (hn : D 18 1 = zi n) (h : n ≤ 1024) (hi : i < n) : zev X 149 0 [.ref 0, .int (zi i)] [] (zHP D O, k) = some (.inl (some (.int (D 19 i))), (zHP D O, k)) := by
  have e : Int32.ofNat 1024 = zi 1024 := rfl
  have h1 : i < 1024 := by omega
  have h2 : ¬ 1024 ≤ i := by omega
  have e4 := @b4_0 X D O k 18 (zi i) 1024 zisB_18
  simp (disch := first | assumption | omega) only [↓zn_l, zl_0, zl_1, zl_2, zl_3, zl_4, zl_5, zl_6, zl_7, zl_8, zl_9, zl_10, zl_11, zl_12, zl_13, zl_14, zl_15, zl_16, zl_17, zl_18, zl_19, zl_20, zl_21, zl_22, zl_23, zl_24, zl_25, zl_26, zl_27, zl_28, zl_29, zl_30, zl_31, zl_32, zl_36, zl_46, zl_48, zl_50, zl_57, zl_63, zl_64, zl_72, zl_97, zl_99, zl_100, zl_101, zl_122, zl_127, zl_200, zl_255, zl_406, zl_534, zl_540, zl_600, zl_9999, zl_33, zl_34, zl_35, zl_37, zl_38, zl_39, zl_40, zl_41, zl_42, zl_43, zl_44, zl_45, zl_47, zl_49, zl_52, zl_53, zl_54, zl_55, zl_58, zl_59, zl_60, zl_61, zl_62, zl_65, zl_70, zl_71, zl_98, zl_102, zl_103, zl_104, zl_105, zl_110, zl_111, zl_115, zl_120, zl_123, zl_126, zl_128, zl_256, zl_1000, zl_1024, zcon_inl, zcon_inr, Option.toList_some, Option.toList_none, List.cons_append, List.nil_append, List.append_nil, Nat.add_zero, zbind_some, zi_toNat, zi_lt, zi_inj, zi_add, zi_mul, zi_ne_zn, zn_ne_zi, zn_lt_zi, zi_lt_zn, Nat.not_lt_zero, false_or, if_true, if_false, true_or, or_false, e, h1, h2] at e4
  simp (disch := first | assumption | omega) only [b149_0, c1t, b149_12, hn, hi, e4, b149_34, ↓zn_l, zl_0, zl_1, zl_2, zl_3, zl_4, zl_5, zl_6, zl_7, zl_8, zl_9, zl_10, zl_11, zl_12, zl_13, zl_14, zl_15, zl_16, zl_17, zl_18, zl_19, zl_20, zl_21, zl_22, zl_23, zl_24, zl_25, zl_26, zl_27, zl_28, zl_29, zl_30, zl_31, zl_32, zl_36, zl_46, zl_48, zl_50, zl_57, zl_63, zl_64, zl_72, zl_97, zl_99, zl_100, zl_101, zl_122, zl_127, zl_200, zl_255, zl_406, zl_534, zl_540, zl_600, zl_9999, zl_33, zl_34, zl_35, zl_37, zl_38, zl_39, zl_40, zl_41, zl_42, zl_43, zl_44, zl_45, zl_47, zl_49, zl_52, zl_53, zl_54, zl_55, zl_58, zl_59, zl_60, zl_61, zl_62, zl_65, zl_70, zl_71, zl_98, zl_102, zl_103, zl_104, zl_105, zl_110, zl_111, zl_115, zl_120, zl_123, zl_126, zl_128, zl_256, zl_1000, zl_1024, zcon_inl, zcon_inr, Option.toList_some, Option.toList_none, List.cons_append, List.nil_append, List.append_nil, Nat.add_zero, zbind_some, zi_toNat, zi_lt, zi_inj, zi_add, zi_mul, zi_ne_zn, zn_ne_zi, zn_lt_zi, zi_lt_zn, Nat.not_lt_zero, false_or, if_true, if_false, true_or, or_false]
theorem c149n {a : Int32} {n : Nat} (hn : D 18 1 = zi n) (ha : a < zi 0 ∨ ¬ a < zi n) : zev X 149 0 [.ref 0, .int a] [] (zHP D O, k) = some (.inr 2, (zHP D O, kt k)) := by
  rw [b149_0, zl_0]
  by_cases h1 : a < zi 0
  · rw [if_pos h1]; rfl
  · rw [if_neg h1, c1t, zcon_inl]
    show zev X 149 12 _ [_, _] _ = _
    rw [b149_12, hn, if_neg (ha.resolve_left h1)]
    rfl
end
