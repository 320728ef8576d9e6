/-! The class's further changes; what would be. -/
section
variable {X : ZX} {D T : ZD2} {O : ZO2} {k : Nat × Nat × Nat} {x hh : Nat}
def rPin (T : ZD2) (r : Nat) (w : Bool) : ZD2 := zw T 3 (5 * r + 2) (zb w)
theorem c156 {p g : Nat} {w : Bool} (I : zIv T) (H : zHs D x hh) (h : D 20 6 = zi 1) (hp : p < sNp T) (hg : g < sPgs T p) (he : sEnd T p = false) : zev X 156 0 [.ref 0, .int (zi p), .int (zi g), .int (zb w), zJ, zJ] [] (zHP (zmt D 20 T) O, k) = some (.inl (some (.int (zb (sPin T (12 * p + g))))), (zHP (zmt (uKeep D T x hh) 20 (rPin T (12 * p + g) w)) O, k)) := by
  have n2 := zIv_np6 I
  have hp6 : p < 6 := by omega
  obtain ⟨g1, g2⟩ := zIv_pg I hp6
  have e121 := @c121 X D T O k p g (sNp T) h (zIv_np I) n2 hp g1 g2 hg
  have e139 := @c139 X D T O k p hp6 he
  have hr : 12 * p + g < 72 := by omega
  have e13 := c13k (X := X) (O := O) (k := k) I H h
  have e27 := @c27 X (uKeep D T x hh) T O k 20 _ hm20 hr
  have e93 := fun v => @tp3 X (uKeep D T x hh) T O k 20 (12 * p + g) 2 v hm20 hr (by omega)
  simp (disch := first | assumption | omega) only [b156_0, e121, b156_6, e139, b156_11, e13, b156_22, c21, b156_27, e27, b156_38, zb_0, e93, b156_62, zb_01, zb_1, if_true, ↓zn_l, zl_0, zl_1, zl_2, zl_3, zl_4, zl_5, zl_6, zl_7, zl_8, zl_9, zl_10, zl_11, zl_12, zl_13, zl_14, zl_15, zl_16, zl_17, zl_18, zl_19, zl_20, zl_21, zl_22, zl_23, zl_24, zl_25, zl_26, zl_27, zl_28, zl_29, zl_30, zl_31, zl_32, zl_36, zl_46, zl_48, zl_50, zl_57, zl_63, zl_64, zl_72, zl_97, zl_99, zl_100, zl_101, zl_122, zl_127, zl_200, zl_255, zl_406, zl_534, zl_540, zl_600, zl_9999, zl_33, zl_34, zl_35, zl_37, zl_38, zl_39, zl_40, zl_41, zl_42, zl_43, zl_44, zl_45, zl_47, zl_49, zl_52, zl_53, zl_54, zl_55, zl_58, zl_59, zl_60, zl_61, zl_62, zl_65, zl_70, zl_71, zl_98, zl_102, zl_103, zl_104, zl_105, zl_110, zl_111, zl_115, zl_120, zl_123, zl_126, zl_128, zl_256, zl_1000, zl_1024, zcon_inl, zcon_inr, Option.toList_some, Option.toList_none, List.cons_append, List.nil_append, List.append_nil, Nat.add_zero, zbind_some]
  cases w
  · simp only [if_true, rPin, zb_f]
    cases sPin T (12 * p + g) <;> simp
  · simp only [Bool.true_eq_false, if_false, rPin, zb_t]
    cases sPin T (12 * p + g) <;> simp
theorem c157 {p : Nat} (I : zIv T) (H : zHs D x hh) (h : D 20 6 = zi 1) (hp : p < sNp T) (he : sEnd T p = false) : zev X 157 0 [.ref 0, .int (zi p)] [] (zHP (zmt D 20 T) O, k) = some (.inl (some (.int (zi (sFrees (uEnd T p)) - zi (sFrees T)))), (zHP (zmt (uKeep D T x hh) 20 (uEnd T p)) O, k)) := by
  have n2 := zIv_np6 I
  have hp6 : p < 6 := by omega
  have e119 := @c119 X D T O k p (sNp T) h (zIv_np I) n2 hp
  have e139 := @c139 X D T O k p hp6 he
  have e13 := c13k (X := X) (O := O) (k := k) I H h
  have e63 := @c63 X (uKeep D T x hh) T O k 20 p hm20 hp6 (zIv_at I) (zIv_nf I) (zIv_nf64 I)
  simp (disch := first | assumption | omega) only [b157_0, e119, b157_5, e139, b157_10, e13, b157_21, e63, b157_29, ↓zn_l, zl_0, zl_1, zl_2, zl_3, zl_4, zl_5, zl_6, zl_7, zl_8, zl_9, zl_10, zl_11, zl_12, zl_13, zl_14, zl_15, zl_16, zl_17, zl_18, zl_19, zl_20, zl_21, zl_22, zl_23, zl_24, zl_25, zl_26, zl_27, zl_28, zl_29, zl_30, zl_31, zl_32, zl_36, zl_46, zl_48, zl_50, zl_57, zl_63, zl_64, zl_72, zl_97, zl_99, zl_100, zl_101, zl_122, zl_127, zl_200, zl_255, zl_406, zl_534, zl_540, zl_600, zl_9999, zl_33, zl_34, zl_35, zl_37, zl_38, zl_39, zl_40, zl_41, zl_42, zl_43, zl_44, zl_45, zl_47, zl_49, zl_52, zl_53, zl_54, zl_55, zl_58, zl_59, zl_60, zl_61, zl_62, zl_65, zl_70, zl_71, zl_98, zl_102, zl_103, zl_104, zl_105, zl_110, zl_111, zl_115, zl_120, zl_123, zl_126, zl_128, zl_256, zl_1000, zl_1024, zcon_inl, zcon_inr, Option.toList_some, Option.toList_none, List.cons_append, List.nil_append, List.append_nil, Nat.add_zero, zbind_some]
theorem c158 {p : Nat} {a : Int32} (I : zIv T) (H : zHs D x hh) (h : D 20 6 = zi 1) (hp : p < sNp T) (h1 : ¬ a < zi 1) (h2 : ¬ zi 99 < a) : zev X 158 0 [.ref 0, .int (zi p), .int a, zJ] [] (zHP (zmt D 20 T) O, k) = some (.inl (some (.int (T 2 (12 * p)))), (zHP (zmt (uKeep D T x hh) 20 (zw T 2 (12 * p) a)) O, k)) := by
  have n2 := zIv_np6 I
  have hp6 : p < 6 := by omega
  have e119 := @c119 X D T O k p (sNp T) h (zIv_np I) n2 hp
  have e116 := @c116 X (zmt D 20 T) O k a (zi 1) (zi 99) h1 h2
  have e13 := c13k (X := X) (O := O) (k := k) I H h
  have e94 := @tg2 X (uKeep D T x hh) T O k 20 p 0 hm20 hp6 (by omega)
  have e93 := @tp2 X (uKeep D T x hh) T O k 20 p 0 a hm20 hp6 (by omega)
  simp (disch := first | assumption | omega) only [b158_0, e119, b158_5, e116, b158_12, e13, b158_23, e94, b158_35, e93, b158_49, ↓zn_l, zl_0, zl_1, zl_2, zl_3, zl_4, zl_5, zl_6, zl_7, zl_8, zl_9, zl_10, zl_11, zl_12, zl_13, zl_14, zl_15, zl_16, zl_17, zl_18, zl_19, zl_20, zl_21, zl_22, zl_23, zl_24, zl_25, zl_26, zl_27, zl_28, zl_29, zl_30, zl_31, zl_32, zl_36, zl_46, zl_48, zl_50, zl_57, zl_63, zl_64, zl_72, zl_97, zl_99, zl_100, zl_101, zl_122, zl_127, zl_200, zl_255, zl_406, zl_534, zl_540, zl_600, zl_9999, zl_33, zl_34, zl_35, zl_37, zl_38, zl_39, zl_40, zl_41, zl_42, zl_43, zl_44, zl_45, zl_47, zl_49, zl_52, zl_53, zl_54, zl_55, zl_58, zl_59, zl_60, zl_61, zl_62, zl_65, zl_70, zl_71, zl_98, zl_102, zl_103, zl_104, zl_105, zl_110, zl_111, zl_115, zl_120, zl_123, zl_126, zl_128, zl_256, zl_1000, zl_1024, zcon_inl, zcon_inr, Option.toList_some, Option.toList_none, List.cons_append, List.nil_append, List.append_nil, Nat.add_zero, zbind_some]
theorem c159 {p : Nat} {a : Int32} (I : zIv T) (H : zHs D x hh) (h : D 20 6 = zi 1) (hp : p < sNp T) (h1 : ¬ a < -99) (h2 : ¬ 99 < a) : zev X 159 0 [.ref 0, .int (zi p), .int a] [] (zHP (zmt D 20 T) O, k) = some (.inl (some (.int (uTrust T p a 2 (12 * p + 4)))), (zHP (zmt (uKeep D T x hh) 20 (uTrust T p a)) O, k)) := by
  have n2 := zIv_np6 I
  have hp6 : p < 6 := by omega
  have e119 := @c119 X D T O k p (sNp T) h (zIv_np I) n2 hp
  have e116 := @c116 X (zmt D 20 T) O k a (-99) 99 h1 h2
  have e13 := c13k (X := X) (O := O) (k := k) I H h
  have e54 := @c54 X (uKeep D T x hh) T O k 20 p a hm20 hp6
  have e130 := @c130 X (uKeep D T x hh) (uTrust T p a) O k p hp6
  rw [b159_0, e119, zcon_inl]
  show zev X 159 5 _ [] _ = _
  rw [b159_5, e116, zcon_inl]
  show zev X 159 13 _ [] _ = _
  simp (disch := first | assumption | omega) only [b159_13, e13, b159_24, e54, b159_33, e130, b159_38, ↓zn_l, zl_0, zl_1, zl_2, zl_3, zl_4, zl_5, zl_6, zl_7, zl_8, zl_9, zl_10, zl_11, zl_12, zl_13, zl_14, zl_15, zl_16, zl_17, zl_18, zl_19, zl_20, zl_21, zl_22, zl_23, zl_24, zl_25, zl_26, zl_27, zl_28, zl_29, zl_30, zl_31, zl_32, zl_36, zl_46, zl_48, zl_50, zl_57, zl_63, zl_64, zl_72, zl_97, zl_99, zl_100, zl_101, zl_122, zl_127, zl_200, zl_255, zl_406, zl_534, zl_540, zl_600, zl_9999, zl_33, zl_34, zl_35, zl_37, zl_38, zl_39, zl_40, zl_41, zl_42, zl_43, zl_44, zl_45, zl_47, zl_49, zl_52, zl_53, zl_54, zl_55, zl_58, zl_59, zl_60, zl_61, zl_62, zl_65, zl_70, zl_71, zl_98, zl_102, zl_103, zl_104, zl_105, zl_110, zl_111, zl_115, zl_120, zl_123, zl_126, zl_128, zl_256, zl_1000, zl_1024, zcon_inl, zcon_inr, Option.toList_some, Option.toList_none, List.cons_append, List.nil_append, List.append_nil, Nat.add_zero, zbind_some]
def rWatch (T : ZD2) (q r : Nat) : Bool := decide (sSh T r = !decide (q < 4))
theorem c160 {q p g : Nat} (I : zIv T) (H : zHs D x hh) (h : D 20 6 = zi 1) (hp : p < sNp T) (hg : g < sPgs T p) (hq : q < 6) : zev X 160 0 [.ref 0, .int (zi q), .int (zi p), .int (zi g), zJ] [] (zHP (zmt D 20 T) O, k) = some (.inl (some (.int (zb (rWatch T q (12 * p + g))))), (zHP (zmt (uKeep D T x hh) 20 (if rWatch T q (12 * p + g) then zw T 5 q (zi (12 * p + g)) else T)) O, k)) := by
  have n2 := zIv_np6 I
  have hp6 : p < 6 := by omega
  obtain ⟨g1, g2⟩ := zIv_pg I hp6
  have e121 := @c121 X D T O k p g (sNp T) h (zIv_np I) n2 hp g1 g2 hg
  have e161 := @c161 X (zmt D 20 T) O k q hq
  have hr : 12 * p + g < 72 := by omega
  have e13 := c13k (X := X) (O := O) (k := k) I H h
  have e37 := @c37 X (uKeep D T x hh) T O k 20 _ hm20 hr (zIv_at I _ hr)
  have e93 := fun v => @tp5 X (uKeep D T x hh) T O k 20 q v hm20 hq
  simp (disch := first | assumption | omega) only [b160_0, e121, b160_6, e161, b160_11, e13, b160_22, c21, b160_27, e37, b160_38, b160_48, e93, b160_67, zb_0, zb_1, ↓zn_l, zl_0, zl_1, zl_2, zl_3, zl_4, zl_5, zl_6, zl_7, zl_8, zl_9, zl_10, zl_11, zl_12, zl_13, zl_14, zl_15, zl_16, zl_17, zl_18, zl_19, zl_20, zl_21, zl_22, zl_23, zl_24, zl_25, zl_26, zl_27, zl_28, zl_29, zl_30, zl_31, zl_32, zl_36, zl_46, zl_48, zl_50, zl_57, zl_63, zl_64, zl_72, zl_97, zl_99, zl_100, zl_101, zl_122, zl_127, zl_200, zl_255, zl_406, zl_534, zl_540, zl_600, zl_9999, zl_33, zl_34, zl_35, zl_37, zl_38, zl_39, zl_40, zl_41, zl_42, zl_43, zl_44, zl_45, zl_47, zl_49, zl_52, zl_53, zl_54, zl_55, zl_58, zl_59, zl_60, zl_61, zl_62, zl_65, zl_70, zl_71, zl_98, zl_102, zl_103, zl_104, zl_105, zl_110, zl_111, zl_115, zl_120, zl_123, zl_126, zl_128, zl_256, zl_1000, zl_1024, zcon_inl, zcon_inr, Option.toList_some, Option.toList_none, List.cons_append, List.nil_append, List.append_nil, Nat.add_zero, zbind_some, zi_toNat, zi_lt, zi_inj, zi_add, zi_mul, zi_ne_zn, zn_ne_zi, zn_lt_zi, zi_lt_zn, Nat.not_lt_zero, false_or, if_true, if_false, true_or, or_false]
  unfold rWatch
  by_cases h4 : q < 4 <;> cases hs : sSh T (12 * p + g) <;> simp [h4, zb]
theorem c163 (I : zIv T) (H : zHs D x hh) (h : D 20 6 = zi 1) : zev X 163 0 [.ref 0, zJ, zJ] [] (zHP (zmt D 20 T) O, k) = some (.inl (some (.int (zi (zct (fun q => !decide (T 5 q = zn)) 6 0 0)))), (zHP (zmt (uKeep D T x hh) 20 (zrow T 5 fun j => if j % 1 = 0 ∧ j < 6 then zn else T 5 j)) O, k)) := by
  have e13 := c13k (X := X) (O := O) (k := k) I H h
  have e92 := @tf5_0 X (uKeep D T x hh) T O k 20 zn hm20
  simp (disch := first | assumption | omega) only [b163_0, c114, b163_4, e13, b163_15, ↓zn_l, zl_0, zl_1, zl_2, zl_3, zl_4, zl_5, zl_6, zl_7, zl_8, zl_9, zl_10, zl_11, zl_12, zl_13, zl_14, zl_15, zl_16, zl_17, zl_18, zl_19, zl_20, zl_21, zl_22, zl_23, zl_24, zl_25, zl_26, zl_27, zl_28, zl_29, zl_30, zl_31, zl_32, zl_36, zl_46, zl_48, zl_50, zl_57, zl_63, zl_64, zl_72, zl_97, zl_99, zl_100, zl_101, zl_122, zl_127, zl_200, zl_255, zl_406, zl_534, zl_540, zl_600, zl_9999, zl_33, zl_34, zl_35, zl_37, zl_38, zl_39, zl_40, zl_41, zl_42, zl_43, zl_44, zl_45, zl_47, zl_49, zl_52, zl_53, zl_54, zl_55, zl_58, zl_59, zl_60, zl_61, zl_62, zl_65, zl_70, zl_71, zl_98, zl_102, zl_103, zl_104, zl_105, zl_110, zl_111, zl_115, zl_120, zl_123, zl_126, zl_128, zl_256, zl_1000, zl_1024, zcon_inl, zcon_inr, Option.toList_some, Option.toList_none, List.cons_append, List.nil_append, List.append_nil, Nat.add_zero, zbind_some]
  refine zloop (P := fun i a => zev X 163 19 [.ref 0, .int (zi a), .int (zi i)] [] (zHP (zmt (uKeep D T x hh) 20 T) O, k)) (Q := fun a => some (.inl (some (.int (zi a))), (zHP (zmt (uKeep D T x hh) 20 (zrow T 5 fun j => if j % 1 = 0 ∧ j < 6 then zn else T 5 j)) O, k))) (f := fun j c => if !decide (T 5 j = zn) then c + 1 else c) (n := 6) ?_ ?_ 6 0 0 (by omega)
  · intro i a hi
    have e94 := @tg5 X (uKeep D T x hh) T O k 20 i hm20 hi
    refine b163_19.trans ?_
    simp (disch := first | assumption | omega) only [hi, e94, b163_38, zaddz, ↓zn_l, zl_0, zl_1, zl_2, zl_3, zl_4, zl_5, zl_6, zl_7, zl_8, zl_9, zl_10, zl_11, zl_12, zl_13, zl_14, zl_15, zl_16, zl_17, zl_18, zl_19, zl_20, zl_21, zl_22, zl_23, zl_24, zl_25, zl_26, zl_27, zl_28, zl_29, zl_30, zl_31, zl_32, zl_36, zl_46, zl_48, zl_50, zl_57, zl_63, zl_64, zl_72, zl_97, zl_99, zl_100, zl_101, zl_122, zl_127, zl_200, zl_255, zl_406, zl_534, zl_540, zl_600, zl_9999, zl_33, zl_34, zl_35, zl_37, zl_38, zl_39, zl_40, zl_41, zl_42, zl_43, zl_44, zl_45, zl_47, zl_49, zl_52, zl_53, zl_54, zl_55, zl_58, zl_59, zl_60, zl_61, zl_62, zl_65, zl_70, zl_71, zl_98, zl_102, zl_103, zl_104, zl_105, zl_110, zl_111, zl_115, zl_120, zl_123, zl_126, zl_128, zl_256, zl_1000, zl_1024, zcon_inl, zcon_inr, Option.toList_some, Option.toList_none, List.cons_append, List.nil_append, List.append_nil, Nat.add_zero, zbind_some, zi_toNat, zi_lt, zi_inj, zi_add, zi_mul, zi_ne_zn, zn_ne_zi, zn_lt_zi, zi_lt_zn, Nat.not_lt_zero, false_or, if_true, if_false, true_or, or_false]
    by_cases q : T 5 i = zn <;> simp [q]
  · intro a
    refine b163_19.trans ?_
    simp (disch := first | assumption | omega) only [↓zn_l, zl_0, zl_1, zl_2, zl_3, zl_4, zl_5, zl_6, zl_7, zl_8, zl_9, zl_10, zl_11, zl_12, zl_13, zl_14, zl_15, zl_16, zl_17, zl_18, zl_19, zl_20, zl_21, zl_22, zl_23, zl_24, zl_25, zl_26, zl_27, zl_28, zl_29, zl_30, zl_31, zl_32, zl_36, zl_46, zl_48, zl_50, zl_57, zl_63, zl_64, zl_72, zl_97, zl_99, zl_100, zl_101, zl_122, zl_127, zl_200, zl_255, zl_406, zl_534, zl_540, zl_600, zl_9999, zl_33, zl_34, zl_35, zl_37, zl_38, zl_39, zl_40, zl_41, zl_42, zl_43, zl_44, zl_45, zl_47, zl_49, zl_52, zl_53, zl_54, zl_55, zl_58, zl_59, zl_60, zl_61, zl_62, zl_65, zl_70, zl_71, zl_98, zl_102, zl_103, zl_104, zl_105, zl_110, zl_111, zl_115, zl_120, zl_123, zl_126, zl_128, zl_256, zl_1000, zl_1024, zcon_inl, zcon_inr, Option.toList_some, Option.toList_none, List.cons_append, List.nil_append, List.append_nil, Nat.add_zero, zbind_some, zi_toNat, zi_lt, zi_inj, zi_add, zi_mul, zi_ne_zn, zn_ne_zi, zn_lt_zi, zi_lt_zn, Nat.not_lt_zero, false_or, if_true, if_false, true_or, or_false, Nat.lt_irrefl, e92, b163_67]
theorem c164 (hT : zFin T) (H : zHs D x hh) (h0 : 0 < hh) (hl : D (zRg (zPrev x)) 6 = zi 0 ∨ D (zRg (zPrev x)) 6 = zi 1) : zev X 164 0 [.ref 0] [] (zHP (zmt D 20 T) O, k) = some (.inl (some (.int (zi (hh - 1)))), (zHP (zmt (zw (zw (zw D 20 6 (D (zRg (zPrev x)) 6)) 59 1 (zi (zPrev x))) 59 2 (zi (hh - 1))) 20 (zT D (zRg (zPrev x)))) O, k)) := by
  have e15 := @c15 X D T O k x hh H.1 H.2.1 H.2.2.1 H.2.2.2.1 h0 hl (H.2.2.2.2 _ (by unfold zPrev; omega)) hT
  have e1 : zmt D 20 T 59 2 = zi hh := by rw [zmt_o (by omega)]; exact H.2.2.1
  have hh8 := H.2.2.2.1
  have e2 : zmt (zw (zw (zw D 20 6 (D (zRg (zPrev x)) 6)) 59 1 (zi (zPrev x))) 59 2 (zi (hh - 1))) 20 (zT D (zRg (zPrev x))) 59 2 = zi (hh - 1) := by rw [zmt_o (by omega), zw_self]
  have hn : ¬ hh = 0 := by omega
  simp (disch := first | assumption | omega) only [b164_0, c11, e1, b164_7, hn, e15, b164_32, e2, b164_39, ↓zn_l, zl_0, zl_1, zl_2, zl_3, zl_4, zl_5, zl_6, zl_7, zl_8, zl_9, zl_10, zl_11, zl_12, zl_13, zl_14, zl_15, zl_16, zl_17, zl_18, zl_19, zl_20, zl_21, zl_22, zl_23, zl_24, zl_25, zl_26, zl_27, zl_28, zl_29, zl_30, zl_31, zl_32, zl_36, zl_46, zl_48, zl_50, zl_57, zl_63, zl_64, zl_72, zl_97, zl_99, zl_100, zl_101, zl_122, zl_127, zl_200, zl_255, zl_406, zl_534, zl_540, zl_600, zl_9999, zl_33, zl_34, zl_35, zl_37, zl_38, zl_39, zl_40, zl_41, zl_42, zl_43, zl_44, zl_45, zl_47, zl_49, zl_52, zl_53, zl_54, zl_55, zl_58, zl_59, zl_60, zl_61, zl_62, zl_65, zl_70, zl_71, zl_98, zl_102, zl_103, zl_104, zl_105, zl_110, zl_111, zl_115, zl_120, zl_123, zl_126, zl_128, zl_256, zl_1000, zl_1024, zcon_inl, zcon_inr, Option.toList_some, Option.toList_none, List.cons_append, List.nil_append, List.append_nil, Nat.add_zero, zbind_some, zi_toNat, zi_lt, zi_inj, zi_add, zi_mul, zi_ne_zn, zn_ne_zi, zn_lt_zi, zi_lt_zn, Nat.not_lt_zero, false_or, if_true, if_false, true_or, or_false]
theorem c164n (hd : D 59 2 = zi 0) : zev X 164 0 [.ref 0] [] (zHP (zmt D 20 T) O, k) = some (.inr 1, (zHP (zmt D 20 T) O, kt k)) := by
  have e1 : zmt D 20 T 59 2 = zi 0 := by rw [zmt_o (by omega)]; exact hd
  simp (disch := first | assumption | omega) only [b164_0, c11, e1, b164_7, ↓zn_l, zl_0, zl_1, zl_2, zl_3, zl_4, zl_5, zl_6, zl_7, zl_8, zl_9, zl_10, zl_11, zl_12, zl_13, zl_14, zl_15, zl_16, zl_17, zl_18, zl_19, zl_20, zl_21, zl_22, zl_23, zl_24, zl_25, zl_26, zl_27, zl_28, zl_29, zl_30, zl_31, zl_32, zl_36, zl_46, zl_48, zl_50, zl_57, zl_63, zl_64, zl_72, zl_97, zl_99, zl_100, zl_101, zl_122, zl_127, zl_200, zl_255, zl_406, zl_534, zl_540, zl_600, zl_9999, zl_33, zl_34, zl_35, zl_37, zl_38, zl_39, zl_40, zl_41, zl_42, zl_43, zl_44, zl_45, zl_47, zl_49, zl_52, zl_53, zl_54, zl_55, zl_58, zl_59, zl_60, zl_61, zl_62, zl_65, zl_70, zl_71, zl_98, zl_102, zl_103, zl_104, zl_105, zl_110, zl_111, zl_115, zl_120, zl_123, zl_126, zl_128, zl_256, zl_1000, zl_1024, zcon_inl, zcon_inr, Option.toList_some, Option.toList_none, List.cons_append, List.nil_append, List.append_nil, Nat.add_zero, zbind_some, if_true]
  rfl
def zSv (s : Nat) : Nat := 33 + 13 * s
theorem hmSv {s : Nat} (hs : s < 2) : zisM (zSv s) := by
  rcases (by omega : s = 0 ∨ s = 1) with rfl | rfl <;> exact zisM_of _ (by decide)
theorem c166 {s : Nat} (hs : s < 2) : zev X 166 0 [.ref 0, .int (zi s)] [] (zHP D O, k) = some (.inl (some (.ref (zSv s))), (zHP D O, k)) := by
  rcases (by omega : s = 0 ∨ s = 1) with rfl | rfl
  · simp (disch := first | assumption | omega) only [b166_0, ↓zn_l, zl_0, zl_1, zl_2, zl_3, zl_4, zl_5, zl_6, zl_7, zl_8, zl_9, zl_10, zl_11, zl_12, zl_13, zl_14, zl_15, zl_16, zl_17, zl_18, zl_19, zl_20, zl_21, zl_22, zl_23, zl_24, zl_25, zl_26, zl_27, zl_28, zl_29, zl_30, zl_31, zl_32, zl_36, zl_46, zl_48, zl_50, zl_57, zl_63, zl_64, zl_72, zl_97, zl_99, zl_100, zl_101, zl_122, zl_127, zl_200, zl_255, zl_406, zl_534, zl_540, zl_600, zl_9999, zl_33, zl_34, zl_35, zl_37, zl_38, zl_39, zl_40, zl_41, zl_42, zl_43, zl_44, zl_45, zl_47, zl_49, zl_52, zl_53, zl_54, zl_55, zl_58, zl_59, zl_60, zl_61, zl_62, zl_65, zl_70, zl_71, zl_98, zl_102, zl_103, zl_104, zl_105, zl_110, zl_111, zl_115, zl_120, zl_123, zl_126, zl_128, zl_256, zl_1000, zl_1024, zcon_inl, zcon_inr, Option.toList_some, Option.toList_none, List.cons_append, List.nil_append, List.append_nil, Nat.add_zero, zbind_some, zi_toNat, zi_lt, zi_inj, zi_add, zi_mul, zi_ne_zn, zn_ne_zi, zn_lt_zi, zi_lt_zn, Nat.not_lt_zero, false_or, if_true, if_false, true_or, or_false, show 0 < 2 by omega]
    rfl
  · simp (disch := first | assumption | omega) only [b166_0, ↓zn_l, zl_0, zl_1, zl_2, zl_3, zl_4, zl_5, zl_6, zl_7, zl_8, zl_9, zl_10, zl_11, zl_12, zl_13, zl_14, zl_15, zl_16, zl_17, zl_18, zl_19, zl_20, zl_21, zl_22, zl_23, zl_24, zl_25, zl_26, zl_27, zl_28, zl_29, zl_30, zl_31, zl_32, zl_36, zl_46, zl_48, zl_50, zl_57, zl_63, zl_64, zl_72, zl_97, zl_99, zl_100, zl_101, zl_122, zl_127, zl_200, zl_255, zl_406, zl_534, zl_540, zl_600, zl_9999, zl_33, zl_34, zl_35, zl_37, zl_38, zl_39, zl_40, zl_41, zl_42, zl_43, zl_44, zl_45, zl_47, zl_49, zl_52, zl_53, zl_54, zl_55, zl_58, zl_59, zl_60, zl_61, zl_62, zl_65, zl_70, zl_71, zl_98, zl_102, zl_103, zl_104, zl_105, zl_110, zl_111, zl_115, zl_120, zl_123, zl_126, zl_128, zl_256, zl_1000, zl_1024, zcon_inl, zcon_inr, Option.toList_some, Option.toList_none, List.cons_append, List.nil_append, List.append_nil, Nat.add_zero, zbind_some, zi_toNat, zi_lt, zi_inj, zi_add, zi_mul, zi_ne_zn, zn_ne_zi, zn_lt_zi, zi_lt_zn, Nat.not_lt_zero, false_or, if_true, if_false, true_or, or_false, show 1 < 2 by omega, Nat.one_ne_zero]
    rfl
theorem c166n {a : Int32} (h : a < zi 0 ∨ ¬ a < zi 2) : zev X 166 0 [.ref 0, .int a] [] (zHP D O, k) = some (.inr 2, (zHP D O, kt k)) := by
  rw [b166_0, zl_0, zl_2]
  by_cases h1 : a < zi 0
  · rw [if_pos h1]; rfl
  · rw [if_neg h1, if_neg (h.resolve_left h1)]; rfl
theorem zfarSv (s : Nat) : zFar (zSv s) 20 := Or.inr (by unfold zSv; omega)
theorem c165 {s : Nat} (I : zIv T) (h : D 20 6 = zi 1) (hs : s < 2) (hf : zFin (zT D (zSv s))) : zev X 165 0 [.ref 0, .int (zi s)] [] (zHP (zmt D 20 T) O, k) = some (.inl (some (.int (T 1 5))), (zHP (zmt (zmt (zw D (zSv s) 6 (zi 1)) (zSv s) T) 20 T) O, k)) := by
  have e28 := @c28a X D T O k (zSv s) (hmSv hs) (zfarSv s) (Or.inr h) hf (zIv_fin I)
  rw [h] at e28
  have e32 := @c32 X (zmt (zw D (zSv s) 6 (zi 1)) (zSv s) T) T O k 20 hm20
  have hq := hmSv hs
  simp (disch := first | assumption | omega) only [b165_0, c114, b165_4, c166, b165_9, e28, b165_16, e32, b165_23, ↓zn_l, zl_0, zl_1, zl_2, zl_3, zl_4, zl_5, zl_6, zl_7, zl_8, zl_9, zl_10, zl_11, zl_12, zl_13, zl_14, zl_15, zl_16, zl_17, zl_18, zl_19, zl_20, zl_21, zl_22, zl_23, zl_24, zl_25, zl_26, zl_27, zl_28, zl_29, zl_30, zl_31, zl_32, zl_36, zl_46, zl_48, zl_50, zl_57, zl_63, zl_64, zl_72, zl_97, zl_99, zl_100, zl_101, zl_122, zl_127, zl_200, zl_255, zl_406, zl_534, zl_540, zl_600, zl_9999, zl_33, zl_34, zl_35, zl_37, zl_38, zl_39, zl_40, zl_41, zl_42, zl_43, zl_44, zl_45, zl_47, zl_49, zl_52, zl_53, zl_54, zl_55, zl_58, zl_59, zl_60, zl_61, zl_62, zl_65, zl_70, zl_71, zl_98, zl_102, zl_103, zl_104, zl_105, zl_110, zl_111, zl_115, zl_120, zl_123, zl_126, zl_128, zl_256, zl_1000, zl_1024, zcon_inl, zcon_inr, Option.toList_some, Option.toList_none, List.cons_append, List.nil_append, List.append_nil, Nat.add_zero, zbind_some]
theorem c167 {s : Nat} (hT : zFin T) (hs : s < 2) (hl : D (zSv s) 6 = zi 1) (hf : zFin (zT D (zSv s))) : zev X 167 0 [.ref 0, .int (zi s), zJ] [] (zHP (zmt D 20 T) O, k) = some (.inl (some (.int (zT D (zSv s) 1 5))), (zHP (zmt (zw (zw D 20 6 (zi 1)) 59 2 (zi 0)) 20 (zT D (zSv s))) O, k)) := by
  have e28 := @c28b X D T O k (zSv s) (hmSv hs) (zfarSv s) (Or.inr hl) hf hT
  rw [hl] at e28
  have e1 : zmt D 20 T (zSv s) 6 = zi 1 := by rw [zmt_o (by unfold zSv; omega)]; exact hl
  have e32 := @c32 X (zw (zw D 20 6 (zi 1)) 59 2 (zi 0)) (zT D (zSv s)) O k 20 hm20
  have e12 : zw (zmt (zw D 20 6 (zi 1)) 20 (zT D (zSv s))) 59 2 (zi 0) = zmt (zw (zw D 20 6 (zi 1)) 59 2 (zi 0)) 20 (zT D (zSv s)) := zw_Mo (by omega)
  have hq := hmSv hs
  simp (disch := first | assumption | omega) only [b167_0, c166, b167_5, e1, zi_inj, Nat.one_ne_zero, if_false, e28, b167_32, b12_0, e12, b167_39, e32, b167_46, ↓zn_l, zl_0, zl_1, zl_2, zl_3, zl_4, zl_5, zl_6, zl_7, zl_8, zl_9, zl_10, zl_11, zl_12, zl_13, zl_14, zl_15, zl_16, zl_17, zl_18, zl_19, zl_20, zl_21, zl_22, zl_23, zl_24, zl_25, zl_26, zl_27, zl_28, zl_29, zl_30, zl_31, zl_32, zl_36, zl_46, zl_48, zl_50, zl_57, zl_63, zl_64, zl_72, zl_97, zl_99, zl_100, zl_101, zl_122, zl_127, zl_200, zl_255, zl_406, zl_534, zl_540, zl_600, zl_9999, zl_33, zl_34, zl_35, zl_37, zl_38, zl_39, zl_40, zl_41, zl_42, zl_43, zl_44, zl_45, zl_47, zl_49, zl_52, zl_53, zl_54, zl_55, zl_58, zl_59, zl_60, zl_61, zl_62, zl_65, zl_70, zl_71, zl_98, zl_102, zl_103, zl_104, zl_105, zl_110, zl_111, zl_115, zl_120, zl_123, zl_126, zl_128, zl_256, zl_1000, zl_1024, zcon_inl, zcon_inr, Option.toList_some, Option.toList_none, List.cons_append, List.nil_append, List.append_nil, Nat.add_zero, zbind_some]
theorem c167n1 {a : Int32} (h : a < zi 0 ∨ ¬ a < zi 2) : zev X 167 0 [.ref 0, .int a, zJ] [] (zHP D O, k) = some (.inr 2, (zHP D O, kt k)) := by
  rw [b167_0, c166n h]
  rfl
theorem c167n2 {s : Nat} (hs : s < 2) (hl : D (zSv s) 6 = zi 0) : zev X 167 0 [.ref 0, .int (zi s), zJ] [] (zHP (zmt D 20 T) O, k) = some (.inr 1, (zHP (zmt D 20 T) O, kt k)) := by
  have e1 : zmt D 20 T (zSv s) 6 = zi 0 := by rw [zmt_o (by unfold zSv; omega)]; exact hl
  have hq := hmSv hs
  simp (disch := first | assumption | omega) only [b167_0, c166, b167_5, e1, if_true, ↓zn_l, zl_0, zl_1, zl_2, zl_3, zl_4, zl_5, zl_6, zl_7, zl_8, zl_9, zl_10, zl_11, zl_12, zl_13, zl_14, zl_15, zl_16, zl_17, zl_18, zl_19, zl_20, zl_21, zl_22, zl_23, zl_24, zl_25, zl_26, zl_27, zl_28, zl_29, zl_30, zl_31, zl_32, zl_36, zl_46, zl_48, zl_50, zl_57, zl_63, zl_64, zl_72, zl_97, zl_99, zl_100, zl_101, zl_122, zl_127, zl_200, zl_255, zl_406, zl_534, zl_540, zl_600, zl_9999, zl_33, zl_34, zl_35, zl_37, zl_38, zl_39, zl_40, zl_41, zl_42, zl_43, zl_44, zl_45, zl_47, zl_49, zl_52, zl_53, zl_54, zl_55, zl_58, zl_59, zl_60, zl_61, zl_62, zl_65, zl_70, zl_71, zl_98, zl_102, zl_103, zl_104, zl_105, zl_110, zl_111, zl_115, zl_120, zl_123, zl_126, zl_128, zl_256, zl_1000, zl_1024, zcon_inl, zcon_inr, Option.toList_some, Option.toList_none, List.cons_append, List.nil_append, List.append_nil, Nat.add_zero, zbind_some]
  rfl
theorem zfar4 : zFar 4 20 := Or.inl (by omega)
theorem c138 {p g : Nat} {w : Bool} (I : zIv T) (h : D 20 6 = zi 1) (hf : zFin (zT D 4)) (hp : p < sNp T) (hg : g < sPgs T p) (he : sEnd T p = false) : zev X 138 0 [.ref 0, .int (zi p), .int (zi g), .int (zb w)] [] (zHP (zmt D 20 T) O, k) = some (.inl (some (.int (rTouch T p g w).1)), (zHP (zmt (zmt (zw D 4 6 (zi 1)) 4 (rTouch T p g w).2) 20 T) O, k)) := by
  have n2 := zIv_np6 I
  have hp6 : p < 6 := by omega
  obtain ⟨g1, g2⟩ := zIv_pg I hp6
  have e121 := @c121 X D T O k p g (sNp T) h (zIv_np I) n2 hp g1 g2 hg
  have e139 := @c139 X D T O k p hp6 he
  have e28 := @c28a X D T O k 4 hm4 zfar4 (Or.inr h) hf (zIv_fin I)
  rw [h, zmt_comm zfar4] at e28
  have e49 := @c49 X (zmt (zw D 4 6 (zi 1)) 20 T) T O k 4 p g w hm4 (by omega) hp6 (zIv_at I _ (by omega)) (zIv_nf I) (zIv_nf64 I)
  rw [zmt_comm (m := 20) (m2 := 4) (T := T) (T' := (rTouch T p g w).2) zfar4.symm] at e49
  simp (disch := first | assumption | omega) only [b138_0, e121, b138_6, e139, b138_11, e28, b138_22, e49, b138_32, ↓zn_l, zl_0, zl_1, zl_2, zl_3, zl_4, zl_5, zl_6, zl_7, zl_8, zl_9, zl_10, zl_11, zl_12, zl_13, zl_14, zl_15, zl_16, zl_17, zl_18, zl_19, zl_20, zl_21, zl_22, zl_23, zl_24, zl_25, zl_26, zl_27, zl_28, zl_29, zl_30, zl_31, zl_32, zl_36, zl_46, zl_48, zl_50, zl_57, zl_63, zl_64, zl_72, zl_97, zl_99, zl_100, zl_101, zl_122, zl_127, zl_200, zl_255, zl_406, zl_534, zl_540, zl_600, zl_9999, zl_33, zl_34, zl_35, zl_37, zl_38, zl_39, zl_40, zl_41, zl_42, zl_43, zl_44, zl_45, zl_47, zl_49, zl_52, zl_53, zl_54, zl_55, zl_58, zl_59, zl_60, zl_61, zl_62, zl_65, zl_70, zl_71, zl_98, zl_102, zl_103, zl_104, zl_105, zl_110, zl_111, zl_115, zl_120, zl_123, zl_126, zl_128, zl_256, zl_1000, zl_1024, zcon_inl, zcon_inr, Option.toList_some, Option.toList_none, List.cons_append, List.nil_append, List.append_nil, Nat.add_zero, zbind_some]
end
