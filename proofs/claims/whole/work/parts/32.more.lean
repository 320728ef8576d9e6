/-! Clearing a machine, a program more, a program's end, a page taken. -/
section
variable {X : ZX} {D T : ZD2} {O : ZO2} {k : Nat × Nat × Nat} {m : Nat}
theorem zrow_M0 (R : Nat → Int32) : zrow (zmt D m T) (m + 2) R = zmt D m (zrow T 0 R) := by
  funext a i; unfold zmt zrow; (repeat' split) <;> first | rfl | (exfalso; omega) | simp_all
theorem zrow_M1 (R : Nat → Int32) : zrow (zmt D m T) (m + 4) R = zmt D m (zrow T 1 R) := by
  funext a i; unfold zmt zrow; (repeat' split) <;> first | rfl | (exfalso; omega) | simp_all
theorem zrow_M2 (R : Nat → Int32) : zrow (zmt D m T) (m + 6) R = zmt D m (zrow T 2 R) := by
  funext a i; unfold zmt zrow; (repeat' split) <;> first | rfl | (exfalso; omega) | simp_all
theorem zrow_M3 (R : Nat → Int32) : zrow (zmt D m T) (m + 8) R = zmt D m (zrow T 3 R) := by
  funext a i; unfold zmt zrow; (repeat' split) <;> first | rfl | (exfalso; omega) | simp_all
theorem zrow_M4 (R : Nat → Int32) : zrow (zmt D m T) (m + 10) R = zmt D m (zrow T 4 R) := by
  funext a i; unfold zmt zrow; (repeat' split) <;> first | rfl | (exfalso; omega) | simp_all
theorem zrow_M5 (R : Nat → Int32) : zrow (zmt D m T) (m + 12) R = zmt D m (zrow T 5 R) := by
  funext a i; unfold zmt zrow; (repeat' split) <;> first | rfl | (exfalso; omega) | simp_all
theorem tc0 (hm : zisM m) (hf : ∀ j, 5 ≤ j → T 0 j = 0) : zev X 91 0 [.ref (m + 1)] [] (zHP (zmt D m T) O, k) = some (.inl none, (zHP (zmt D m (zrow T 0 fun _ => 0)) O, k)) := by
  have := c91 (X := X) (D := zmt D m T) (O := O) (k := k) hm.2.1 (by omega) (by intro j hj; rw [Nat.add_assoc, zmt_0]; exact hf j hj)
  rw [Nat.add_assoc, zrow_M0] at this
  exact this
theorem tc1 (hm : zisM m) (hf : ∀ j, 15 ≤ j → T 1 j = 0) : zev X 91 0 [.ref (m + 3)] [] (zHP (zmt D m T) O, k) = some (.inl none, (zHP (zmt D m (zrow T 1 fun _ => 0)) O, k)) := by
  have := c91 (X := X) (D := zmt D m T) (O := O) (k := k) hm.2.2.1 (by omega) (by intro j hj; rw [Nat.add_assoc, zmt_1]; exact hf j hj)
  rw [Nat.add_assoc, zrow_M1] at this
  exact this
theorem tc2 (hm : zisM m) (hf : ∀ j, 72 ≤ j → T 2 j = 0) : zev X 91 0 [.ref (m + 5)] [] (zHP (zmt D m T) O, k) = some (.inl none, (zHP (zmt D m (zrow T 2 fun _ => 0)) O, k)) := by
  have := c91 (X := X) (D := zmt D m T) (O := O) (k := k) hm.2.2.2.1 (by omega) (by intro j hj; rw [Nat.add_assoc, zmt_2]; exact hf j hj)
  rw [Nat.add_assoc, zrow_M2] at this
  exact this
theorem tc3 (hm : zisM m) (hf : ∀ j, 360 ≤ j → T 3 j = 0) : zev X 91 0 [.ref (m + 7)] [] (zHP (zmt D m T) O, k) = some (.inl none, (zHP (zmt D m (zrow T 3 fun _ => 0)) O, k)) := by
  have := c91 (X := X) (D := zmt D m T) (O := O) (k := k) hm.2.2.2.2.1 (by omega) (by intro j hj; rw [Nat.add_assoc, zmt_3]; exact hf j hj)
  rw [Nat.add_assoc, zrow_M3] at this
  exact this
theorem tc4 (hm : zisM m) (hf : ∀ j, 192 ≤ j → T 4 j = 0) : zev X 91 0 [.ref (m + 9)] [] (zHP (zmt D m T) O, k) = some (.inl none, (zHP (zmt D m (zrow T 4 fun _ => 0)) O, k)) := by
  have := c91 (X := X) (D := zmt D m T) (O := O) (k := k) hm.2.2.2.2.2.1 (by omega) (by intro j hj; rw [Nat.add_assoc, zmt_4]; exact hf j hj)
  rw [Nat.add_assoc, zrow_M4] at this
  exact this
theorem tc5 (hm : zisM m) (hf : ∀ j, 6 ≤ j → T 5 j = 0) : zev X 91 0 [.ref (m + 11)] [] (zHP (zmt D m T) O, k) = some (.inl none, (zHP (zmt D m (zrow T 5 fun _ => 0)) O, k)) := by
  have := c91 (X := X) (D := zmt D m T) (O := O) (k := k) hm.2.2.2.2.2.2 (by omega) (by intro j hj; rw [Nat.add_assoc, zmt_5]; exact hf j hj)
  rw [Nat.add_assoc, zrow_M5] at this
  exact this
theorem tf3_0 {v : Int32} (hm : zisM m) : zev X 92 0 [.ref (m + 7), .int (zi 0), .int v, zJ] [] (zHP (zmt D m T) O, k) = some (.inl none, (zHP (zmt D m (zrow T 3 fun j => if j % 5 = 0 ∧ j < 360 then v else T 3 j)) O, k)) := by
  rw [b92_0, zl_0]
  have key : ∀ d i (T' : ZD2), i + d = 72 → T' = zrow T 3 (fun j => if j % 5 = 0 ∧ j < 5 * i then v else T 3 j) → zev X 92 2 [.ref (m + 7), .int (zi 0), .int v, .int (zi i)] [] (zHP (zmt D m T') O, k) = some (.inl none, (zHP (zmt D m (zrow T 3 fun j => if j % 5 = 0 ∧ j < 360 then v else T 3 j)) O, k)) := by
    intro d
    induction d with
    | zero =>
      intro i T' h hT
      have h' : i = 72 := by omega
      subst h'
      refine (b92_2 hm.2.2.2.2.1).trans ?_
      simp (disch := first | assumption | omega) only [↓zn_l, zl_0, zl_1, zl_2, zl_3, zl_4, zl_5, zl_6, zl_7, zl_8, zl_9, zl_10, zl_11, zl_12, zl_13, zl_14, zl_15, zl_16, zl_17, zl_18, zl_19, zl_20, zl_21, zl_22, zl_23, zl_24, zl_25, zl_26, zl_27, zl_28, zl_29, zl_30, zl_31, zl_32, zl_36, zl_46, zl_48, zl_50, zl_57, zl_63, zl_64, zl_72, zl_97, zl_99, zl_100, zl_101, zl_122, zl_127, zl_200, zl_255, zl_406, zl_534, zl_540, zl_600, zl_9999, zl_33, zl_34, zl_35, zl_37, zl_38, zl_39, zl_40, zl_41, zl_42, zl_43, zl_44, zl_45, zl_47, zl_49, zl_52, zl_53, zl_54, zl_55, zl_58, zl_59, zl_60, zl_61, zl_62, zl_65, zl_70, zl_71, zl_98, zl_102, zl_103, zl_104, zl_105, zl_110, zl_111, zl_115, zl_120, zl_123, zl_126, zl_128, zl_256, zl_1000, zl_1024, zcon_inl, zcon_inr, Option.toList_some, Option.toList_none, List.cons_append, List.nil_append, List.append_nil, Nat.add_zero, zbind_some, zi_toNat, zi_lt, zi_inj, zi_add, zi_mul, zi_ne_zn, zn_ne_zi, zn_lt_zi, zi_lt_zn, Nat.not_lt_zero, false_or, if_true, if_false, true_or, or_false, Nat.lt_irrefl]
      rw [hT]
    | succ d ih =>
      intro i T' h hT
      have hi : i < 72 := by omega
      refine (b92_2 hm.2.2.2.2.1).trans ?_
      simp (disch := first | assumption | omega) only [↓zn_l, zl_0, zl_1, zl_2, zl_3, zl_4, zl_5, zl_6, zl_7, zl_8, zl_9, zl_10, zl_11, zl_12, zl_13, zl_14, zl_15, zl_16, zl_17, zl_18, zl_19, zl_20, zl_21, zl_22, zl_23, zl_24, zl_25, zl_26, zl_27, zl_28, zl_29, zl_30, zl_31, zl_32, zl_36, zl_46, zl_48, zl_50, zl_57, zl_63, zl_64, zl_72, zl_97, zl_99, zl_100, zl_101, zl_122, zl_127, zl_200, zl_255, zl_406, zl_534, zl_540, zl_600, zl_9999, zl_33, zl_34, zl_35, zl_37, zl_38, zl_39, zl_40, zl_41, zl_42, zl_43, zl_44, zl_45, zl_47, zl_49, zl_52, zl_53, zl_54, zl_55, zl_58, zl_59, zl_60, zl_61, zl_62, zl_65, zl_70, zl_71, zl_98, zl_102, zl_103, zl_104, zl_105, zl_110, zl_111, zl_115, zl_120, zl_123, zl_126, zl_128, zl_256, zl_1000, zl_1024, zcon_inl, zcon_inr, Option.toList_some, Option.toList_none, List.cons_append, List.nil_append, List.append_nil, Nat.add_zero, zbind_some, zi_toNat, zi_lt, zi_inj, zi_add, zi_mul, zi_ne_zn, zn_ne_zi, zn_lt_zi, zi_lt_zn, Nat.not_lt_zero, false_or, if_true, if_false, true_or, or_false, hi, tp3, b92_17]
      refine ih (i + 1) _ (by omega) ?_
      rw [zw_zrow, hT, zrow_zrow, zrow_self]
      congr 1
      funext j
      by_cases h1 : j = (5 * i)
      · subst h1
        rw [if_pos rfl, if_pos (by omega)]
      · rw [if_neg h1]
        by_cases h2 : j % 5 = 0 ∧ j < 5 * i
        · rw [if_pos h2, if_pos (by omega)]
        · rw [if_neg h2, if_neg (by omega)]
  refine key 72 0 T (by omega) ?_
  funext a j
  unfold zrow
  split
  · rename_i h
    rw [h]
    simp
  · rfl
theorem tf3_3 {v : Int32} (hm : zisM m) : zev X 92 0 [.ref (m + 7), .int (zi 3), .int v, zJ] [] (zHP (zmt D m T) O, k) = some (.inl none, (zHP (zmt D m (zrow T 3 fun j => if j % 5 = 3 ∧ j < 360 then v else T 3 j)) O, k)) := by
  rw [b92_0, zl_0]
  have key : ∀ d i (T' : ZD2), i + d = 72 → T' = zrow T 3 (fun j => if j % 5 = 3 ∧ j < 5 * i then v else T 3 j) → zev X 92 2 [.ref (m + 7), .int (zi 3), .int v, .int (zi i)] [] (zHP (zmt D m T') O, k) = some (.inl none, (zHP (zmt D m (zrow T 3 fun j => if j % 5 = 3 ∧ j < 360 then v else T 3 j)) O, k)) := by
    intro d
    induction d with
    | zero =>
      intro i T' h hT
      have h' : i = 72 := by omega
      subst h'
      refine (b92_2 hm.2.2.2.2.1).trans ?_
      simp (disch := first | assumption | omega) only [↓zn_l, zl_0, zl_1, zl_2, zl_3, zl_4, zl_5, zl_6, zl_7, zl_8, zl_9, zl_10, zl_11, zl_12, zl_13, zl_14, zl_15, zl_16, zl_17, zl_18, zl_19, zl_20, zl_21, zl_22, zl_23, zl_24, zl_25, zl_26, zl_27, zl_28, zl_29, zl_30, zl_31, zl_32, zl_36, zl_46, zl_48, zl_50, zl_57, zl_63, zl_64, zl_72, zl_97, zl_99, zl_100, zl_101, zl_122, zl_127, zl_200, zl_255, zl_406, zl_534, zl_540, zl_600, zl_9999, zl_33, zl_34, zl_35, zl_37, zl_38, zl_39, zl_40, zl_41, zl_42, zl_43, zl_44, zl_45, zl_47, zl_49, zl_52, zl_53, zl_54, zl_55, zl_58, zl_59, zl_60, zl_61, zl_62, zl_65, zl_70, zl_71, zl_98, zl_102, zl_103, zl_104, zl_105, zl_110, zl_111, zl_115, zl_120, zl_123, zl_126, zl_128, zl_256, zl_1000, zl_1024, zcon_inl, zcon_inr, Option.toList_some, Option.toList_none, List.cons_append, List.nil_append, List.append_nil, Nat.add_zero, zbind_some, zi_toNat, zi_lt, zi_inj, zi_add, zi_mul, zi_ne_zn, zn_ne_zi, zn_lt_zi, zi_lt_zn, Nat.not_lt_zero, false_or, if_true, if_false, true_or, or_false, Nat.lt_irrefl]
      rw [hT]
    | succ d ih =>
      intro i T' h hT
      have hi : i < 72 := by omega
      refine (b92_2 hm.2.2.2.2.1).trans ?_
      simp (disch := first | assumption | omega) only [↓zn_l, zl_0, zl_1, zl_2, zl_3, zl_4, zl_5, zl_6, zl_7, zl_8, zl_9, zl_10, zl_11, zl_12, zl_13, zl_14, zl_15, zl_16, zl_17, zl_18, zl_19, zl_20, zl_21, zl_22, zl_23, zl_24, zl_25, zl_26, zl_27, zl_28, zl_29, zl_30, zl_31, zl_32, zl_36, zl_46, zl_48, zl_50, zl_57, zl_63, zl_64, zl_72, zl_97, zl_99, zl_100, zl_101, zl_122, zl_127, zl_200, zl_255, zl_406, zl_534, zl_540, zl_600, zl_9999, zl_33, zl_34, zl_35, zl_37, zl_38, zl_39, zl_40, zl_41, zl_42, zl_43, zl_44, zl_45, zl_47, zl_49, zl_52, zl_53, zl_54, zl_55, zl_58, zl_59, zl_60, zl_61, zl_62, zl_65, zl_70, zl_71, zl_98, zl_102, zl_103, zl_104, zl_105, zl_110, zl_111, zl_115, zl_120, zl_123, zl_126, zl_128, zl_256, zl_1000, zl_1024, zcon_inl, zcon_inr, Option.toList_some, Option.toList_none, List.cons_append, List.nil_append, List.append_nil, Nat.add_zero, zbind_some, zi_toNat, zi_lt, zi_inj, zi_add, zi_mul, zi_ne_zn, zn_ne_zi, zn_lt_zi, zi_lt_zn, Nat.not_lt_zero, false_or, if_true, if_false, true_or, or_false, hi, tp3, b92_17]
      refine ih (i + 1) _ (by omega) ?_
      rw [zw_zrow, hT, zrow_zrow, zrow_self]
      congr 1
      funext j
      by_cases h1 : j = (5 * i + 3)
      · subst h1
        rw [if_pos rfl, if_pos (by omega)]
      · rw [if_neg h1]
        by_cases h2 : j % 5 = 3 ∧ j < 5 * i
        · rw [if_pos h2, if_pos (by omega)]
        · rw [if_neg h2, if_neg (by omega)]
  refine key 72 0 T (by omega) ?_
  funext a j
  unfold zrow
  split
  · rename_i h
    rw [h]
    simp
  · rfl
theorem tf3_4 {v : Int32} (hm : zisM m) : zev X 92 0 [.ref (m + 7), .int (zi 4), .int v, zJ] [] (zHP (zmt D m T) O, k) = some (.inl none, (zHP (zmt D m (zrow T 3 fun j => if j % 5 = 4 ∧ j < 360 then v else T 3 j)) O, k)) := by
  rw [b92_0, zl_0]
  have key : ∀ d i (T' : ZD2), i + d = 72 → T' = zrow T 3 (fun j => if j % 5 = 4 ∧ j < 5 * i then v else T 3 j) → zev X 92 2 [.ref (m + 7), .int (zi 4), .int v, .int (zi i)] [] (zHP (zmt D m T') O, k) = some (.inl none, (zHP (zmt D m (zrow T 3 fun j => if j % 5 = 4 ∧ j < 360 then v else T 3 j)) O, k)) := by
    intro d
    induction d with
    | zero =>
      intro i T' h hT
      have h' : i = 72 := by omega
      subst h'
      refine (b92_2 hm.2.2.2.2.1).trans ?_
      simp (disch := first | assumption | omega) only [↓zn_l, zl_0, zl_1, zl_2, zl_3, zl_4, zl_5, zl_6, zl_7, zl_8, zl_9, zl_10, zl_11, zl_12, zl_13, zl_14, zl_15, zl_16, zl_17, zl_18, zl_19, zl_20, zl_21, zl_22, zl_23, zl_24, zl_25, zl_26, zl_27, zl_28, zl_29, zl_30, zl_31, zl_32, zl_36, zl_46, zl_48, zl_50, zl_57, zl_63, zl_64, zl_72, zl_97, zl_99, zl_100, zl_101, zl_122, zl_127, zl_200, zl_255, zl_406, zl_534, zl_540, zl_600, zl_9999, zl_33, zl_34, zl_35, zl_37, zl_38, zl_39, zl_40, zl_41, zl_42, zl_43, zl_44, zl_45, zl_47, zl_49, zl_52, zl_53, zl_54, zl_55, zl_58, zl_59, zl_60, zl_61, zl_62, zl_65, zl_70, zl_71, zl_98, zl_102, zl_103, zl_104, zl_105, zl_110, zl_111, zl_115, zl_120, zl_123, zl_126, zl_128, zl_256, zl_1000, zl_1024, zcon_inl, zcon_inr, Option.toList_some, Option.toList_none, List.cons_append, List.nil_append, List.append_nil, Nat.add_zero, zbind_some, zi_toNat, zi_lt, zi_inj, zi_add, zi_mul, zi_ne_zn, zn_ne_zi, zn_lt_zi, zi_lt_zn, Nat.not_lt_zero, false_or, if_true, if_false, true_or, or_false, Nat.lt_irrefl]
      rw [hT]
    | succ d ih =>
      intro i T' h hT
      have hi : i < 72 := by omega
      refine (b92_2 hm.2.2.2.2.1).trans ?_
      simp (disch := first | assumption | omega) only [↓zn_l, zl_0, zl_1, zl_2, zl_3, zl_4, zl_5, zl_6, zl_7, zl_8, zl_9, zl_10, zl_11, zl_12, zl_13, zl_14, zl_15, zl_16, zl_17, zl_18, zl_19, zl_20, zl_21, zl_22, zl_23, zl_24, zl_25, zl_26, zl_27, zl_28, zl_29, zl_30, zl_31, zl_32, zl_36, zl_46, zl_48, zl_50, zl_57, zl_63, zl_64, zl_72, zl_97, zl_99, zl_100, zl_101, zl_122, zl_127, zl_200, zl_255, zl_406, zl_534, zl_540, zl_600, zl_9999, zl_33, zl_34, zl_35, zl_37, zl_38, zl_39, zl_40, zl_41, zl_42, zl_43, zl_44, zl_45, zl_47, zl_49, zl_52, zl_53, zl_54, zl_55, zl_58, zl_59, zl_60, zl_61, zl_62, zl_65, zl_70, zl_71, zl_98, zl_102, zl_103, zl_104, zl_105, zl_110, zl_111, zl_115, zl_120, zl_123, zl_126, zl_128, zl_256, zl_1000, zl_1024, zcon_inl, zcon_inr, Option.toList_some, Option.toList_none, List.cons_append, List.nil_append, List.append_nil, Nat.add_zero, zbind_some, zi_toNat, zi_lt, zi_inj, zi_add, zi_mul, zi_ne_zn, zn_ne_zi, zn_lt_zi, zi_lt_zn, Nat.not_lt_zero, false_or, if_true, if_false, true_or, or_false, hi, tp3, b92_17]
      refine ih (i + 1) _ (by omega) ?_
      rw [zw_zrow, hT, zrow_zrow, zrow_self]
      congr 1
      funext j
      by_cases h1 : j = (5 * i + 4)
      · subst h1
        rw [if_pos rfl, if_pos (by omega)]
      · rw [if_neg h1]
        by_cases h2 : j % 5 = 4 ∧ j < 5 * i
        · rw [if_pos h2, if_pos (by omega)]
        · rw [if_neg h2, if_neg (by omega)]
  refine key 72 0 T (by omega) ?_
  funext a j
  unfold zrow
  split
  · rename_i h
    rw [h]
    simp
  · rfl
theorem tf4_2 {v : Int32} (hm : zisM m) : zev X 92 0 [.ref (m + 9), .int (zi 2), .int v, zJ] [] (zHP (zmt D m T) O, k) = some (.inl none, (zHP (zmt D m (zrow T 4 fun j => if j % 3 = 2 ∧ j < 192 then v else T 4 j)) O, k)) := by
  rw [b92_0, zl_0]
  have key : ∀ d i (T' : ZD2), i + d = 64 → T' = zrow T 4 (fun j => if j % 3 = 2 ∧ j < 3 * i then v else T 4 j) → zev X 92 2 [.ref (m + 9), .int (zi 2), .int v, .int (zi i)] [] (zHP (zmt D m T') O, k) = some (.inl none, (zHP (zmt D m (zrow T 4 fun j => if j % 3 = 2 ∧ j < 192 then v else T 4 j)) O, k)) := by
    intro d
    induction d with
    | zero =>
      intro i T' h hT
      have h' : i = 64 := by omega
      subst h'
      refine (b92_2 hm.2.2.2.2.2.1).trans ?_
      simp (disch := first | assumption | omega) only [↓zn_l, zl_0, zl_1, zl_2, zl_3, zl_4, zl_5, zl_6, zl_7, zl_8, zl_9, zl_10, zl_11, zl_12, zl_13, zl_14, zl_15, zl_16, zl_17, zl_18, zl_19, zl_20, zl_21, zl_22, zl_23, zl_24, zl_25, zl_26, zl_27, zl_28, zl_29, zl_30, zl_31, zl_32, zl_36, zl_46, zl_48, zl_50, zl_57, zl_63, zl_64, zl_72, zl_97, zl_99, zl_100, zl_101, zl_122, zl_127, zl_200, zl_255, zl_406, zl_534, zl_540, zl_600, zl_9999, zl_33, zl_34, zl_35, zl_37, zl_38, zl_39, zl_40, zl_41, zl_42, zl_43, zl_44, zl_45, zl_47, zl_49, zl_52, zl_53, zl_54, zl_55, zl_58, zl_59, zl_60, zl_61, zl_62, zl_65, zl_70, zl_71, zl_98, zl_102, zl_103, zl_104, zl_105, zl_110, zl_111, zl_115, zl_120, zl_123, zl_126, zl_128, zl_256, zl_1000, zl_1024, zcon_inl, zcon_inr, Option.toList_some, Option.toList_none, List.cons_append, List.nil_append, List.append_nil, Nat.add_zero, zbind_some, zi_toNat, zi_lt, zi_inj, zi_add, zi_mul, zi_ne_zn, zn_ne_zi, zn_lt_zi, zi_lt_zn, Nat.not_lt_zero, false_or, if_true, if_false, true_or, or_false, Nat.lt_irrefl]
      rw [hT]
    | succ d ih =>
      intro i T' h hT
      have hi : i < 64 := by omega
      refine (b92_2 hm.2.2.2.2.2.1).trans ?_
      simp (disch := first | assumption | omega) only [↓zn_l, zl_0, zl_1, zl_2, zl_3, zl_4, zl_5, zl_6, zl_7, zl_8, zl_9, zl_10, zl_11, zl_12, zl_13, zl_14, zl_15, zl_16, zl_17, zl_18, zl_19, zl_20, zl_21, zl_22, zl_23, zl_24, zl_25, zl_26, zl_27, zl_28, zl_29, zl_30, zl_31, zl_32, zl_36, zl_46, zl_48, zl_50, zl_57, zl_63, zl_64, zl_72, zl_97, zl_99, zl_100, zl_101, zl_122, zl_127, zl_200, zl_255, zl_406, zl_534, zl_540, zl_600, zl_9999, zl_33, zl_34, zl_35, zl_37, zl_38, zl_39, zl_40, zl_41, zl_42, zl_43, zl_44, zl_45, zl_47, zl_49, zl_52, zl_53, zl_54, zl_55, zl_58, zl_59, zl_60, zl_61, zl_62, zl_65, zl_70, zl_71, zl_98, zl_102, zl_103, zl_104, zl_105, zl_110, zl_111, zl_115, zl_120, zl_123, zl_126, zl_128, zl_256, zl_1000, zl_1024, zcon_inl, zcon_inr, Option.toList_some, Option.toList_none, List.cons_append, List.nil_append, List.append_nil, Nat.add_zero, zbind_some, zi_toNat, zi_lt, zi_inj, zi_add, zi_mul, zi_ne_zn, zn_ne_zi, zn_lt_zi, zi_lt_zn, Nat.not_lt_zero, false_or, if_true, if_false, true_or, or_false, hi, tp4, b92_17]
      refine ih (i + 1) _ (by omega) ?_
      rw [zw_zrow, hT, zrow_zrow, zrow_self]
      congr 1
      funext j
      by_cases h1 : j = (3 * i + 2)
      · subst h1
        rw [if_pos rfl, if_pos (by omega)]
      · rw [if_neg h1]
        by_cases h2 : j % 3 = 2 ∧ j < 3 * i
        · rw [if_pos h2, if_pos (by omega)]
        · rw [if_neg h2, if_neg (by omega)]
  refine key 64 0 T (by omega) ?_
  funext a j
  unfold zrow
  split
  · rename_i h
    rw [h]
    simp
  · rfl
theorem tf5_0 {v : Int32} (hm : zisM m) : zev X 92 0 [.ref (m + 11), .int (zi 0), .int v, zJ] [] (zHP (zmt D m T) O, k) = some (.inl none, (zHP (zmt D m (zrow T 5 fun j => if j % 1 = 0 ∧ j < 6 then v else T 5 j)) O, k)) := by
  rw [b92_0, zl_0]
  have key : ∀ d i (T' : ZD2), i + d = 6 → T' = zrow T 5 (fun j => if j % 1 = 0 ∧ j < 1 * i then v else T 5 j) → zev X 92 2 [.ref (m + 11), .int (zi 0), .int v, .int (zi i)] [] (zHP (zmt D m T') O, k) = some (.inl none, (zHP (zmt D m (zrow T 5 fun j => if j % 1 = 0 ∧ j < 6 then v else T 5 j)) O, k)) := by
    intro d
    induction d with
    | zero =>
      intro i T' h hT
      have h' : i = 6 := by omega
      subst h'
      refine (b92_2 hm.2.2.2.2.2.2).trans ?_
      simp (disch := first | assumption | omega) only [↓zn_l, zl_0, zl_1, zl_2, zl_3, zl_4, zl_5, zl_6, zl_7, zl_8, zl_9, zl_10, zl_11, zl_12, zl_13, zl_14, zl_15, zl_16, zl_17, zl_18, zl_19, zl_20, zl_21, zl_22, zl_23, zl_24, zl_25, zl_26, zl_27, zl_28, zl_29, zl_30, zl_31, zl_32, zl_36, zl_46, zl_48, zl_50, zl_57, zl_63, zl_64, zl_72, zl_97, zl_99, zl_100, zl_101, zl_122, zl_127, zl_200, zl_255, zl_406, zl_534, zl_540, zl_600, zl_9999, zl_33, zl_34, zl_35, zl_37, zl_38, zl_39, zl_40, zl_41, zl_42, zl_43, zl_44, zl_45, zl_47, zl_49, zl_52, zl_53, zl_54, zl_55, zl_58, zl_59, zl_60, zl_61, zl_62, zl_65, zl_70, zl_71, zl_98, zl_102, zl_103, zl_104, zl_105, zl_110, zl_111, zl_115, zl_120, zl_123, zl_126, zl_128, zl_256, zl_1000, zl_1024, zcon_inl, zcon_inr, Option.toList_some, Option.toList_none, List.cons_append, List.nil_append, List.append_nil, Nat.add_zero, zbind_some, zi_toNat, zi_lt, zi_inj, zi_add, zi_mul, zi_ne_zn, zn_ne_zi, zn_lt_zi, zi_lt_zn, Nat.not_lt_zero, false_or, if_true, if_false, true_or, or_false, Nat.lt_irrefl]
      rw [hT]
    | succ d ih =>
      intro i T' h hT
      have hi : i < 6 := by omega
      refine (b92_2 hm.2.2.2.2.2.2).trans ?_
      simp (disch := first | assumption | omega) only [↓zn_l, zl_0, zl_1, zl_2, zl_3, zl_4, zl_5, zl_6, zl_7, zl_8, zl_9, zl_10, zl_11, zl_12, zl_13, zl_14, zl_15, zl_16, zl_17, zl_18, zl_19, zl_20, zl_21, zl_22, zl_23, zl_24, zl_25, zl_26, zl_27, zl_28, zl_29, zl_30, zl_31, zl_32, zl_36, zl_46, zl_48, zl_50, zl_57, zl_63, zl_64, zl_72, zl_97, zl_99, zl_100, zl_101, zl_122, zl_127, zl_200, zl_255, zl_406, zl_534, zl_540, zl_600, zl_9999, zl_33, zl_34, zl_35, zl_37, zl_38, zl_39, zl_40, zl_41, zl_42, zl_43, zl_44, zl_45, zl_47, zl_49, zl_52, zl_53, zl_54, zl_55, zl_58, zl_59, zl_60, zl_61, zl_62, zl_65, zl_70, zl_71, zl_98, zl_102, zl_103, zl_104, zl_105, zl_110, zl_111, zl_115, zl_120, zl_123, zl_126, zl_128, zl_256, zl_1000, zl_1024, zcon_inl, zcon_inr, Option.toList_some, Option.toList_none, List.cons_append, List.nil_append, List.append_nil, Nat.add_zero, zbind_some, zi_toNat, zi_lt, zi_inj, zi_add, zi_mul, zi_ne_zn, zn_ne_zi, zn_lt_zi, zi_lt_zn, Nat.not_lt_zero, false_or, if_true, if_false, true_or, or_false, hi, tp5, b92_17]
      refine ih (i + 1) _ (by omega) ?_
      rw [zw_zrow, hT, zrow_zrow, zrow_self]
      congr 1
      funext j
      by_cases h1 : j = i
      · subst h1
        rw [if_pos rfl, if_pos (by omega)]
      · rw [if_neg h1]
        by_cases h2 : j % 1 = 0 ∧ j < 1 * i
        · rw [if_pos h2, if_pos (by omega)]
        · rw [if_neg h2, if_neg (by omega)]
  refine key 6 0 T (by omega) ?_
  funext a j
  unfold zrow
  split
  · rename_i h
    rw [h]
    simp
  · rfl
/-- a machine that was cleared -/
def zTc : ZD2 := fun t j => if t = 3 ∧ j < 360 ∧ (j % 5 = 0 ∨ j % 5 = 3 ∨ j % 5 = 4) then zn else if t = 4 ∧ j < 192 ∧ j % 3 = 2 then zn else if t = 5 ∧ j < 6 then zn else zi 0
theorem zmt_congr {T T' : ZD2} (h : ∀ t, t < 6 → T t = T' t) : zmt D m T = zmt D m T' := by
  funext a j
  unfold zmt
  rw [h 0 (by omega), h 1 (by omega), h 2 (by omega), h 3 (by omega), h 4 (by omega), h 5 (by omega)]
theorem c17 (hm : zisM m) (hf : zFin T) : zev X 17 0 [.ref m] [] (zHP (zmt D m T) O, k) = some (.inl none, (zHP (zmt (zw D m 6 (zi 0)) m zTc) O, k)) := by
  have f0 := hf 0 (by omega)
  have f1 := hf 1 (by omega)
  have f2 := hf 2 (by omega)
  have f3 := hf 3 (by omega)
  have f4 := hf 4 (by omega)
  have f5 := hf 5 (by omega)
  have e0 : zw (zmt D m T) m 6 (zi 0) = zmt (zw D m 6 (zi 0)) m T := zw_Mo (by omega)
  simp only [zLn] at f0 f1 f2 f3 f4 f5
  rw [b17_0 hm, zl_0, e0, tc0 hm f0, zcon_inl]
  show zev X 17 12 _ [] _ = _
  rw [b17_12 hm, tc1 hm (fun j hj => by simp (disch := first | assumption | omega) only [zrow_ne]; exact f1 j hj), zcon_inl]
  show zev X 17 19 _ [] _ = _
  rw [b17_19 hm, tc2 hm (fun j hj => by simp (disch := first | assumption | omega) only [zrow_ne]; exact f2 j hj), zcon_inl]
  show zev X 17 26 _ [] _ = _
  rw [b17_26 hm, tc3 hm (fun j hj => by simp (disch := first | assumption | omega) only [zrow_ne]; exact f3 j hj), zcon_inl]
  show zev X 17 33 _ [] _ = _
  rw [b17_33 hm, zn_l, zl_0, tf3_0 hm, zcon_inl]
  show zev X 17 42 _ [] _ = _
  rw [b17_42 hm, zn_l, zl_3, tf3_3 hm, zcon_inl]
  show zev X 17 51 _ [] _ = _
  rw [b17_51 hm, zn_l, zl_4, tf3_4 hm, zcon_inl]
  show zev X 17 60 _ [] _ = _
  rw [b17_60 hm, tc4 hm (fun j hj => by simp (disch := first | assumption | omega) only [zrow_ne]; exact f4 j hj), zcon_inl]
  show zev X 17 67 _ [] _ = _
  rw [b17_67 hm, zn_l, zl_2, tf4_2 hm, zcon_inl]
  show zev X 17 76 _ [] _ = _
  rw [b17_76 hm, zn_l, zl_0, tf5_0 hm, zcon_inl]
  show zev X 17 85 _ [] _ = _
  rw [b17_85]
  congr 4
  apply zmt_congr
  intro t ht
  funext j
  rcases (by omega : t = 0 ∨ t = 1 ∨ t = 2 ∨ t = 3 ∨ t = 4 ∨ t = 5) with rfl | rfl | rfl | rfl | rfl | rfl
  · simp (disch := first | assumption | omega) only [zrow_ne, zrow_self]; rfl
  · simp (disch := first | assumption | omega) only [zrow_ne, zrow_self]; rfl
  · simp (disch := first | assumption | omega) only [zrow_ne, zrow_self]; rfl
  · simp (disch := first | assumption | omega) only [zrow_ne, zrow_self]
    unfold zTc
    by_cases h : j < 360
    · by_cases h1 : j % 5 = 0
      · simp [h1, h]
      · by_cases h2 : j % 5 = 3
        · simp [h2, h]
        · by_cases h3 : j % 5 = 4
          · simp [h3, h]
          · simp [h, h1, h2, h3]
    · simp [h]
  · simp (disch := first | assumption | omega) only [zrow_ne, zrow_self]
    unfold zTc
    by_cases h : j < 192
    · by_cases h1 : j % 3 = 2
      · simp [h1, h]
      · simp [h, h1]
    · simp [h]
  · simp (disch := first | assumption | omega) only [zrow_ne, zrow_self]
    unfold zTc
    by_cases h : j < 6
    · rw [if_pos ⟨by omega, h⟩]
      simp [h]
    · rw [if_neg (by omega)]
      simp only [h, and_false, if_false]
      rw [f5 j (by omega)]
      rfl
def uAdd (T : ZD2) (n : Nat) (name price pages bluff : Int32) : ZD2 := uTot (zw (zw (zw (zw (zw T 2 (12 * n + 11) name) 2 (12 * n) price) 2 (12 * n + 1) pages) 2 (12 * n + 2) bluff) 2 (12 * n + 4) (zi 50)) 0
theorem c20 {n : Nat} {name price pages bluff : Int32} (hm : zisM m) (hn : T 1 0 = zi n) (h6 : n < 6) : zev X 20 0 [.ref m, .int name, .int price, .int pages, .int bluff, zJ] [] (zHP (zmt D m T) O, k) = some (.inl none, (zHP (zmt D m (uAdd T n name price pages bluff)) O, k)) := by
  simp (disch := first | assumption | omega) only [b20_0, c18, hn, b20_4, tp2, b20_18, b20_29, b20_40, b20_52, b20_64, ta1, b20_74, ↓zn_l, zl_0, zl_1, zl_2, zl_3, zl_4, zl_5, zl_6, zl_7, zl_8, zl_9, zl_10, zl_11, zl_12, zl_13, zl_14, zl_15, zl_16, zl_17, zl_18, zl_19, zl_20, zl_21, zl_22, zl_23, zl_24, zl_25, zl_26, zl_27, zl_28, zl_29, zl_30, zl_31, zl_32, zl_36, zl_46, zl_48, zl_50, zl_57, zl_63, zl_64, zl_72, zl_97, zl_99, zl_100, zl_101, zl_122, zl_127, zl_200, zl_255, zl_406, zl_534, zl_540, zl_600, zl_9999, zl_33, zl_34, zl_35, zl_37, zl_38, zl_39, zl_40, zl_41, zl_42, zl_43, zl_44, zl_45, zl_47, zl_49, zl_52, zl_53, zl_54, zl_55, zl_58, zl_59, zl_60, zl_61, zl_62, zl_65, zl_70, zl_71, zl_98, zl_102, zl_103, zl_104, zl_105, zl_110, zl_111, zl_115, zl_120, zl_123, zl_126, zl_128, zl_256, zl_1000, zl_1024, zcon_inl, zcon_inr, Option.toList_some, Option.toList_none, List.cons_append, List.nil_append, List.append_nil, Nat.add_zero, zbind_some, zi_toNat, zi_lt, zi_inj, zi_add, zi_mul, zi_ne_zn, zn_ne_zi, zn_lt_zi, zi_lt_zn, Nat.not_lt_zero, false_or, if_true, if_false, true_or, or_false]
  rfl
def zPop (l : Int64) : Int32 := ((((((((((l - (((l).toUInt64 >>> (((1 : Int32)).toInt64.toUInt64 &&& Int64.toUInt64 63)).toInt64 &&& (Int64.ofNat 6148914691236517205))) &&& (Int64.ofNat 3689348814741910323)) + ((((l - (((l).toUInt64 >>> (((1 : Int32)).toInt64.toUInt64 &&& Int64.toUInt64 63)).toInt64 &&& (Int64.ofNat 6148914691236517205)))).toUInt64 >>> (((2 : Int32)).toInt64.toUInt64 &&& Int64.toUInt64 63)).toInt64 &&& (Int64.ofNat 3689348814741910323))) + (((((l - (((l).toUInt64 >>> (((1 : Int32)).toInt64.toUInt64 &&& Int64.toUInt64 63)).toInt64 &&& (Int64.ofNat 6148914691236517205))) &&& (Int64.ofNat 3689348814741910323)) + ((((l - (((l).toUInt64 >>> (((1 : Int32)).toInt64.toUInt64 &&& Int64.toUInt64 63)).toInt64 &&& (Int64.ofNat 6148914691236517205)))).toUInt64 >>> (((2 : Int32)).toInt64.toUInt64 &&& Int64.toUInt64 63)).toInt64 &&& (Int64.ofNat 3689348814741910323)))).toUInt64 >>> (((4 : Int32)).toInt64.toUInt64 &&& Int64.toUInt64 63)).toInt64) &&& (Int64.ofNat 1085102592571150095)) + (((((((l - (((l).toUInt64 >>> (((1 : Int32)).toInt64.toUInt64 &&& Int64.toUInt64 63)).toInt64 &&& (Int64.ofNat 6148914691236517205))) &&& (Int64.ofNat 3689348814741910323)) + ((((l - (((l).toUInt64 >>> (((1 : Int32)).toInt64.toUInt64 &&& Int64.toUInt64 63)).toInt64 &&& (Int64.ofNat 6148914691236517205)))).toUInt64 >>> (((2 : Int32)).toInt64.toUInt64 &&& Int64.toUInt64 63)).toInt64 &&& (Int64.ofNat 3689348814741910323))) + (((((l - (((l).toUInt64 >>> (((1 : Int32)).toInt64.toUInt64 &&& Int64.toUInt64 63)).toInt64 &&& (Int64.ofNat 6148914691236517205))) &&& (Int64.ofNat 3689348814741910323)) + ((((l - (((l).toUInt64 >>> (((1 : Int32)).toInt64.toUInt64 &&& Int64.toUInt64 63)).toInt64 &&& (Int64.ofNat 6148914691236517205)))).toUInt64 >>> (((2 : Int32)).toInt64.toUInt64 &&& Int64.toUInt64 63)).toInt64 &&& (Int64.ofNat 3689348814741910323)))).toUInt64 >>> (((4 : Int32)).toInt64.toUInt64 &&& Int64.toUInt64 63)).toInt64) &&& (Int64.ofNat 1085102592571150095))).toUInt64 >>> (((8 : Int32)).toInt64.toUInt64 &&& Int64.toUInt64 63)).toInt64) + ((((((((l - (((l).toUInt64 >>> (((1 : Int32)).toInt64.toUInt64 &&& Int64.toUInt64 63)).toInt64 &&& (Int64.ofNat 6148914691236517205))) &&& (Int64.ofNat 3689348814741910323)) + ((((l - (((l).toUInt64 >>> (((1 : Int32)).toInt64.toUInt64 &&& Int64.toUInt64 63)).toInt64 &&& (Int64.ofNat 6148914691236517205)))).toUInt64 >>> (((2 : Int32)).toInt64.toUInt64 &&& Int64.toUInt64 63)).toInt64 &&& (Int64.ofNat 3689348814741910323))) + (((((l - (((l).toUInt64 >>> (((1 : Int32)).toInt64.toUInt64 &&& Int64.toUInt64 63)).toInt64 &&& (Int64.ofNat 6148914691236517205))) &&& (Int64.ofNat 3689348814741910323)) + ((((l - (((l).toUInt64 >>> (((1 : Int32)).toInt64.toUInt64 &&& Int64.toUInt64 63)).toInt64 &&& (Int64.ofNat 6148914691236517205)))).toUInt64 >>> (((2 : Int32)).toInt64.toUInt64 &&& Int64.toUInt64 63)).toInt64 &&& (Int64.ofNat 3689348814741910323)))).toUInt64 >>> (((4 : Int32)).toInt64.toUInt64 &&& Int64.toUInt64 63)).toInt64) &&& (Int64.ofNat 1085102592571150095)) + (((((((l - (((l).toUInt64 >>> (((1 : Int32)).toInt64.toUInt64 &&& Int64.toUInt64 63)).toInt64 &&& (Int64.ofNat 6148914691236517205))) &&& (Int64.ofNat 3689348814741910323)) + ((((l - (((l).toUInt64 >>> (((1 : Int32)).toInt64.toUInt64 &&& Int64.toUInt64 63)).toInt64 &&& (Int64.ofNat 6148914691236517205)))).toUInt64 >>> (((2 : Int32)).toInt64.toUInt64 &&& Int64.toUInt64 63)).toInt64 &&& (Int64.ofNat 3689348814741910323))) + (((((l - (((l).toUInt64 >>> (((1 : Int32)).toInt64.toUInt64 &&& Int64.toUInt64 63)).toInt64 &&& (Int64.ofNat 6148914691236517205))) &&& (Int64.ofNat 3689348814741910323)) + ((((l - (((l).toUInt64 >>> (((1 : Int32)).toInt64.toUInt64 &&& Int64.toUInt64 63)).toInt64 &&& (Int64.ofNat 6148914691236517205)))).toUInt64 >>> (((2 : Int32)).toInt64.toUInt64 &&& Int64.toUInt64 63)).toInt64 &&& (Int64.ofNat 3689348814741910323)))).toUInt64 >>> (((4 : Int32)).toInt64.toUInt64 &&& Int64.toUInt64 63)).toInt64) &&& (Int64.ofNat 1085102592571150095))).toUInt64 >>> (((8 : Int32)).toInt64.toUInt64 &&& Int64.toUInt64 63)).toInt64)).toUInt64 >>> (((16 : Int32)).toInt64.toUInt64 &&& Int64.toUInt64 63)).toInt64) + (((((((((l - (((l).toUInt64 >>> (((1 : Int32)).toInt64.toUInt64 &&& Int64.toUInt64 63)).toInt64 &&& (Int64.ofNat 6148914691236517205))) &&& (Int64.ofNat 3689348814741910323)) + ((((l - (((l).toUInt64 >>> (((1 : Int32)).toInt64.toUInt64 &&& Int64.toUInt64 63)).toInt64 &&& (Int64.ofNat 6148914691236517205)))).toUInt64 >>> (((2 : Int32)).toInt64.toUInt64 &&& Int64.toUInt64 63)).toInt64 &&& (Int64.ofNat 3689348814741910323))) + (((((l - (((l).toUInt64 >>> (((1 : Int32)).toInt64.toUInt64 &&& Int64.toUInt64 63)).toInt64 &&& (Int64.ofNat 6148914691236517205))) &&& (Int64.ofNat 3689348814741910323)) + ((((l - (((l).toUInt64 >>> (((1 : Int32)).toInt64.toUInt64 &&& Int64.toUInt64 63)).toInt64 &&& (Int64.ofNat 6148914691236517205)))).toUInt64 >>> (((2 : Int32)).toInt64.toUInt64 &&& Int64.toUInt64 63)).toInt64 &&& (Int64.ofNat 3689348814741910323)))).toUInt64 >>> (((4 : Int32)).toInt64.toUInt64 &&& Int64.toUInt64 63)).toInt64) &&& (Int64.ofNat 1085102592571150095)) + (((((((l - (((l).toUInt64 >>> (((1 : Int32)).toInt64.toUInt64 &&& Int64.toUInt64 63)).toInt64 &&& (Int64.ofNat 6148914691236517205))) &&& (Int64.ofNat 3689348814741910323)) + ((((l - (((l).toUInt64 >>> (((1 : Int32)).toInt64.toUInt64 &&& Int64.toUInt64 63)).toInt64 &&& (Int64.ofNat 6148914691236517205)))).toUInt64 >>> (((2 : Int32)).toInt64.toUInt64 &&& Int64.toUInt64 63)).toInt64 &&& (Int64.ofNat 3689348814741910323))) + (((((l - (((l).toUInt64 >>> (((1 : Int32)).toInt64.toUInt64 &&& Int64.toUInt64 63)).toInt64 &&& (Int64.ofNat 6148914691236517205))) &&& (Int64.ofNat 3689348814741910323)) + ((((l - (((l).toUInt64 >>> (((1 : Int32)).toInt64.toUInt64 &&& Int64.toUInt64 63)).toInt64 &&& (Int64.ofNat 6148914691236517205)))).toUInt64 >>> (((2 : Int32)).toInt64.toUInt64 &&& Int64.toUInt64 63)).toInt64 &&& (Int64.ofNat 3689348814741910323)))).toUInt64 >>> (((4 : Int32)).toInt64.toUInt64 &&& Int64.toUInt64 63)).toInt64) &&& (Int64.ofNat 1085102592571150095))).toUInt64 >>> (((8 : Int32)).toInt64.toUInt64 &&& Int64.toUInt64 63)).toInt64) + ((((((((l - (((l).toUInt64 >>> (((1 : Int32)).toInt64.toUInt64 &&& Int64.toUInt64 63)).toInt64 &&& (Int64.ofNat 6148914691236517205))) &&& (Int64.ofNat 3689348814741910323)) + ((((l - (((l).toUInt64 >>> (((1 : Int32)).toInt64.toUInt64 &&& Int64.toUInt64 63)).toInt64 &&& (Int64.ofNat 6148914691236517205)))).toUInt64 >>> (((2 : Int32)).toInt64.toUInt64 &&& Int64.toUInt64 63)).toInt64 &&& (Int64.ofNat 3689348814741910323))) + (((((l - (((l).toUInt64 >>> (((1 : Int32)).toInt64.toUInt64 &&& Int64.toUInt64 63)).toInt64 &&& (Int64.ofNat 6148914691236517205))) &&& (Int64.ofNat 3689348814741910323)) + ((((l - (((l).toUInt64 >>> (((1 : Int32)).toInt64.toUInt64 &&& Int64.toUInt64 63)).toInt64 &&& (Int64.ofNat 6148914691236517205)))).toUInt64 >>> (((2 : Int32)).toInt64.toUInt64 &&& Int64.toUInt64 63)).toInt64 &&& (Int64.ofNat 3689348814741910323)))).toUInt64 >>> (((4 : Int32)).toInt64.toUInt64 &&& Int64.toUInt64 63)).toInt64) &&& (Int64.ofNat 1085102592571150095)) + (((((((l - (((l).toUInt64 >>> (((1 : Int32)).toInt64.toUInt64 &&& Int64.toUInt64 63)).toInt64 &&& (Int64.ofNat 6148914691236517205))) &&& (Int64.ofNat 3689348814741910323)) + ((((l - (((l).toUInt64 >>> (((1 : Int32)).toInt64.toUInt64 &&& Int64.toUInt64 63)).toInt64 &&& (Int64.ofNat 6148914691236517205)))).toUInt64 >>> (((2 : Int32)).toInt64.toUInt64 &&& Int64.toUInt64 63)).toInt64 &&& (Int64.ofNat 3689348814741910323))) + (((((l - (((l).toUInt64 >>> (((1 : Int32)).toInt64.toUInt64 &&& Int64.toUInt64 63)).toInt64 &&& (Int64.ofNat 6148914691236517205))) &&& (Int64.ofNat 3689348814741910323)) + ((((l - (((l).toUInt64 >>> (((1 : Int32)).toInt64.toUInt64 &&& Int64.toUInt64 63)).toInt64 &&& (Int64.ofNat 6148914691236517205)))).toUInt64 >>> (((2 : Int32)).toInt64.toUInt64 &&& Int64.toUInt64 63)).toInt64 &&& (Int64.ofNat 3689348814741910323)))).toUInt64 >>> (((4 : Int32)).toInt64.toUInt64 &&& Int64.toUInt64 63)).toInt64) &&& (Int64.ofNat 1085102592571150095))).toUInt64 >>> (((8 : Int32)).toInt64.toUInt64 &&& Int64.toUInt64 63)).toInt64)).toUInt64 >>> (((16 : Int32)).toInt64.toUInt64 &&& Int64.toUInt64 63)).toInt64)).toUInt64 >>> (((32 : Int32)).toInt64.toUInt64 &&& Int64.toUInt64 63)).toInt64)).toInt32 &&& (127 : Int32))
theorem c351 {l : Int64} : zev X 351 0 [.long l, zJ] [] (zHP D O, k) = some (.inl (some (.int (zPop l))), (zHP D O, k)) := b351_0
theorem uLeave_3 (T : ZD2) (r f : Nat) (w : Bool) : uLeave T r f w 3 = zw T 3 (5 * r) zn 3 := by
  unfold uLeave uFly uLeft
  (repeat' split) <;> simp (disch := first | assumption | omega) only [zw_row]
theorem uLeave_o {T : ZD2} {t r f : Nat} {w : Bool} (h3 : t ≠ 3) (h4 : t ≠ 4) : uLeave T r f w t = T t := by
  unfold uLeave uFly uLeft
  (repeat' split) <;> simp (disch := first | assumption | omega) only [zw_row]
def uEndIn (T : ZD2) (r : Nat) : ZD2 := if sIn T r then uLeave T r (sFr T r) false else T
def uEndRow (p g : Nat) (T : ZD2) : ZD2 := uForget (zw (uEndIn T (12 * p + g)) 3 (5 * (12 * p + g) + 2) (zi 0)) (12 * p + g)
def uEnd (T : ZD2) (p : Nat) : ZD2 := zw (zfo (uEndRow p) 12 0 T) 2 (12 * p + 10) (zi 1)
def sFrees (T : ZD2) : Nat := zct (fun f => decide (sState T f = zi 0)) (sNf T) 0 0
theorem zAt_congr {T T' : ZD2} {r : Nat} (h : T' 3 (5 * r) = T 3 (5 * r)) (ha : zAt T r) : zAt T' r := by
  unfold zAt
  rw [h]
  exact ha
theorem uEndRow_ok {p g : Nat} {T : ZD2} (hp : p < 6) (hg : g < 12) (ha : ∀ r, r < 72 → zAt T r) : (∀ r, r < 72 → zAt (uEndRow p g T) r) ∧ uEndRow p g T 0 = T 0 := by
  constructor
  · intro r hr
    have e : uEndRow p g T 3 (5 * r) = uEndIn T (12 * p + g) 3 (5 * r) := by simp (disch := first | assumption | omega) only [uEndRow, uForget, zw_ne]
    unfold uEndIn at e
    split at e
    · rw [uLeave_3] at e
      by_cases h : r = 12 * p + g
      · left
        rw [e, h, zw_self]
      · rw [zw_ne (by omega)] at e
        exact zAt_congr e (ha r hr)
    · exact zAt_congr e (ha r hr)
  · unfold uEndRow uForget uEndIn
    split
    · simp (disch := first | assumption | omega) only [zw_row, uLeave_o]
    · simp (disch := first | assumption | omega) only [zw_row]
theorem c63 {p : Nat} (hm : zisM m) (hp : p < 6) (ha : ∀ r, r < 72 → zAt T r) (hn : T 0 0 = zi (sNf T)) (h6 : sNf T ≤ 64) : zev X 63 0 [.ref m, .int (zi p), zJ, zJ, zJ] [] (zHP (zmt D m T) O, k) = some (.inl (some (.int (zi (sFrees (uEnd T p)) - zi (sFrees T)))), (zHP (zmt D m (uEnd T p)) O, k)) := by
  have e31 := @c31 X D T O k m (sNf T) (zi 0) hm hn h6
  simp (disch := first | assumption | omega) only [b63_0, e31, b63_5, ↓zn_l, zl_0, zl_1, zl_2, zl_3, zl_4, zl_5, zl_6, zl_7, zl_8, zl_9, zl_10, zl_11, zl_12, zl_13, zl_14, zl_15, zl_16, zl_17, zl_18, zl_19, zl_20, zl_21, zl_22, zl_23, zl_24, zl_25, zl_26, zl_27, zl_28, zl_29, zl_30, zl_31, zl_32, zl_36, zl_46, zl_48, zl_50, zl_57, zl_63, zl_64, zl_72, zl_97, zl_99, zl_100, zl_101, zl_122, zl_127, zl_200, zl_255, zl_406, zl_534, zl_540, zl_600, zl_9999, zl_33, zl_34, zl_35, zl_37, zl_38, zl_39, zl_40, zl_41, zl_42, zl_43, zl_44, zl_45, zl_47, zl_49, zl_52, zl_53, zl_54, zl_55, zl_58, zl_59, zl_60, zl_61, zl_62, zl_65, zl_70, zl_71, zl_98, zl_102, zl_103, zl_104, zl_105, zl_110, zl_111, zl_115, zl_120, zl_123, zl_126, zl_128, zl_256, zl_1000, zl_1024, zcon_inl, zcon_inr, Option.toList_some, Option.toList_none, List.cons_append, List.nil_append, List.append_nil, Nat.add_zero, zbind_some]
  have h63 : ∀ T' : ZD2, T' 0 = T 0 → zev X 63 71 [.ref m, .int (zi p), .int (zi (sFrees T)), .int (zi 12), zJ] [] (zHP (zmt D m T') O, k) = some (.inl (some (.int (zi (sFrees T') - zi (sFrees T)))), (zHP (zmt D m T') O, k)) := by
    intro T' h0
    have e : sNf T' = sNf T := by unfold sNf; rw [h0]
    have := @c31 X D T' O k m (sNf T') (zi 0) hm (by rw [h0, e]; exact hn) (by omega)
    simp (disch := first | assumption | omega) only [b63_71, this, b63_76, ↓zn_l, zl_0, zl_1, zl_2, zl_3, zl_4, zl_5, zl_6, zl_7, zl_8, zl_9, zl_10, zl_11, zl_12, zl_13, zl_14, zl_15, zl_16, zl_17, zl_18, zl_19, zl_20, zl_21, zl_22, zl_23, zl_24, zl_25, zl_26, zl_27, zl_28, zl_29, zl_30, zl_31, zl_32, zl_36, zl_46, zl_48, zl_50, zl_57, zl_63, zl_64, zl_72, zl_97, zl_99, zl_100, zl_101, zl_122, zl_127, zl_200, zl_255, zl_406, zl_534, zl_540, zl_600, zl_9999, zl_33, zl_34, zl_35, zl_37, zl_38, zl_39, zl_40, zl_41, zl_42, zl_43, zl_44, zl_45, zl_47, zl_49, zl_52, zl_53, zl_54, zl_55, zl_58, zl_59, zl_60, zl_61, zl_62, zl_65, zl_70, zl_71, zl_98, zl_102, zl_103, zl_104, zl_105, zl_110, zl_111, zl_115, zl_120, zl_123, zl_126, zl_128, zl_256, zl_1000, zl_1024, zcon_inl, zcon_inr, Option.toList_some, Option.toList_none, List.cons_append, List.nil_append, List.append_nil, Nat.add_zero, zbind_some]
    rfl
  have h63v : ∀ (T' : ZD2) (v : Value), T' 0 = T 0 → zev X 63 71 [.ref m, .int (zi p), .int (zi (sFrees T)), .int (zi 12), v] [] (zHP (zmt D m T') O, k) = some (.inl (some (.int (zi (sFrees T') - zi (sFrees T)))), (zHP (zmt D m T') O, k)) := by
    intro T' v h0
    have e : sNf T' = sNf T := by unfold sNf; rw [h0]
    have := @c31 X D T' O k m (sNf T') (zi 0) hm (by rw [h0, e]; exact hn) (by omega)
    simp (disch := first | assumption | omega) only [b63_71, this, b63_76, ↓zn_l, zl_0, zl_1, zl_2, zl_3, zl_4, zl_5, zl_6, zl_7, zl_8, zl_9, zl_10, zl_11, zl_12, zl_13, zl_14, zl_15, zl_16, zl_17, zl_18, zl_19, zl_20, zl_21, zl_22, zl_23, zl_24, zl_25, zl_26, zl_27, zl_28, zl_29, zl_30, zl_31, zl_32, zl_36, zl_46, zl_48, zl_50, zl_57, zl_63, zl_64, zl_72, zl_97, zl_99, zl_100, zl_101, zl_122, zl_127, zl_200, zl_255, zl_406, zl_534, zl_540, zl_600, zl_9999, zl_33, zl_34, zl_35, zl_37, zl_38, zl_39, zl_40, zl_41, zl_42, zl_43, zl_44, zl_45, zl_47, zl_49, zl_52, zl_53, zl_54, zl_55, zl_58, zl_59, zl_60, zl_61, zl_62, zl_65, zl_70, zl_71, zl_98, zl_102, zl_103, zl_104, zl_105, zl_110, zl_111, zl_115, zl_120, zl_123, zl_126, zl_128, zl_256, zl_1000, zl_1024, zcon_inl, zcon_inr, Option.toList_some, Option.toList_none, List.cons_append, List.nil_append, List.append_nil, Nat.add_zero, zbind_some]
    rfl
  refine (zloopW (P := fun i a v => zev X 63 8 [.ref m, .int (zi p), .int (zi (sFrees T)), .int (zi i), v] [] (zHP (zmt D m a) O, k)) (Q := fun a => some (.inl (some (.int (zi (sFrees (zw a 2 (12 * p + 10) (zi 1))) - zi (sFrees T)))), (zHP (zmt D m (zw a 2 (12 * p + 10) (zi 1))) O, k))) (f := uEndRow p) (n := 12) (J := fun _ a => (∀ r, r < 72 → zAt a r) ∧ a 0 = T 0) ?_ ?_ 12 0 T zJ (by omega) ⟨ha, rfl⟩ rfl).1
  · intro i a v hi hJ hv
    obtain ⟨ho1, ho2⟩ := uEndRow_ok hp hi hJ.1
    refine ⟨.int (zi (12 * p + i)), rfl, ?_, ho1, ho2.trans hJ.2⟩
    refine (b63_8 hm).trans ?_
    have hz := hJ.1 (12 * p + i) (by omega)
    have hr : 12 * p + i < 72 := by omega
    simp (disch := first | assumption | omega) only [↓zn_l, zl_0, zl_1, zl_2, zl_3, zl_4, zl_5, zl_6, zl_7, zl_8, zl_9, zl_10, zl_11, zl_12, zl_13, zl_14, zl_15, zl_16, zl_17, zl_18, zl_19, zl_20, zl_21, zl_22, zl_23, zl_24, zl_25, zl_26, zl_27, zl_28, zl_29, zl_30, zl_31, zl_32, zl_36, zl_46, zl_48, zl_50, zl_57, zl_63, zl_64, zl_72, zl_97, zl_99, zl_100, zl_101, zl_122, zl_127, zl_200, zl_255, zl_406, zl_534, zl_540, zl_600, zl_9999, zl_33, zl_34, zl_35, zl_37, zl_38, zl_39, zl_40, zl_41, zl_42, zl_43, zl_44, zl_45, zl_47, zl_49, zl_52, zl_53, zl_54, zl_55, zl_58, zl_59, zl_60, zl_61, zl_62, zl_65, zl_70, zl_71, zl_98, zl_102, zl_103, zl_104, zl_105, zl_110, zl_111, zl_115, zl_120, zl_123, zl_126, zl_128, zl_256, zl_1000, zl_1024, zcon_inl, zcon_inr, Option.toList_some, Option.toList_none, List.cons_append, List.nil_append, List.append_nil, Nat.add_zero, zbind_some, zi_toNat, zi_lt, zi_inj, zi_add, zi_mul, zi_ne_zn, zn_ne_zi, zn_lt_zi, zi_lt_zn, Nat.not_lt_zero, false_or, if_true, if_false, true_or, or_false, hi, c21, b63_19, c22]
    refine (b63_27 hm).trans ?_
    have e1 : zev X 63 37 [.ref m, .int (zi p), .int (zi (sFrees T)), .int (zi i), .int (zi (12 * p + i))] [] (zHP (zmt D m (uEndIn a (12 * p + i))) O, k) = zev X 63 8 [.ref m, .int (zi p), .int (zi (sFrees T)), .int (zi (i + 1)), .int (zi (12 * p + i))] [] (zHP (zmt D m (uEndRow p i a)) O, k) := by
      simp (disch := first | assumption | omega) only [b63_37, tp3, ↓zn_l, zl_0, zl_1, zl_2, zl_3, zl_4, zl_5, zl_6, zl_7, zl_8, zl_9, zl_10, zl_11, zl_12, zl_13, zl_14, zl_15, zl_16, zl_17, zl_18, zl_19, zl_20, zl_21, zl_22, zl_23, zl_24, zl_25, zl_26, zl_27, zl_28, zl_29, zl_30, zl_31, zl_32, zl_36, zl_46, zl_48, zl_50, zl_57, zl_63, zl_64, zl_72, zl_97, zl_99, zl_100, zl_101, zl_122, zl_127, zl_200, zl_255, zl_406, zl_534, zl_540, zl_600, zl_9999, zl_33, zl_34, zl_35, zl_37, zl_38, zl_39, zl_40, zl_41, zl_42, zl_43, zl_44, zl_45, zl_47, zl_49, zl_52, zl_53, zl_54, zl_55, zl_58, zl_59, zl_60, zl_61, zl_62, zl_65, zl_70, zl_71, zl_98, zl_102, zl_103, zl_104, zl_105, zl_110, zl_111, zl_115, zl_120, zl_123, zl_126, zl_128, zl_256, zl_1000, zl_1024, zcon_inl, zcon_inr, Option.toList_some, Option.toList_none, List.cons_append, List.nil_append, List.append_nil, Nat.add_zero, zbind_some, zi_toNat, zi_lt, zi_inj, zi_add, zi_mul, zi_ne_zn, zn_ne_zi, zn_lt_zi, zi_lt_zn, Nat.not_lt_zero, false_or, if_true, if_false, true_or, or_false, b63_48, c53, b63_54]
      rfl
    rw [← e1]
    cases h : sIn a (12 * p + i)
    · simp (disch := first | assumption | omega) only [zl_0, zb_0, if_true, uEndIn, h, Bool.false_eq_true, if_false]
    · obtain ⟨h1, h2⟩ := sFr_of hz h
      have e2 := @c56 X D a O k m (12 * p + i) (sFr a (12 * p + i)) false hm hr h1 h2
      rw [zb_f] at e2
      simp (disch := first | assumption | omega) only [zl_0, zb_0, Bool.true_eq_false, if_true, uEndIn, h, if_false, e2, ↓zn_l, zl_0, zl_1, zl_2, zl_3, zl_4, zl_5, zl_6, zl_7, zl_8, zl_9, zl_10, zl_11, zl_12, zl_13, zl_14, zl_15, zl_16, zl_17, zl_18, zl_19, zl_20, zl_21, zl_22, zl_23, zl_24, zl_25, zl_26, zl_27, zl_28, zl_29, zl_30, zl_31, zl_32, zl_36, zl_46, zl_48, zl_50, zl_57, zl_63, zl_64, zl_72, zl_97, zl_99, zl_100, zl_101, zl_122, zl_127, zl_200, zl_255, zl_406, zl_534, zl_540, zl_600, zl_9999, zl_33, zl_34, zl_35, zl_37, zl_38, zl_39, zl_40, zl_41, zl_42, zl_43, zl_44, zl_45, zl_47, zl_49, zl_52, zl_53, zl_54, zl_55, zl_58, zl_59, zl_60, zl_61, zl_62, zl_65, zl_70, zl_71, zl_98, zl_102, zl_103, zl_104, zl_105, zl_110, zl_111, zl_115, zl_120, zl_123, zl_126, zl_128, zl_256, zl_1000, zl_1024, zcon_inl, zcon_inr, Option.toList_some, Option.toList_none, List.cons_append, List.nil_append, List.append_nil, Nat.add_zero, zbind_some]
  · intro a v hJ _
    refine (b63_8 hm).trans ?_
    simp (disch := first | assumption | omega) only [↓zn_l, zl_0, zl_1, zl_2, zl_3, zl_4, zl_5, zl_6, zl_7, zl_8, zl_9, zl_10, zl_11, zl_12, zl_13, zl_14, zl_15, zl_16, zl_17, zl_18, zl_19, zl_20, zl_21, zl_22, zl_23, zl_24, zl_25, zl_26, zl_27, zl_28, zl_29, zl_30, zl_31, zl_32, zl_36, zl_46, zl_48, zl_50, zl_57, zl_63, zl_64, zl_72, zl_97, zl_99, zl_100, zl_101, zl_122, zl_127, zl_200, zl_255, zl_406, zl_534, zl_540, zl_600, zl_9999, zl_33, zl_34, zl_35, zl_37, zl_38, zl_39, zl_40, zl_41, zl_42, zl_43, zl_44, zl_45, zl_47, zl_49, zl_52, zl_53, zl_54, zl_55, zl_58, zl_59, zl_60, zl_61, zl_62, zl_65, zl_70, zl_71, zl_98, zl_102, zl_103, zl_104, zl_105, zl_110, zl_111, zl_115, zl_120, zl_123, zl_126, zl_128, zl_256, zl_1000, zl_1024, zcon_inl, zcon_inr, Option.toList_some, Option.toList_none, List.cons_append, List.nil_append, List.append_nil, Nat.add_zero, zbind_some, zi_toNat, zi_lt, zi_inj, zi_add, zi_mul, zi_ne_zn, zn_ne_zi, zn_lt_zi, zi_lt_zn, Nat.not_lt_zero, false_or, if_true, if_false, true_or, or_false, Nat.lt_irrefl, tp2]
    exact h63v _ v ((zw_row (by omega)).trans hJ.2)
end
