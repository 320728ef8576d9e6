/-! The model's further looks. -/
section
variable {X : ZX} {D T : ZD2} {s : Nat → Int32} {O : ZO2} {k : Nat × Nat × Nat}
theorem e168s {D : ZD2} {s : Nat → Int32} : zrow D 172 s 168 = D 168 := zrow_ne (by omega)
theorem e170s {D : ZD2} {s : Nat → Int32} : zrow D 172 s 170 = D 170 := zrow_ne (by omega)
theorem e171s {D : ZD2} {s : Nat → Int32} : zrow D 172 s 171 = D 171 := zrow_ne (by omega)
theorem m205 {w : Int32} (I : zIv T) (S : zRs D T) (R : zRd s T) : zev X 205 0 [.ref 168, .int w, zJ, zJ] [] (zHP (zrow D 172 s) O, k) = some (.inl (some (.int (zi (zct (fun f => decide (sState T f = w)) (sNf T) 0 0)))), (zHP (zrow D 172 s) O, k)) := by
  have n3 := zIv_nf I
  have n4 := zIv_nf64 I
  have et := @m204 X (zrow D 172 s) O k true
  have ef := @m204 X (zrow D 172 s) O k false
  rw [zb_t] at et
  rw [zb_f] at ef
  simp only [b205_0, ↓zn_l, zl_0, zl_1, zl_2, zl_3, zl_4, zl_5, zl_6, zl_7, zl_8, zl_9, zl_10, zl_11, zl_12, zl_13, zl_14, zl_15, zl_16, zl_17, zl_18, zl_19, zl_20, zl_21, zl_22, zl_23, zl_24, zl_25, zl_26, zl_27, zl_28, zl_29, zl_30, zl_31, zl_32, zl_36, zl_46, zl_48, zl_50, zl_57, zl_63, zl_64, zl_72, zl_97, zl_99, zl_100, zl_101, zl_122, zl_127, zl_200, zl_255, zl_406, zl_534, zl_540, zl_600, zl_9999, zl_33, zl_34, zl_35, zl_37, zl_38, zl_39, zl_40, zl_41, zl_42, zl_43, zl_44, zl_45, zl_47, zl_49, zl_52, zl_53, zl_54, zl_55, zl_58, zl_59, zl_60, zl_61, zl_62, zl_65, zl_70, zl_71, zl_98, zl_102, zl_103, zl_104, zl_105, zl_110, zl_111, zl_115, zl_120, zl_123, zl_126, zl_128, zl_256, zl_1000, zl_1024]
  refine zloop (P := fun i a => zev X 205 4 [.ref 168, .int w, .int (zi a), .int (zi i)] [] (zHP (zrow D 172 s) O, k)) (Q := fun a => some (.inl (some (.int (zi a))), (zHP (zrow D 172 s) O, k))) (f := fun j c => if decide (sState T j = w) then c + 1 else c) (n := sNf T) ?_ ?_ (sNf T) 0 0 (by omega)
  · intro i a hi
    have e206 := m206 (X := X) (O := O) (k := k) I S R hi
    refine b205_4.trans ?_
    simp (disch := first | assumption | omega) only [e168s, S.1.2.1, n3, ↓zn_l, zl_0, zl_1, zl_2, zl_3, zl_4, zl_5, zl_6, zl_7, zl_8, zl_9, zl_10, zl_11, zl_12, zl_13, zl_14, zl_15, zl_16, zl_17, zl_18, zl_19, zl_20, zl_21, zl_22, zl_23, zl_24, zl_25, zl_26, zl_27, zl_28, zl_29, zl_30, zl_31, zl_32, zl_36, zl_46, zl_48, zl_50, zl_57, zl_63, zl_64, zl_72, zl_97, zl_99, zl_100, zl_101, zl_122, zl_127, zl_200, zl_255, zl_406, zl_534, zl_540, zl_600, zl_9999, zl_33, zl_34, zl_35, zl_37, zl_38, zl_39, zl_40, zl_41, zl_42, zl_43, zl_44, zl_45, zl_47, zl_49, zl_52, zl_53, zl_54, zl_55, zl_58, zl_59, zl_60, zl_61, zl_62, zl_65, zl_70, zl_71, zl_98, zl_102, zl_103, zl_104, zl_105, zl_110, zl_111, zl_115, zl_120, zl_123, zl_126, zl_128, zl_256, zl_1000, zl_1024, zcon_inl, zcon_inr, Option.toList_some, Option.toList_none, List.cons_append, List.nil_append, List.append_nil, Nat.add_zero, zbind_some, zi_toNat, zi_lt, zi_inj, zi_add, zi_mul, zi_ne_zn, zn_ne_zi, zn_lt_zi, zi_lt_zn, Nat.not_lt_zero, false_or, if_true, if_false, true_or, or_false, hi, e206, b205_18, et, ef, b205_30]
    by_cases h : sState T i = w <;> simp [h]
  · intro a
    refine b205_4.trans ?_
    simp (disch := first | assumption | omega) only [e168s, S.1.2.1, n3, ↓zn_l, zl_0, zl_1, zl_2, zl_3, zl_4, zl_5, zl_6, zl_7, zl_8, zl_9, zl_10, zl_11, zl_12, zl_13, zl_14, zl_15, zl_16, zl_17, zl_18, zl_19, zl_20, zl_21, zl_22, zl_23, zl_24, zl_25, zl_26, zl_27, zl_28, zl_29, zl_30, zl_31, zl_32, zl_36, zl_46, zl_48, zl_50, zl_57, zl_63, zl_64, zl_72, zl_97, zl_99, zl_100, zl_101, zl_122, zl_127, zl_200, zl_255, zl_406, zl_534, zl_540, zl_600, zl_9999, zl_33, zl_34, zl_35, zl_37, zl_38, zl_39, zl_40, zl_41, zl_42, zl_43, zl_44, zl_45, zl_47, zl_49, zl_52, zl_53, zl_54, zl_55, zl_58, zl_59, zl_60, zl_61, zl_62, zl_65, zl_70, zl_71, zl_98, zl_102, zl_103, zl_104, zl_105, zl_110, zl_111, zl_115, zl_120, zl_123, zl_126, zl_128, zl_256, zl_1000, zl_1024, zcon_inl, zcon_inr, Option.toList_some, Option.toList_none, List.cons_append, List.nil_append, List.append_nil, Nat.add_zero, zbind_some, zi_toNat, zi_lt, zi_inj, zi_add, zi_mul, zi_ne_zn, zn_ne_zi, zn_lt_zi, zi_lt_zn, Nat.not_lt_zero, false_or, if_true, if_false, true_or, or_false, Nat.lt_irrefl]
theorem m251 (I : zIv T) (S : zRs D T) (R : zRd s T) : zev X 251 0 [.ref 168, zJ] [] (zHP (zrow D 172 s) O, k) = some (.inl (some (.int (zo (sFree T)))), (zHP (zrow D 172 s) O, k)) := by
  have n3 := zIv_nf I
  have n4 := zIv_nf64 I
  have hfr : zo (sFree T) = zff (fun f => decide (sState T f = zi 0)) (sNf T) 0 := (zff_o _ _ _).symm
  rw [hfr]
  simp only [b251_0, ↓zn_l, zl_0, zl_1, zl_2, zl_3, zl_4, zl_5, zl_6, zl_7, zl_8, zl_9, zl_10, zl_11, zl_12, zl_13, zl_14, zl_15, zl_16, zl_17, zl_18, zl_19, zl_20, zl_21, zl_22, zl_23, zl_24, zl_25, zl_26, zl_27, zl_28, zl_29, zl_30, zl_31, zl_32, zl_36, zl_46, zl_48, zl_50, zl_57, zl_63, zl_64, zl_72, zl_97, zl_99, zl_100, zl_101, zl_122, zl_127, zl_200, zl_255, zl_406, zl_534, zl_540, zl_600, zl_9999, zl_33, zl_34, zl_35, zl_37, zl_38, zl_39, zl_40, zl_41, zl_42, zl_43, zl_44, zl_45, zl_47, zl_49, zl_52, zl_53, zl_54, zl_55, zl_58, zl_59, zl_60, zl_61, zl_62, zl_65, zl_70, zl_71, zl_98, zl_102, zl_103, zl_104, zl_105, zl_110, zl_111, zl_115, zl_120, zl_123, zl_126, zl_128, zl_256, zl_1000, zl_1024]
  refine zfind (P := fun i => zev X 251 2 [.ref 168, .int (zi i)] [] (zHP (zrow D 172 s) O, k)) (Q := fun a => some (.inl (some (.int a)), (zHP (zrow D 172 s) O, k))) (p := fun f => decide (sState T f = zi 0)) (n := sNf T) ?_ ?_ (sNf T) 0 (by omega)
  · intro i hi
    have e206 := m206 (X := X) (O := O) (k := k) I S R hi
    refine b251_2.trans ?_
    simp (disch := first | assumption | omega) only [e168s, S.1.2.1, n3, ↓zn_l, zl_0, zl_1, zl_2, zl_3, zl_4, zl_5, zl_6, zl_7, zl_8, zl_9, zl_10, zl_11, zl_12, zl_13, zl_14, zl_15, zl_16, zl_17, zl_18, zl_19, zl_20, zl_21, zl_22, zl_23, zl_24, zl_25, zl_26, zl_27, zl_28, zl_29, zl_30, zl_31, zl_32, zl_36, zl_46, zl_48, zl_50, zl_57, zl_63, zl_64, zl_72, zl_97, zl_99, zl_100, zl_101, zl_122, zl_127, zl_200, zl_255, zl_406, zl_534, zl_540, zl_600, zl_9999, zl_33, zl_34, zl_35, zl_37, zl_38, zl_39, zl_40, zl_41, zl_42, zl_43, zl_44, zl_45, zl_47, zl_49, zl_52, zl_53, zl_54, zl_55, zl_58, zl_59, zl_60, zl_61, zl_62, zl_65, zl_70, zl_71, zl_98, zl_102, zl_103, zl_104, zl_105, zl_110, zl_111, zl_115, zl_120, zl_123, zl_126, zl_128, zl_256, zl_1000, zl_1024, zcon_inl, zcon_inr, Option.toList_some, Option.toList_none, List.cons_append, List.nil_append, List.append_nil, Nat.add_zero, zbind_some, zi_toNat, zi_lt, zi_inj, zi_add, zi_mul, zi_ne_zn, zn_ne_zi, zn_lt_zi, zi_lt_zn, Nat.not_lt_zero, false_or, if_true, if_false, true_or, or_false, hi, e206, b251_15]
    by_cases h : sState T i = zi 0 <;> simp [h]
  · refine b251_2.trans ?_
    simp (disch := first | assumption | omega) only [e168s, S.1.2.1, n3, ↓zn_l, zl_0, zl_1, zl_2, zl_3, zl_4, zl_5, zl_6, zl_7, zl_8, zl_9, zl_10, zl_11, zl_12, zl_13, zl_14, zl_15, zl_16, zl_17, zl_18, zl_19, zl_20, zl_21, zl_22, zl_23, zl_24, zl_25, zl_26, zl_27, zl_28, zl_29, zl_30, zl_31, zl_32, zl_36, zl_46, zl_48, zl_50, zl_57, zl_63, zl_64, zl_72, zl_97, zl_99, zl_100, zl_101, zl_122, zl_127, zl_200, zl_255, zl_406, zl_534, zl_540, zl_600, zl_9999, zl_33, zl_34, zl_35, zl_37, zl_38, zl_39, zl_40, zl_41, zl_42, zl_43, zl_44, zl_45, zl_47, zl_49, zl_52, zl_53, zl_54, zl_55, zl_58, zl_59, zl_60, zl_61, zl_62, zl_65, zl_70, zl_71, zl_98, zl_102, zl_103, zl_104, zl_105, zl_110, zl_111, zl_115, zl_120, zl_123, zl_126, zl_128, zl_256, zl_1000, zl_1024, zcon_inl, zcon_inr, Option.toList_some, Option.toList_none, List.cons_append, List.nil_append, List.append_nil, Nat.add_zero, zbind_some, zi_toNat, zi_lt, zi_inj, zi_add, zi_mul, zi_ne_zn, zn_ne_zi, zn_lt_zi, zi_lt_zn, Nat.not_lt_zero, false_or, if_true, if_false, true_or, or_false, Nat.lt_irrefl]
theorem zrow12 {p g : Nat} (hg : g < 12) : (12 * p + g) / 12 = p := by omega
theorem m218 {p g : Nat} (I : zIv T) (R : zRd s T) (hp : p < sNp T) (hg : g < 12) (hi : sIn T (12 * p + g) = true) : zev X 218 0 [.ref 168, .int (zi p), .int (zi g)] [] (zHP (zrow D 172 s) O, k) = some (.inl (some (.int (sPrice T (12 * p + g)))), (zHP (zrow D 172 s) O, k)) := by
  have n2 := zIv_np6 I
  have hp6 : p < 6 := by omega
  have hr : 12 * p + g < 72 := by omega
  obtain ⟨h1, h2⟩ := sFr_of (zIv_at I _ hr) hi
  have hlt := zIv_lt I hr h2 h1
  have e1 := (R.2.1 p hp).1
  have e2 := (R.2.2.1 (12 * p + g) hr).1
  have e219 := m219 (X := X) (D := D) (O := O) (k := k) I R hlt
  simp (disch := first | assumption | omega) only [b218_0, m203, b218_6, m208, b218_14, ↓zn_l, zl_0, zl_1, zl_2, zl_3, zl_4, zl_5, zl_6, zl_7, zl_8, zl_9, zl_10, zl_11, zl_12, zl_13, zl_14, zl_15, zl_16, zl_17, zl_18, zl_19, zl_20, zl_21, zl_22, zl_23, zl_24, zl_25, zl_26, zl_27, zl_28, zl_29, zl_30, zl_31, zl_32, zl_36, zl_46, zl_48, zl_50, zl_57, zl_63, zl_64, zl_72, zl_97, zl_99, zl_100, zl_101, zl_122, zl_127, zl_200, zl_255, zl_406, zl_534, zl_540, zl_600, zl_9999, zl_33, zl_34, zl_35, zl_37, zl_38, zl_39, zl_40, zl_41, zl_42, zl_43, zl_44, zl_45, zl_47, zl_49, zl_52, zl_53, zl_54, zl_55, zl_58, zl_59, zl_60, zl_61, zl_62, zl_65, zl_70, zl_71, zl_98, zl_102, zl_103, zl_104, zl_105, zl_110, zl_111, zl_115, zl_120, zl_123, zl_126, zl_128, zl_256, zl_1000, zl_1024, zcon_inl, zcon_inr, Option.toList_some, Option.toList_none, List.cons_append, List.nil_append, List.append_nil, Nat.add_zero, zbind_some, e1, e2, h2, e219, b218_17, zb_0, zaddz]
  unfold sPrice
  rw [zrow12 hg, hi]
  cases sDirty T (sFr T (12 * p + g)) <;> simp
theorem m213 {p g : Nat} (I : zIv T) (S : zRs D T) (R : zRd s T) (hp : p < sNp T) (hg : g < 12) : zev X 213 0 [.ref 168, .int (zi p), .int (zi g)] [] (zHP (zrow D 172 s) O, k) = some (.inl (some (.int (zb (sLoose T (12 * p + g))))), (zHP (zrow D 172 s) O, k)) := by
  have n2 := zIv_np6 I
  have hp6 : p < 6 := by omega
  have hr : 12 * p + g < 72 := by omega
  have e202 := m202 (X := X) (D := D) (O := O) (k := k) I R hp
  have e214 := m214 (X := X) (D := D) (O := O) (k := k) R hp6 hg
  have e215 := m215 (X := X) (O := O) (k := k) I S R hp6 hg
  have e2 := (R.2.2.1 (12 * p + g) hr).2.2.1
  simp (disch := first | assumption | omega) only [b213_0, e202, b213_5, e214, b213_14, e215, b213_23, m208, b213_33, ↓zn_l, zl_0, zl_1, zl_2, zl_3, zl_4, zl_5, zl_6, zl_7, zl_8, zl_9, zl_10, zl_11, zl_12, zl_13, zl_14, zl_15, zl_16, zl_17, zl_18, zl_19, zl_20, zl_21, zl_22, zl_23, zl_24, zl_25, zl_26, zl_27, zl_28, zl_29, zl_30, zl_31, zl_32, zl_36, zl_46, zl_48, zl_50, zl_57, zl_63, zl_64, zl_72, zl_97, zl_99, zl_100, zl_101, zl_122, zl_127, zl_200, zl_255, zl_406, zl_534, zl_540, zl_600, zl_9999, zl_33, zl_34, zl_35, zl_37, zl_38, zl_39, zl_40, zl_41, zl_42, zl_43, zl_44, zl_45, zl_47, zl_49, zl_52, zl_53, zl_54, zl_55, zl_58, zl_59, zl_60, zl_61, zl_62, zl_65, zl_70, zl_71, zl_98, zl_102, zl_103, zl_104, zl_105, zl_110, zl_111, zl_115, zl_120, zl_123, zl_126, zl_128, zl_256, zl_1000, zl_1024, zcon_inl, zcon_inr, Option.toList_some, Option.toList_none, List.cons_append, List.nil_append, List.append_nil, Nat.add_zero, zbind_some, zb_0, e2]
  unfold sLoose
  rw [zrow12 hg]
  cases h1 : sEnd T p <;> cases h2 : sIn T (12 * p + g) <;> cases h3 : sSh T (12 * p + g) <;> by_cases h4 : T 3 (5 * (12 * p + g) + 2) = zi 0 <;> simp [sPin, h4, zb]
theorem m212 {p g : Nat} (I : zIv T) (S : zRs D T) (R : zRd s T) (hp : p < sNp T) (hg : g < 12) : zev X 212 0 [.ref 168, .int (zi p), .int (zi g)] [] (zHP (zrow D 172 s) O, k) = some (.inl (some (.int (zb (sOff T (12 * p + g) (T 1 5))))), (zHP (zrow D 172 s) O, k)) := by
  have n2 := zIv_np6 I
  have hp6 : p < 6 := by omega
  have h6 : ¬ 6 ≤ p := by omega
  have h540 : ¬ 540 ≤ 0 := by omega
  have hr : 12 * p + g < 72 := by omega
  have e213 := m213 (X := X) (O := O) (k := k) I S R hp hg
  have e2 := (R.2.2.1 (12 * p + g) hr).2.1
  have e0 := R.1.1.1
  have eB := S.2.2 p hp
  have eI := S.1.2.2.1
  simp (disch := first | assumption | omega) only [b212_0, e213, b212_6, m208, b212_22, ↓zn_l, zl_0, zl_1, zl_2, zl_3, zl_4, zl_5, zl_6, zl_7, zl_8, zl_9, zl_10, zl_11, zl_12, zl_13, zl_14, zl_15, zl_16, zl_17, zl_18, zl_19, zl_20, zl_21, zl_22, zl_23, zl_24, zl_25, zl_26, zl_27, zl_28, zl_29, zl_30, zl_31, zl_32, zl_36, zl_46, zl_48, zl_50, zl_57, zl_63, zl_64, zl_72, zl_97, zl_99, zl_100, zl_101, zl_122, zl_127, zl_200, zl_255, zl_406, zl_534, zl_540, zl_600, zl_9999, zl_33, zl_34, zl_35, zl_37, zl_38, zl_39, zl_40, zl_41, zl_42, zl_43, zl_44, zl_45, zl_47, zl_49, zl_52, zl_53, zl_54, zl_55, zl_58, zl_59, zl_60, zl_61, zl_62, zl_65, zl_70, zl_71, zl_98, zl_102, zl_103, zl_104, zl_105, zl_110, zl_111, zl_115, zl_120, zl_123, zl_126, zl_128, zl_256, zl_1000, zl_1024, zcon_inl, zcon_inr, Option.toList_some, Option.toList_none, List.cons_append, List.nil_append, List.append_nil, Nat.add_zero, zbind_some, zi_toNat, zi_lt, zi_inj, zi_add, zi_mul, zi_ne_zn, zn_ne_zi, zn_lt_zi, zi_lt_zn, Nat.not_lt_zero, false_or, if_true, if_false, true_or, or_false, zrow_self, e168s, e171s, zb_0, e2, e0, eB, eI, h540, h6]
  unfold sOff
  rw [zrow12 hg]
  cases h1 : sLoose T (12 * p + g) <;> by_cases h2 : T 1 5 - T 3 (5 * (12 * p + g) + 1) + T 2 (12 * p + 2) < T 0 1 <;> simp [h2, zb]
theorem zTr_of {t : Nat} (h1 : 1 ≤ t) (h2 : t ≤ 100) : zTr (zi t) = zi t := by
  unfold zTr
  split
  · rfl
  · rename_i h
    rw [zi_lt (by omega) (by omega)] at h
    congr 1
    omega
theorem m217 {p g : Nat} (I : zIv T) (R : zRd s T) (hw : zWok T) (hp : p < sNp T) (hg : g < 12) (hi : sIn T (12 * p + g) = true) : zev X 217 0 [.ref 168, .int (zi p), .int (zi g)] [] (zHP (zrow D 172 s) O, k) = some (.inl (some (.float (sWo T (12 * p + g)))), (zHP (zrow D 172 s) O, k)) := by
  have n2 := zIv_np6 I
  have hp6 : p < 6 := by omega
  have hr : 12 * p + g < 72 := by omega
  have e218 := m218 (X := X) (D := D) (O := O) (k := k) I R hp hg hi
  have e1 := (R.2.1 p hp).2.2.1
  obtain ⟨pr, tr, -, -, h3, h4, h5⟩ := I.2.2.1.1 p hp6
  have hg2 := hw _ hr
  simp (disch := first | assumption | omega) only [b217_0, e218, b217_8, m203, ↓zn_l, zl_0, zl_1, zl_2, zl_3, zl_4, zl_5, zl_6, zl_7, zl_8, zl_9, zl_10, zl_11, zl_12, zl_13, zl_14, zl_15, zl_16, zl_17, zl_18, zl_19, zl_20, zl_21, zl_22, zl_23, zl_24, zl_25, zl_26, zl_27, zl_28, zl_29, zl_30, zl_31, zl_32, zl_36, zl_46, zl_48, zl_50, zl_57, zl_63, zl_64, zl_72, zl_97, zl_99, zl_100, zl_101, zl_122, zl_127, zl_200, zl_255, zl_406, zl_534, zl_540, zl_600, zl_9999, zl_33, zl_34, zl_35, zl_37, zl_38, zl_39, zl_40, zl_41, zl_42, zl_43, zl_44, zl_45, zl_47, zl_49, zl_52, zl_53, zl_54, zl_55, zl_58, zl_59, zl_60, zl_61, zl_62, zl_65, zl_70, zl_71, zl_98, zl_102, zl_103, zl_104, zl_105, zl_110, zl_111, zl_115, zl_120, zl_123, zl_126, zl_128, zl_256, zl_1000, zl_1024, zcon_inl, zcon_inr, Option.toList_some, Option.toList_none, List.cons_append, List.nil_append, List.append_nil, Nat.add_zero, zbind_some, e1]
  refine b217_16.trans ?_
  have ew : FP.fdiv (FP.i2f (zi 100 * sPrice T (12 * p + g))) (FP.i2f (T 2 (12 * p + 4))) = sWo T (12 * p + g) := by
    unfold sWo sWorth
    rw [zrow12 hg, h3, zTr_of (h5 hp) h4, Int32.mul_comm]
  rw [ew, if_pos hg2]
theorem m216 {r r2 : Nat} (I : zIv T) (S : zRs D T) (R : zRd s T) (hw : zWok T) (hr : r < 72) (hr2 : r2 < 72) (hi : sIn T r = true) (hi2 : sIn T r2 = true) : zev X 216 0 [.ref 168, .int (zi r), .int (zi r2), zJ, zJ, zJ, zJ] [] (zHP (zrow D 172 s) O, k) = some (.inl (some (.int (zb (sBw T r r2)))), (zHP (zrow D 172 s) O, k)) := by
  have n2 := zIv_np6 I
  have valid : ∀ q, q < 72 → sIn T q = true → q / 12 < sNp T := by
    intro q hq hiq
    by_cases h : q / 12 < sNp T
    · exact h
    · have := (I.2.2.2.1.2 (q / 12) (q % 12) (by omega) (by omega) (Or.inl (by omega))).1
      rw [show 12 * (q / 12) + q % 12 = q by omega] at this
      unfold sIn at hiq
      rw [this] at hiq
      simp at hiq
  have hv := valid r hr hi
  have hv2 := valid r2 hr2 hi2
  have ed : ∀ q, q < 72 → 12 * (q / 12) + (q - q / 12 * 12) = q := fun q hq => by omega
  have e1 := m217 (X := X) (D := D) (O := O) (k := k) (g := r - r / 12 * 12) I R hw hv (by omega) (by rw [ed r hr]; exact hi)
  have e2 := m217 (X := X) (D := D) (O := O) (k := k) (g := r2 - r2 / 12 * 12) I R hw hv2 (by omega) (by rw [ed r2 hr2]; exact hi2)
  rw [ed r hr] at e1
  rw [ed r2 hr2] at e2
  have hle : r / 12 * 12 ≤ r := Nat.div_mul_le_self r 12
  have hle2 : r2 / 12 * 12 ≤ r2 := Nat.div_mul_le_self r2 12
  have f1 := @m208 X D s O k (r / 12) (r - r / 12 * 12) 1 (by omega) (by omega) (by omega)
  have f2 := @m208 X D s O k (r2 / 12) (r2 - r2 / 12 * 12) 1 (by omega) (by omega) (by omega)
  rw [ed r hr, (R.2.2.1 r hr).2.1] at f1
  rw [ed r2 hr2, (R.2.2.1 r2 hr2).2.1] at f2
  simp (disch := first | assumption | omega) only [b216_0, zi_div, zi_mul, zi_sub, e1, b216_12, e2, b216_25, f1, b216_60, f2, b216_75, ↓zn_l, zl_0, zl_1, zl_2, zl_3, zl_4, zl_5, zl_6, zl_7, zl_8, zl_9, zl_10, zl_11, zl_12, zl_13, zl_14, zl_15, zl_16, zl_17, zl_18, zl_19, zl_20, zl_21, zl_22, zl_23, zl_24, zl_25, zl_26, zl_27, zl_28, zl_29, zl_30, zl_31, zl_32, zl_36, zl_46, zl_48, zl_50, zl_57, zl_63, zl_64, zl_72, zl_97, zl_99, zl_100, zl_101, zl_122, zl_127, zl_200, zl_255, zl_406, zl_534, zl_540, zl_600, zl_9999, zl_33, zl_34, zl_35, zl_37, zl_38, zl_39, zl_40, zl_41, zl_42, zl_43, zl_44, zl_45, zl_47, zl_49, zl_52, zl_53, zl_54, zl_55, zl_58, zl_59, zl_60, zl_61, zl_62, zl_65, zl_70, zl_71, zl_98, zl_102, zl_103, zl_104, zl_105, zl_110, zl_111, zl_115, zl_120, zl_123, zl_126, zl_128, zl_256, zl_1000, zl_1024, zcon_inl, zcon_inr, Option.toList_some, Option.toList_none, List.cons_append, List.nil_append, List.append_nil, Nat.add_zero, zbind_some, zi_lt]
  unfold sBw sBef
  by_cases h1 : Op.cmpValue (FP.fcmp (sWo T r) (sWo T r2)) .l = zi 0
  · by_cases h3 : T 3 (5 * r + 1) = T 3 (5 * r2 + 1)
    · by_cases h4 : r < r2 <;> simp [h1, h3, h4, zb]
    · by_cases h4 : T 3 (5 * r + 1) < T 3 (5 * r2 + 1) <;> simp [h1, h3, h4, zb]
  · by_cases h4 : Op.cmpValue (FP.fcmp (sWo T r) (sWo T r2)) .g < zi 0 <;> simp [h1, h4, zb]
end
