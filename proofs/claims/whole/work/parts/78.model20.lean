/-! The model's changes. -/
section
variable {X : ZX} {D T : ZD2} {s : Nat → Int32} {O : ZO2} {k : Nat × Nat × Nat}
/-- what holds after a change, of the new tables -/
def zCh (D : ZD2) (s : Nat → Int32) (T : ZD2) (hh : Nat) (D' : ZD2) (s' : Nat → Int32) (U : ZD2) : Prop := zKp D s hh D' ∧ zRd s' U ∧ zIv U ∧ zEx U ∧ zIm T U
theorem m282 {p g hh : Nat} {w : Bool} (I : zIv T) (E : zEx T) (S : zRs D T) (R : zRd s T) (h : D 168 1 = zi 1) (hD : D 168 14 = zi hh) (h8 : hh ≤ 8) (hp : p < sNp T) (hg : g < sPgs T p) (he : sEnd T p = false) : ∃ D' s', zCh D s T hh D' s' (rTouch T p g w).2 ∧ zev X 282 0 [.ref 168, .int (zi p), .int (zi g), .int (zb w)] [] (zHP (zrow D 172 s) O, k) = some (.inl (some (.int (rTouch T p g w).1)), (zHP (zrow D' 172 s') O, k)) := by
  have e247 := m247 (X := X) (O := O) (k := k) I S R h hp hg he
  obtain ⟨D1, e283, K⟩ := m283 (X := X) (s := s) (O := O) (k := k) hD h8
  obtain ⟨s1, e249, R1, I1, M1⟩ := m249 (X := X) (O := O) (k := k) (w := w) I (zRs_kp K S) R hp hg
  have g12 := (zIv_pg I (show p < 6 by have := zIv_np6 I; omega)).2
  refine ⟨D1, s1, ⟨K, R1, I1, zEx_touch I E hp (by omega), M1⟩, ?_⟩
  simp (disch := first | assumption | omega) only [b282_0, e247, b282_6, ↓zn_l, zl_0, zl_1, zl_2, zl_3, zl_4, zl_5, zl_6, zl_7, zl_8, zl_9, zl_10, zl_11, zl_12, zl_13, zl_14, zl_15, zl_16, zl_17, zl_18, zl_19, zl_20, zl_21, zl_22, zl_23, zl_24, zl_25, zl_26, zl_27, zl_28, zl_29, zl_30, zl_31, zl_32, zl_36, zl_46, zl_48, zl_50, zl_57, zl_63, zl_64, zl_72, zl_97, zl_99, zl_100, zl_101, zl_122, zl_127, zl_200, zl_255, zl_406, zl_534, zl_540, zl_600, zl_9999, zl_33, zl_34, zl_35, zl_37, zl_38, zl_39, zl_40, zl_41, zl_42, zl_43, zl_44, zl_45, zl_47, zl_49, zl_52, zl_53, zl_54, zl_55, zl_58, zl_59, zl_60, zl_61, zl_62, zl_65, zl_70, zl_71, zl_98, zl_102, zl_103, zl_104, zl_105, zl_110, zl_111, zl_115, zl_120, zl_123, zl_126, zl_128, zl_256, zl_1000, zl_1024, zcon_inl, zcon_inr, Option.toList_some, Option.toList_none, List.cons_append, List.nil_append, List.append_nil, Nat.add_zero, zbind_some, zi_toNat, zi_lt, zi_inj, zi_add, zi_mul, zi_ne_zn, zn_ne_zi, zn_lt_zi, zi_lt_zn, Nat.not_lt_zero, false_or, if_true, if_false, true_or, or_false, Nat.reduceEqDiff, eq_self, e283]
  refine b282_15.trans ?_
  rw [e249, zcon_inl]
  exact b282_22
theorem m282n1 {a b c : Int32} (h : D 168 1 = zi 0) : zev X 282 0 [.ref 168, .int a, .int b, .int c] [] (zHP (zrow D 172 s) O, k) = some (.inl (some (.int (zi 0))), (zHP (zrow (zth D 1) 172 s) O, k)) := by
  have e := m247n1 (X := X) (s := s) (O := O) (k := k) (a := a) (b := b) h
  simp (disch := first | assumption | omega) only [b282_0, b282_6, ↓zn_l, zl_0, zl_1, zl_2, zl_3, zl_4, zl_5, zl_6, zl_7, zl_8, zl_9, zl_10, zl_11, zl_12, zl_13, zl_14, zl_15, zl_16, zl_17, zl_18, zl_19, zl_20, zl_21, zl_22, zl_23, zl_24, zl_25, zl_26, zl_27, zl_28, zl_29, zl_30, zl_31, zl_32, zl_36, zl_46, zl_48, zl_50, zl_57, zl_63, zl_64, zl_72, zl_97, zl_99, zl_100, zl_101, zl_122, zl_127, zl_200, zl_255, zl_406, zl_534, zl_540, zl_600, zl_9999, zl_33, zl_34, zl_35, zl_37, zl_38, zl_39, zl_40, zl_41, zl_42, zl_43, zl_44, zl_45, zl_47, zl_49, zl_52, zl_53, zl_54, zl_55, zl_58, zl_59, zl_60, zl_61, zl_62, zl_65, zl_70, zl_71, zl_98, zl_102, zl_103, zl_104, zl_105, zl_110, zl_111, zl_115, zl_120, zl_123, zl_126, zl_128, zl_256, zl_1000, zl_1024, zcon_inl, zcon_inr, Option.toList_some, Option.toList_none, List.cons_append, List.nil_append, List.append_nil, Nat.add_zero, zbind_some, zi_toNat, zi_lt, zi_inj, zi_add, zi_mul, zi_ne_zn, zn_ne_zi, zn_lt_zi, zi_lt_zn, Nat.not_lt_zero, false_or, if_true, if_false, true_or, or_false, Nat.reduceEqDiff, eq_self, e]
theorem m282n2 {a b c : Int32} (I : zIv T) (S : zRs D T) (h : D 168 1 = zi 1) (ha : a < zi 0 ∨ ¬ a < zi (sNp T)) : zev X 282 0 [.ref 168, .int a, .int b, .int c] [] (zHP (zrow D 172 s) O, k) = some (.inl (some (.int (zi 0))), (zHP (zrow (zth D 2) 172 s) O, k)) := by
  have e := m247n2 (X := X) (s := s) (O := O) (k := k) (b := b) I S h ha
  simp (disch := first | assumption | omega) only [b282_0, b282_6, ↓zn_l, zl_0, zl_1, zl_2, zl_3, zl_4, zl_5, zl_6, zl_7, zl_8, zl_9, zl_10, zl_11, zl_12, zl_13, zl_14, zl_15, zl_16, zl_17, zl_18, zl_19, zl_20, zl_21, zl_22, zl_23, zl_24, zl_25, zl_26, zl_27, zl_28, zl_29, zl_30, zl_31, zl_32, zl_36, zl_46, zl_48, zl_50, zl_57, zl_63, zl_64, zl_72, zl_97, zl_99, zl_100, zl_101, zl_122, zl_127, zl_200, zl_255, zl_406, zl_534, zl_540, zl_600, zl_9999, zl_33, zl_34, zl_35, zl_37, zl_38, zl_39, zl_40, zl_41, zl_42, zl_43, zl_44, zl_45, zl_47, zl_49, zl_52, zl_53, zl_54, zl_55, zl_58, zl_59, zl_60, zl_61, zl_62, zl_65, zl_70, zl_71, zl_98, zl_102, zl_103, zl_104, zl_105, zl_110, zl_111, zl_115, zl_120, zl_123, zl_126, zl_128, zl_256, zl_1000, zl_1024, zcon_inl, zcon_inr, Option.toList_some, Option.toList_none, List.cons_append, List.nil_append, List.append_nil, Nat.add_zero, zbind_some, zi_toNat, zi_lt, zi_inj, zi_add, zi_mul, zi_ne_zn, zn_ne_zi, zn_lt_zi, zi_lt_zn, Nat.not_lt_zero, false_or, if_true, if_false, true_or, or_false, Nat.reduceEqDiff, eq_self, e]
theorem m282n3 {p : Nat} {b c : Int32} (I : zIv T) (S : zRs D T) (h : D 168 1 = zi 1) (hp : p < sNp T) (hb : b < zi 0 ∨ ¬ b < zi (sPgs T p)) : zev X 282 0 [.ref 168, .int (zi p), .int b, .int c] [] (zHP (zrow D 172 s) O, k) = some (.inl (some (.int (zi 0))), (zHP (zrow (zth D 2) 172 s) O, k)) := by
  have e := m247n3 (X := X) (s := s) (O := O) (k := k) I S h hp hb
  simp (disch := first | assumption | omega) only [b282_0, b282_6, ↓zn_l, zl_0, zl_1, zl_2, zl_3, zl_4, zl_5, zl_6, zl_7, zl_8, zl_9, zl_10, zl_11, zl_12, zl_13, zl_14, zl_15, zl_16, zl_17, zl_18, zl_19, zl_20, zl_21, zl_22, zl_23, zl_24, zl_25, zl_26, zl_27, zl_28, zl_29, zl_30, zl_31, zl_32, zl_36, zl_46, zl_48, zl_50, zl_57, zl_63, zl_64, zl_72, zl_97, zl_99, zl_100, zl_101, zl_122, zl_127, zl_200, zl_255, zl_406, zl_534, zl_540, zl_600, zl_9999, zl_33, zl_34, zl_35, zl_37, zl_38, zl_39, zl_40, zl_41, zl_42, zl_43, zl_44, zl_45, zl_47, zl_49, zl_52, zl_53, zl_54, zl_55, zl_58, zl_59, zl_60, zl_61, zl_62, zl_65, zl_70, zl_71, zl_98, zl_102, zl_103, zl_104, zl_105, zl_110, zl_111, zl_115, zl_120, zl_123, zl_126, zl_128, zl_256, zl_1000, zl_1024, zcon_inl, zcon_inr, Option.toList_some, Option.toList_none, List.cons_append, List.nil_append, List.append_nil, Nat.add_zero, zbind_some, zi_toNat, zi_lt, zi_inj, zi_add, zi_mul, zi_ne_zn, zn_ne_zi, zn_lt_zi, zi_lt_zn, Nat.not_lt_zero, false_or, if_true, if_false, true_or, or_false, Nat.reduceEqDiff, eq_self, e]
theorem m282n4 {p g : Nat} {c : Int32} (I : zIv T) (S : zRs D T) (R : zRd s T) (h : D 168 1 = zi 1) (hp : p < sNp T) (hg : g < sPgs T p) (he : sEnd T p = true) : zev X 282 0 [.ref 168, .int (zi p), .int (zi g), .int c] [] (zHP (zrow D 172 s) O, k) = some (.inl (some (.int (zi 0))), (zHP (zrow (zth D 3) 172 s) O, k)) := by
  have e := m247n4 (X := X) (s := s) (O := O) (k := k) I S R h hp hg he
  simp (disch := first | assumption | omega) only [b282_0, b282_6, ↓zn_l, zl_0, zl_1, zl_2, zl_3, zl_4, zl_5, zl_6, zl_7, zl_8, zl_9, zl_10, zl_11, zl_12, zl_13, zl_14, zl_15, zl_16, zl_17, zl_18, zl_19, zl_20, zl_21, zl_22, zl_23, zl_24, zl_25, zl_26, zl_27, zl_28, zl_29, zl_30, zl_31, zl_32, zl_36, zl_46, zl_48, zl_50, zl_57, zl_63, zl_64, zl_72, zl_97, zl_99, zl_100, zl_101, zl_122, zl_127, zl_200, zl_255, zl_406, zl_534, zl_540, zl_600, zl_9999, zl_33, zl_34, zl_35, zl_37, zl_38, zl_39, zl_40, zl_41, zl_42, zl_43, zl_44, zl_45, zl_47, zl_49, zl_52, zl_53, zl_54, zl_55, zl_58, zl_59, zl_60, zl_61, zl_62, zl_65, zl_70, zl_71, zl_98, zl_102, zl_103, zl_104, zl_105, zl_110, zl_111, zl_115, zl_120, zl_123, zl_126, zl_128, zl_256, zl_1000, zl_1024, zcon_inl, zcon_inr, Option.toList_some, Option.toList_none, List.cons_append, List.nil_append, List.append_nil, Nat.add_zero, zbind_some, zi_toNat, zi_lt, zi_inj, zi_add, zi_mul, zi_ne_zn, zn_ne_zi, zn_lt_zi, zi_lt_zn, Nat.not_lt_zero, false_or, if_true, if_false, true_or, or_false, Nat.reduceEqDiff, eq_self, e]
theorem m285 {n hh : Nat} (I : zIv T) (E : zEx T) (S : zRs D T) (R : zRd s T) (h : D 168 1 = zi 1) (hD : D 168 14 = zi hh) (h8 : hh ≤ 8) (h1 : 1 ≤ n) (h2 : n ≤ 72) : ∃ D' s', zCh D s T hh D' s' (rAsk T n) ∧ zev X 285 0 [.ref 168, .int (zi n)] [] (zHP (zrow D 172 s) O, k) = some (.inl (some (.int (zi (min n (sL T).length)))), (zHP (zrow D' 172 s') O, k)) := by
  have e236 := m236 (X := X) (s := s) (O := O) (k := k) h h1 h2
  obtain ⟨D1, e283, K⟩ := m283 (X := X) (s := s) (O := O) (k := k) hD h8
  obtain ⟨D2, s2, e268, F2, R2, I2, E2, M2⟩ := m268 (X := X) (O := O) (k := k) I E (zRs_kp K S) R h2
  refine ⟨D2, s2, ⟨zKp_M K F2, R2, I2, E2, M2⟩, ?_⟩
  simp (disch := first | assumption | omega) only [b285_0, e236, b285_5, ↓zn_l, zl_0, zl_1, zl_2, zl_3, zl_4, zl_5, zl_6, zl_7, zl_8, zl_9, zl_10, zl_11, zl_12, zl_13, zl_14, zl_15, zl_16, zl_17, zl_18, zl_19, zl_20, zl_21, zl_22, zl_23, zl_24, zl_25, zl_26, zl_27, zl_28, zl_29, zl_30, zl_31, zl_32, zl_36, zl_46, zl_48, zl_50, zl_57, zl_63, zl_64, zl_72, zl_97, zl_99, zl_100, zl_101, zl_122, zl_127, zl_200, zl_255, zl_406, zl_534, zl_540, zl_600, zl_9999, zl_33, zl_34, zl_35, zl_37, zl_38, zl_39, zl_40, zl_41, zl_42, zl_43, zl_44, zl_45, zl_47, zl_49, zl_52, zl_53, zl_54, zl_55, zl_58, zl_59, zl_60, zl_61, zl_62, zl_65, zl_70, zl_71, zl_98, zl_102, zl_103, zl_104, zl_105, zl_110, zl_111, zl_115, zl_120, zl_123, zl_126, zl_128, zl_256, zl_1000, zl_1024, zcon_inl, zcon_inr, Option.toList_some, Option.toList_none, List.cons_append, List.nil_append, List.append_nil, Nat.add_zero, zbind_some, zi_toNat, zi_lt, zi_inj, zi_add, zi_mul, zi_ne_zn, zn_ne_zi, zn_lt_zi, zi_lt_zn, Nat.not_lt_zero, false_or, if_true, if_false, true_or, or_false, Nat.reduceEqDiff, eq_self, e283]
  refine b285_14.trans ?_
  rw [e268, zcon_inl]
  exact b285_19
theorem m285n1 {a : Int32} (h : D 168 1 = zi 0) : zev X 285 0 [.ref 168, .int a] [] (zHP (zrow D 172 s) O, k) = some (.inl (some (.int (zi 0))), (zHP (zrow (zth D 1) 172 s) O, k)) := by
  have e := m236n1 (X := X) (s := s) (O := O) (k := k) (a := a) h
  simp (disch := first | assumption | omega) only [b285_0, b285_5, ↓zn_l, zl_0, zl_1, zl_2, zl_3, zl_4, zl_5, zl_6, zl_7, zl_8, zl_9, zl_10, zl_11, zl_12, zl_13, zl_14, zl_15, zl_16, zl_17, zl_18, zl_19, zl_20, zl_21, zl_22, zl_23, zl_24, zl_25, zl_26, zl_27, zl_28, zl_29, zl_30, zl_31, zl_32, zl_36, zl_46, zl_48, zl_50, zl_57, zl_63, zl_64, zl_72, zl_97, zl_99, zl_100, zl_101, zl_122, zl_127, zl_200, zl_255, zl_406, zl_534, zl_540, zl_600, zl_9999, zl_33, zl_34, zl_35, zl_37, zl_38, zl_39, zl_40, zl_41, zl_42, zl_43, zl_44, zl_45, zl_47, zl_49, zl_52, zl_53, zl_54, zl_55, zl_58, zl_59, zl_60, zl_61, zl_62, zl_65, zl_70, zl_71, zl_98, zl_102, zl_103, zl_104, zl_105, zl_110, zl_111, zl_115, zl_120, zl_123, zl_126, zl_128, zl_256, zl_1000, zl_1024, zcon_inl, zcon_inr, Option.toList_some, Option.toList_none, List.cons_append, List.nil_append, List.append_nil, Nat.add_zero, zbind_some, zi_toNat, zi_lt, zi_inj, zi_add, zi_mul, zi_ne_zn, zn_ne_zi, zn_lt_zi, zi_lt_zn, Nat.not_lt_zero, false_or, if_true, if_false, true_or, or_false, Nat.reduceEqDiff, eq_self, e]
theorem m285n2 {a : Int32} (h : D 168 1 = zi 1) (ha : a < zi 1 ∨ zi 72 < a) : zev X 285 0 [.ref 168, .int a] [] (zHP (zrow D 172 s) O, k) = some (.inl (some (.int (zi 0))), (zHP (zrow (zth D 2) 172 s) O, k)) := by
  have e := m236n2 (X := X) (s := s) (O := O) (k := k) h ha
  simp (disch := first | assumption | omega) only [b285_0, b285_5, ↓zn_l, zl_0, zl_1, zl_2, zl_3, zl_4, zl_5, zl_6, zl_7, zl_8, zl_9, zl_10, zl_11, zl_12, zl_13, zl_14, zl_15, zl_16, zl_17, zl_18, zl_19, zl_20, zl_21, zl_22, zl_23, zl_24, zl_25, zl_26, zl_27, zl_28, zl_29, zl_30, zl_31, zl_32, zl_36, zl_46, zl_48, zl_50, zl_57, zl_63, zl_64, zl_72, zl_97, zl_99, zl_100, zl_101, zl_122, zl_127, zl_200, zl_255, zl_406, zl_534, zl_540, zl_600, zl_9999, zl_33, zl_34, zl_35, zl_37, zl_38, zl_39, zl_40, zl_41, zl_42, zl_43, zl_44, zl_45, zl_47, zl_49, zl_52, zl_53, zl_54, zl_55, zl_58, zl_59, zl_60, zl_61, zl_62, zl_65, zl_70, zl_71, zl_98, zl_102, zl_103, zl_104, zl_105, zl_110, zl_111, zl_115, zl_120, zl_123, zl_126, zl_128, zl_256, zl_1000, zl_1024, zcon_inl, zcon_inr, Option.toList_some, Option.toList_none, List.cons_append, List.nil_append, List.append_nil, Nat.add_zero, zbind_some, zi_toNat, zi_lt, zi_inj, zi_add, zi_mul, zi_ne_zn, zn_ne_zi, zn_lt_zi, zi_lt_zn, Nat.not_lt_zero, false_or, if_true, if_false, true_or, or_false, Nat.reduceEqDiff, eq_self, e]
theorem m286 {n hh : Nat} (I : zIv T) (E : zEx T) (S : zRs D T) (R : zRd s T) (h : D 168 1 = zi 1) (hD : D 168 14 = zi hh) (h8 : hh ≤ 8) (h1 : 1 ≤ n) (h2 : n ≤ 72) : ∃ D' s', zCh D s T hh D' s' (rTakes n T).2 ∧ zev X 286 0 [.ref 168, .int (zi n)] [] (zHP (zrow D 172 s) O, k) = some (.inl (some (.int (zi (rTakes n T).1))), (zHP (zrow D' 172 s') O, k)) := by
  have e236 := m236 (X := X) (s := s) (O := O) (k := k) h h1 h2
  obtain ⟨D1, e283, K⟩ := m283 (X := X) (s := s) (O := O) (k := k) hD h8
  obtain ⟨D2, s2, e270, F2, R2, I2, E2, M2, -⟩ := m270 (X := X) (O := O) (k := k) I E (zRs_kp K S) R h2
  refine ⟨D2, s2, ⟨zKp_fr K ⟨fun a a1 _ => F2.1 a a1, fun j _ j2 => F2.2 j j2⟩, R2, I2, E2, M2⟩, ?_⟩
  simp (disch := first | assumption | omega) only [b286_0, e236, b286_5, ↓zn_l, zl_0, zl_1, zl_2, zl_3, zl_4, zl_5, zl_6, zl_7, zl_8, zl_9, zl_10, zl_11, zl_12, zl_13, zl_14, zl_15, zl_16, zl_17, zl_18, zl_19, zl_20, zl_21, zl_22, zl_23, zl_24, zl_25, zl_26, zl_27, zl_28, zl_29, zl_30, zl_31, zl_32, zl_36, zl_46, zl_48, zl_50, zl_57, zl_63, zl_64, zl_72, zl_97, zl_99, zl_100, zl_101, zl_122, zl_127, zl_200, zl_255, zl_406, zl_534, zl_540, zl_600, zl_9999, zl_33, zl_34, zl_35, zl_37, zl_38, zl_39, zl_40, zl_41, zl_42, zl_43, zl_44, zl_45, zl_47, zl_49, zl_52, zl_53, zl_54, zl_55, zl_58, zl_59, zl_60, zl_61, zl_62, zl_65, zl_70, zl_71, zl_98, zl_102, zl_103, zl_104, zl_105, zl_110, zl_111, zl_115, zl_120, zl_123, zl_126, zl_128, zl_256, zl_1000, zl_1024, zcon_inl, zcon_inr, Option.toList_some, Option.toList_none, List.cons_append, List.nil_append, List.append_nil, Nat.add_zero, zbind_some, zi_toNat, zi_lt, zi_inj, zi_add, zi_mul, zi_ne_zn, zn_ne_zi, zn_lt_zi, zi_lt_zn, Nat.not_lt_zero, false_or, if_true, if_false, true_or, or_false, Nat.reduceEqDiff, eq_self, e283]
  refine b286_14.trans ?_
  rw [e270, zcon_inl]
  exact b286_19
theorem m286n1 {a : Int32} (h : D 168 1 = zi 0) : zev X 286 0 [.ref 168, .int a] [] (zHP (zrow D 172 s) O, k) = some (.inl (some (.int (zi 0))), (zHP (zrow (zth D 1) 172 s) O, k)) := by
  have e := m236n1 (X := X) (s := s) (O := O) (k := k) (a := a) h
  simp (disch := first | assumption | omega) only [b286_0, b286_5, ↓zn_l, zl_0, zl_1, zl_2, zl_3, zl_4, zl_5, zl_6, zl_7, zl_8, zl_9, zl_10, zl_11, zl_12, zl_13, zl_14, zl_15, zl_16, zl_17, zl_18, zl_19, zl_20, zl_21, zl_22, zl_23, zl_24, zl_25, zl_26, zl_27, zl_28, zl_29, zl_30, zl_31, zl_32, zl_36, zl_46, zl_48, zl_50, zl_57, zl_63, zl_64, zl_72, zl_97, zl_99, zl_100, zl_101, zl_122, zl_127, zl_200, zl_255, zl_406, zl_534, zl_540, zl_600, zl_9999, zl_33, zl_34, zl_35, zl_37, zl_38, zl_39, zl_40, zl_41, zl_42, zl_43, zl_44, zl_45, zl_47, zl_49, zl_52, zl_53, zl_54, zl_55, zl_58, zl_59, zl_60, zl_61, zl_62, zl_65, zl_70, zl_71, zl_98, zl_102, zl_103, zl_104, zl_105, zl_110, zl_111, zl_115, zl_120, zl_123, zl_126, zl_128, zl_256, zl_1000, zl_1024, zcon_inl, zcon_inr, Option.toList_some, Option.toList_none, List.cons_append, List.nil_append, List.append_nil, Nat.add_zero, zbind_some, zi_toNat, zi_lt, zi_inj, zi_add, zi_mul, zi_ne_zn, zn_ne_zi, zn_lt_zi, zi_lt_zn, Nat.not_lt_zero, false_or, if_true, if_false, true_or, or_false, Nat.reduceEqDiff, eq_self, e]
theorem m286n2 {a : Int32} (h : D 168 1 = zi 1) (ha : a < zi 1 ∨ zi 72 < a) : zev X 286 0 [.ref 168, .int a] [] (zHP (zrow D 172 s) O, k) = some (.inl (some (.int (zi 0))), (zHP (zrow (zth D 2) 172 s) O, k)) := by
  have e := m236n2 (X := X) (s := s) (O := O) (k := k) h ha
  simp (disch := first | assumption | omega) only [b286_0, b286_5, ↓zn_l, zl_0, zl_1, zl_2, zl_3, zl_4, zl_5, zl_6, zl_7, zl_8, zl_9, zl_10, zl_11, zl_12, zl_13, zl_14, zl_15, zl_16, zl_17, zl_18, zl_19, zl_20, zl_21, zl_22, zl_23, zl_24, zl_25, zl_26, zl_27, zl_28, zl_29, zl_30, zl_31, zl_32, zl_36, zl_46, zl_48, zl_50, zl_57, zl_63, zl_64, zl_72, zl_97, zl_99, zl_100, zl_101, zl_122, zl_127, zl_200, zl_255, zl_406, zl_534, zl_540, zl_600, zl_9999, zl_33, zl_34, zl_35, zl_37, zl_38, zl_39, zl_40, zl_41, zl_42, zl_43, zl_44, zl_45, zl_47, zl_49, zl_52, zl_53, zl_54, zl_55, zl_58, zl_59, zl_60, zl_61, zl_62, zl_65, zl_70, zl_71, zl_98, zl_102, zl_103, zl_104, zl_105, zl_110, zl_111, zl_115, zl_120, zl_123, zl_126, zl_128, zl_256, zl_1000, zl_1024, zcon_inl, zcon_inr, Option.toList_some, Option.toList_none, List.cons_append, List.nil_append, List.append_nil, Nat.add_zero, zbind_some, zi_toNat, zi_lt, zi_inj, zi_add, zi_mul, zi_ne_zn, zn_ne_zi, zn_lt_zi, zi_lt_zn, Nat.not_lt_zero, false_or, if_true, if_false, true_or, or_false, Nat.reduceEqDiff, eq_self, e]
theorem zct_or {p q r : Nat → Bool} : ∀ d i c c', (∀ j, i ≤ j → j < i + d → (p j = (q j || r j)) ∧ (q j && r j) = false) → zct p d i (c + c') = zct q d i c + zct r d i c'
  | 0, _, _, _, _ => rfl
  | d + 1, i, c, c', h => by
    obtain ⟨h1, h2⟩ := h i (Nat.le_refl _) (by omega)
    show zct p d (i + 1) (if p i = true then c + c' + 1 else c + c') = zct q d (i + 1) (if q i = true then c + 1 else c) + zct r d (i + 1) (if r i = true then c' + 1 else c')
    rw [h1]
    cases hq : q i
    · cases hr : r i
      · exact zct_or d (i + 1) c c' fun j a b => h j (by omega) (by omega)
      · have := zct_or d (i + 1) c (c' + 1) fun j a b => h j (by omega) (by omega)
        rw [← Nat.add_assoc] at this
        exact this
    · cases hr : r i
      · have := zct_or d (i + 1) (c + 1) c' fun j a b => h j (by omega) (by omega)
        rw [show c + 1 + c' = c + c' + 1 by omega] at this
        exact this
      · rw [hq, hr] at h2
        cases h2
theorem sPass_ct {tm a : Nat} (I : zIv T) (hb : tm + a < 2147483648) : zct (sFreeAt T (zi (tm + a))) (sNf T) 0 0 = zct (fun f => decide (sState T f = zi 0)) (sNf T) 0 0 + zct (sPs T (zi (tm + a))) (sNf T) 0 0 := by
  have n4 := zIv_nf64 I
  refine zct_or (sNf T) 0 0 0 fun f _ hf => ?_
  have hf64 : f < 64 := by omega
  have hc := I.2.2.2.2.1.1 f hf64
  have hle := sCnt_le T f
  have e2 : ¬ zi 2 = zi 0 := by rw [zi_inj (by omega) (by omega)]; omega
  have e1 : ¬ zi 1 = zi 0 := by rw [zi_inj (by omega) (by omega)]; omega
  unfold sFreeAt sPs sState
  by_cases hu : T 4 (3 * f + 2) = zn
  · have h2 : ¬ zi (tm + a) < zn := by rw [zi_lt_zn hb]; simp
    by_cases h0 : 0 < sCnt T f
    · have a1 : zi 0 < T 4 (3 * f) := by rw [hc, zi_lt (by omega) (by omega)]; exact h0
      have a2 : ¬ T 4 (3 * f) = zi 0 := by rw [hc, zi_inj (by omega) (by omega)]; omega
      simp [hu, a1, a2, e1]
    · have a1 : ¬ zi 0 < T 4 (3 * f) := by rw [hc, zi_lt (by omega) (by omega)]; exact h0
      have a2 : T 4 (3 * f) = zi 0 := by rw [hc]; congr 1; omega
      simp [hu, a1, a2, h2]
  · have h0 : sCnt T f = 0 := by
      rcases I.2.2.2.2.1.2.2 f hf64 with q | ⟨q, -⟩
      · exact absurd q hu
      · exact q
    have a1 : ¬ zi 0 < T 4 (3 * f) := by rw [hc, h0, zi_lt (by omega) (by omega)]; omega
    have a2 : T 4 (3 * f) = zi 0 := by rw [hc, h0]
    simp [hu, a1, a2, e2]
theorem m287 {tm a hh : Nat} (I : zIv T) (E : zEx T) (S : zRs D T) (R : zRd s T) (h : D 168 1 = zi 1) (hD : D 168 14 = zi hh) (h8 : hh ≤ 8) (h5 : T 1 5 = zi tm) (h1 : 1 ≤ a) (h2 : a ≤ 200) (h3 : tm + a ≤ 9999) : ∃ D' s', zCh D s T hh D' s' (rPass T (zi a)).1 ∧ zev X 287 0 [.ref 168, .int (zi a), zJ] [] (zHP (zrow D 172 s) O, k) = some (.inl (some (.int (zi (rPass T (zi a)).2))), (zHP (zrow D' 172 s') O, k)) := by
  have n2 := zIv_np6 I
  have n4 := zIv_nf64 I
  have e199 := m199 (X := X) (s := s) (O := O) (k := k) h
  have e175 := m175z (X := X) (D := zrow (zth D 0) 172 s) (O := O) (k := k) (q := a) (l := 1) (n := 200) h1 h2 (by omega)
  have h540 : ¬ 540 ≤ 0 := by omega
  have h99 : ¬ 9999 < tm + a := by omega
  obtain ⟨D1, e283, K⟩ := m283 (X := X) (s := s) (O := O) (k := k) hD h8
  have S1 := zRs_kp K S
  have IU := uTime_iv I E h5 (by omega : tm + a ≤ 10300)
  have RU := uTime_rd I R h5 (by omega : tm + a ≤ 10300)
  have SU := zRs_im S1 (uTime_im (T := T) (v := zi (tm + a))) n2
  have e205 := m205 (X := X) (O := O) (k := k) (w := zi 0) I S1 R
  have e205U := m205 (X := X) (O := O) (k := k) (w := zi 0) IU SU RU
  have nf : sNf (uTime T (zi (tm + a))) = sNf T := sNf_eq (uTime_0 (by omega) (by omega))
  have ec : zct (fun f => decide (sState (uTime T (zi (tm + a))) f = zi 0)) (sNf (uTime T (zi (tm + a)))) 0 0 = zct (fun f => decide (sState T f = zi 0)) (sNf T) 0 0 + zct (sPs T (zi (tm + a))) (sNf T) 0 0 := by
    rw [nf, ← sPass_ct I (by omega)]
    exact zct_congr fun j _ h => uTime_free I (by omega) (by omega)
  rw [ec] at e205U
  have l1 := zct_le (fun f => decide (sState T f = zi 0)) (sNf T) 0 0
  have l2 := zct_le (sPs T (zi (tm + a))) (sNf T) 0 0
  rw [rPass_eq, h5, zi_add]
  refine ⟨D1, zu s 0 (s 0 + zi a), ⟨K, RU, IU, uTime_ex E, uTime_im⟩, ?_⟩
  simp (disch := first | assumption | omega) only [b287_0, e199, b287_4, e175, b287_16, ↓zn_l, zl_0, zl_1, zl_2, zl_3, zl_4, zl_5, zl_6, zl_7, zl_8, zl_9, zl_10, zl_11, zl_12, zl_13, zl_14, zl_15, zl_16, zl_17, zl_18, zl_19, zl_20, zl_21, zl_22, zl_23, zl_24, zl_25, zl_26, zl_27, zl_28, zl_29, zl_30, zl_31, zl_32, zl_36, zl_46, zl_48, zl_50, zl_57, zl_63, zl_64, zl_72, zl_97, zl_99, zl_100, zl_101, zl_122, zl_127, zl_200, zl_255, zl_406, zl_534, zl_540, zl_600, zl_9999, zl_33, zl_34, zl_35, zl_37, zl_38, zl_39, zl_40, zl_41, zl_42, zl_43, zl_44, zl_45, zl_47, zl_49, zl_52, zl_53, zl_54, zl_55, zl_58, zl_59, zl_60, zl_61, zl_62, zl_65, zl_70, zl_71, zl_98, zl_102, zl_103, zl_104, zl_105, zl_110, zl_111, zl_115, zl_120, zl_123, zl_126, zl_128, zl_256, zl_1000, zl_1024, zcon_inl, zcon_inr, Option.toList_some, Option.toList_none, List.cons_append, List.nil_append, List.append_nil, Nat.add_zero, zbind_some, zi_toNat, zi_lt, zi_inj, zi_add, zi_mul, zi_ne_zn, zn_ne_zi, zn_lt_zi, zi_lt_zn, Nat.not_lt_zero, false_or, if_true, if_false, true_or, or_false, Nat.reduceEqDiff, eq_self, h540, zrow_self, R.1.1.1, h5, h99, m176f0, b287_42, e283]
  refine b287_51.trans ?_
  rw [zl_0, e205, zcon_inl]
  refine b287_56.trans ?_
  simp (disch := first | assumption | omega) only [↓zn_l, zl_0, zl_1, zl_2, zl_3, zl_4, zl_5, zl_6, zl_7, zl_8, zl_9, zl_10, zl_11, zl_12, zl_13, zl_14, zl_15, zl_16, zl_17, zl_18, zl_19, zl_20, zl_21, zl_22, zl_23, zl_24, zl_25, zl_26, zl_27, zl_28, zl_29, zl_30, zl_31, zl_32, zl_36, zl_46, zl_48, zl_50, zl_57, zl_63, zl_64, zl_72, zl_97, zl_99, zl_100, zl_101, zl_122, zl_127, zl_200, zl_255, zl_406, zl_534, zl_540, zl_600, zl_9999, zl_33, zl_34, zl_35, zl_37, zl_38, zl_39, zl_40, zl_41, zl_42, zl_43, zl_44, zl_45, zl_47, zl_49, zl_52, zl_53, zl_54, zl_55, zl_58, zl_59, zl_60, zl_61, zl_62, zl_65, zl_70, zl_71, zl_98, zl_102, zl_103, zl_104, zl_105, zl_110, zl_111, zl_115, zl_120, zl_123, zl_126, zl_128, zl_256, zl_1000, zl_1024, zcon_inl, zcon_inr, Option.toList_some, Option.toList_none, List.cons_append, List.nil_append, List.append_nil, Nat.add_zero, zbind_some, zi_toNat, zi_lt, zi_inj, zi_add, zi_mul, zi_ne_zn, zn_ne_zi, zn_lt_zi, zi_lt_zn, Nat.not_lt_zero, false_or, if_true, if_false, true_or, or_false, Nat.reduceEqDiff, eq_self, h540, zrow_self, zw_s, e205U]
  refine b287_72.trans ?_
  rw [zi_sub (by omega) (by omega), Nat.add_sub_cancel_left, show s 0 + zi a = zi (tm + a) by rw [R.1.1.1, h5, zi_add]]
theorem m287n1 {a : Int32} (h : D 168 1 = zi 0) : zev X 287 0 [.ref 168, .int a, zJ] [] (zHP (zrow D 172 s) O, k) = some (.inl (some (.int (zi 0))), (zHP (zrow (zth D 1) 172 s) O, k)) := by
  simp (disch := first | assumption | omega) only [b287_0, b287_4, ↓zn_l, zl_0, zl_1, zl_2, zl_3, zl_4, zl_5, zl_6, zl_7, zl_8, zl_9, zl_10, zl_11, zl_12, zl_13, zl_14, zl_15, zl_16, zl_17, zl_18, zl_19, zl_20, zl_21, zl_22, zl_23, zl_24, zl_25, zl_26, zl_27, zl_28, zl_29, zl_30, zl_31, zl_32, zl_36, zl_46, zl_48, zl_50, zl_57, zl_63, zl_64, zl_72, zl_97, zl_99, zl_100, zl_101, zl_122, zl_127, zl_200, zl_255, zl_406, zl_534, zl_540, zl_600, zl_9999, zl_33, zl_34, zl_35, zl_37, zl_38, zl_39, zl_40, zl_41, zl_42, zl_43, zl_44, zl_45, zl_47, zl_49, zl_52, zl_53, zl_54, zl_55, zl_58, zl_59, zl_60, zl_61, zl_62, zl_65, zl_70, zl_71, zl_98, zl_102, zl_103, zl_104, zl_105, zl_110, zl_111, zl_115, zl_120, zl_123, zl_126, zl_128, zl_256, zl_1000, zl_1024, zcon_inl, zcon_inr, Option.toList_some, Option.toList_none, List.cons_append, List.nil_append, List.append_nil, Nat.add_zero, zbind_some, zi_toNat, zi_lt, zi_inj, zi_add, zi_mul, zi_ne_zn, zn_ne_zi, zn_lt_zi, zi_lt_zn, Nat.not_lt_zero, false_or, if_true, if_false, true_or, or_false, Nat.reduceEqDiff, eq_self, m199n, h]
theorem m287n2 {a : Int32} (R : zRd s T) (h : D 168 1 = zi 1) (ha : a < zi 1 ∨ zi 200 < a) : zev X 287 0 [.ref 168, .int a, zJ] [] (zHP (zrow D 172 s) O, k) = some (.inl (some (.int (zi 0))), (zHP (zrow (zth D 2) 172 s) O, k)) := by
  simp (disch := first | assumption | omega) only [b287_0, b287_4, b287_16, b287_42, ↓zn_l, zl_0, zl_1, zl_2, zl_3, zl_4, zl_5, zl_6, zl_7, zl_8, zl_9, zl_10, zl_11, zl_12, zl_13, zl_14, zl_15, zl_16, zl_17, zl_18, zl_19, zl_20, zl_21, zl_22, zl_23, zl_24, zl_25, zl_26, zl_27, zl_28, zl_29, zl_30, zl_31, zl_32, zl_36, zl_46, zl_48, zl_50, zl_57, zl_63, zl_64, zl_72, zl_97, zl_99, zl_100, zl_101, zl_122, zl_127, zl_200, zl_255, zl_406, zl_534, zl_540, zl_600, zl_9999, zl_33, zl_34, zl_35, zl_37, zl_38, zl_39, zl_40, zl_41, zl_42, zl_43, zl_44, zl_45, zl_47, zl_49, zl_52, zl_53, zl_54, zl_55, zl_58, zl_59, zl_60, zl_61, zl_62, zl_65, zl_70, zl_71, zl_98, zl_102, zl_103, zl_104, zl_105, zl_110, zl_111, zl_115, zl_120, zl_123, zl_126, zl_128, zl_256, zl_1000, zl_1024, zcon_inl, zcon_inr, Option.toList_some, Option.toList_none, List.cons_append, List.nil_append, List.append_nil, Nat.add_zero, zbind_some, zi_toNat, zi_lt, zi_inj, zi_add, zi_mul, zi_ne_zn, zn_ne_zi, zn_lt_zi, zi_lt_zn, Nat.not_lt_zero, false_or, if_true, if_false, true_or, or_false, Nat.reduceEqDiff, eq_self, m199, h, m175w, m176t0]
theorem m287n3 {tm a : Nat} (R : zRd s T) (h : D 168 1 = zi 1) (h5 : T 1 5 = zi tm) (h1 : 1 ≤ a) (h2 : a ≤ 200) (h3 : 9999 < tm + a) (h4 : tm ≤ 9999) : zev X 287 0 [.ref 168, .int (zi a), zJ] [] (zHP (zrow D 172 s) O, k) = some (.inl (some (.int (zi 0))), (zHP (zrow (zth D 2) 172 s) O, k)) := by
  have e199 := m199 (X := X) (s := s) (O := O) (k := k) h
  have e175 := m175z (X := X) (D := zrow (zth D 0) 172 s) (O := O) (k := k) (q := a) (l := 1) (n := 200) h1 h2 (by omega)
  have h540 : ¬ 540 ≤ 0 := by omega
  simp (disch := first | assumption | omega) only [b287_0, e199, b287_4, e175, b287_16, ↓zn_l, zl_0, zl_1, zl_2, zl_3, zl_4, zl_5, zl_6, zl_7, zl_8, zl_9, zl_10, zl_11, zl_12, zl_13, zl_14, zl_15, zl_16, zl_17, zl_18, zl_19, zl_20, zl_21, zl_22, zl_23, zl_24, zl_25, zl_26, zl_27, zl_28, zl_29, zl_30, zl_31, zl_32, zl_36, zl_46, zl_48, zl_50, zl_57, zl_63, zl_64, zl_72, zl_97, zl_99, zl_100, zl_101, zl_122, zl_127, zl_200, zl_255, zl_406, zl_534, zl_540, zl_600, zl_9999, zl_33, zl_34, zl_35, zl_37, zl_38, zl_39, zl_40, zl_41, zl_42, zl_43, zl_44, zl_45, zl_47, zl_49, zl_52, zl_53, zl_54, zl_55, zl_58, zl_59, zl_60, zl_61, zl_62, zl_65, zl_70, zl_71, zl_98, zl_102, zl_103, zl_104, zl_105, zl_110, zl_111, zl_115, zl_120, zl_123, zl_126, zl_128, zl_256, zl_1000, zl_1024, zcon_inl, zcon_inr, Option.toList_some, Option.toList_none, List.cons_append, List.nil_append, List.append_nil, Nat.add_zero, zbind_some, zi_toNat, zi_lt, zi_inj, zi_add, zi_mul, zi_ne_zn, zn_ne_zi, zn_lt_zi, zi_lt_zn, Nat.not_lt_zero, false_or, if_true, if_false, true_or, or_false, Nat.reduceEqDiff, eq_self, h540, zrow_self, R.1.1.1, h5, h3, m176t0, b287_42]
end
