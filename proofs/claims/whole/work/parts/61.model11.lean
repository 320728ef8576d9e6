/-! The model's looks: the calls count, setting, program, page, frame. -/
section
variable {X : ZX} {D T : ZD2} {s : Nat → Int32} {O : ZO2} {k : Nat × Nat × Nat}
theorem sOffs_len (T : ZD2) (t : Int32) : ∀ d i l, (zfo (sOffL T t) d i l).length = zct (fun r => sOff T r t) d i l.length
  | 0, _, _ => rfl
  | d + 1, i, l => by
    rw [zfo, sOffs_len T t d (i + 1)]
    show _ = zct _ d (i + 1) (if sOff T i t = true then l.length + 1 else l.length)
    unfold sOffL
    split
    · rw [zins_len]
    · rfl
theorem sL_ct (T : ZD2) : (sL T).length = zct (fun r => sOff T r (T 1 5)) 72 0 0 := sOffs_len T (T 1 5) 72 0 []
theorem sOff_no {t : Int32} (I : zIv T) {p g : Nat} (hp : p < 6) (hg : g < 12) (h : sNp T ≤ p ∨ sPgs T p ≤ g) : sOff T (12 * p + g) t = false := by
  have := (I.2.2.2.1.2 p g hp hg h).1
  unfold sOff sLoose sIn
  rw [this]
  simp
theorem sOff_nest {t : Int32} (I : zIv T) : zfo (fun p c => c + zct (fun g => sOff T (12 * p + g) t) 12 0 0) (sNp T) 0 0 = zct (fun r => sOff T r t) 72 0 0 := by
  have e : zfo (fun p c => c + zct (fun g => sOff T (12 * p + g) t) 12 0 0) (sNp T) 0 0 = zfo (fun p c => zct (fun g => sOff T (12 * p + g) t) 12 0 c) (sNp T) 0 0 := zfo_congr _ _ _ fun p c _ _ => (yct_acc _ _ _ _).symm
  rw [e]
  exact znest (q := fun r => sOff T r t) (pg := fun _ => 12) (zIv_np6 I) (fun _ _ => Nat.le_refl _) fun p g hp hg h => sOff_no I hp hg (by omega)
theorem rCount_14 (I : zIv T) : rCount T 14 = zi (sL T).length := by
  rw [sL_ct, ← sOff_nest I]
  rfl
theorem m200 {w : Nat} (I : zIv T) (S : zRs D T) (R : zRd s T) (hw : zWok T) (h : D 168 1 = zi 1) (h15 : w ≤ 15) : ∃ D', zev X 200 0 [.ref 168, .int (zi w)] [] (zHP (zrow D 172 s) O, k) = some (.inl (some (.int (rCount T w))), (zHP (zrow D' 172 s) O, k)) ∧ zFrS D D' ∧ D' 168 0 = zi 0 := by
  have S0 := zRs_th (c := 0) S
  have h540 : ¬ 540 ≤ 0 := by omega
  have e199 := m199 (X := X) (s := s) (O := O) (k := k) h
  have e175 := m175z (X := X) (D := zrow (zth D 0) 172 s) (O := O) (k := k) (q := w) (l := 0) (n := 15) (by omega) h15 (by omega)
  have start : ∀ t D' R, zswi 33 114 0 15 #[79, 84, 89, 89, 89, 97, 114, 114, 114, 114, 114, 114, 114, 114, 104, 109] (zi w) = some t → zev X 200 t [.ref 168, .int (zi w)] [] (zHP (zrow (zth D 0) 172 s) O, k) = some (.inl (some (.int R)), (zHP (zrow D' 172 s) O, k)) → zev X 200 0 [.ref 168, .int (zi w)] [] (zHP (zrow D 172 s) O, k) = some (.inl (some (.int R)), (zHP (zrow D' 172 s) O, k)) := by
    intro t D' R ht hR
    rw [← hR]
    simp (disch := first | assumption | omega) only [b200_0, e199, b200_4, e175, b200_15, m176f0, ↓zn_l, zl_0, zl_1, zl_2, zl_3, zl_4, zl_5, zl_6, zl_7, zl_8, zl_9, zl_10, zl_11, zl_12, zl_13, zl_14, zl_15, zl_16, zl_17, zl_18, zl_19, zl_20, zl_21, zl_22, zl_23, zl_24, zl_25, zl_26, zl_27, zl_28, zl_29, zl_30, zl_31, zl_32, zl_36, zl_46, zl_48, zl_50, zl_57, zl_63, zl_64, zl_72, zl_97, zl_99, zl_100, zl_101, zl_122, zl_127, zl_200, zl_255, zl_406, zl_534, zl_540, zl_600, zl_9999, zl_33, zl_34, zl_35, zl_37, zl_38, zl_39, zl_40, zl_41, zl_42, zl_43, zl_44, zl_45, zl_47, zl_49, zl_52, zl_53, zl_54, zl_55, zl_58, zl_59, zl_60, zl_61, zl_62, zl_65, zl_70, zl_71, zl_98, zl_102, zl_103, zl_104, zl_105, zl_110, zl_111, zl_115, zl_120, zl_123, zl_126, zl_128, zl_256, zl_1000, zl_1024, zcon_inl, zcon_inr, Option.toList_some, Option.toList_none, List.cons_append, List.nil_append, List.append_nil, Nat.add_zero, zbind_some, zi_inj, if_true, if_false, (by omega : ¬ (1 : Nat) = 0)]
    refine b200_27.trans ?_
    rw [zl_0, if_pos rfl, ht]
    rfl
  have simple : ∀ t, zswi 33 114 0 15 #[79, 84, 89, 89, 89, 97, 114, 114, 114, 114, 114, 114, 114, 114, 104, 109] (zi w) = some t → zev X 200 t [.ref 168, .int (zi w)] [] (zHP (zrow (zth D 0) 172 s) O, k) = some (.inl (some (.int (rCount T w))), (zHP (zrow (zth D 0) 172 s) O, k)) → ∃ D', zev X 200 0 [.ref 168, .int (zi w)] [] (zHP (zrow D 172 s) O, k) = some (.inl (some (.int (rCount T w))), (zHP (zrow D' 172 s) O, k)) ∧ zFrS D D' ∧ D' 168 0 = zi 0 := fun t h1 h2 => ⟨_, start t _ _ h1 h2, zFrS_th, zth_0 _ _⟩
  rcases (by omega : w = 0 ∨ w = 1 ∨ w = 2 ∨ w = 3 ∨ w = 4 ∨ w = 5 ∨ w = 14 ∨ w = 15 ∨ (6 ≤ w ∧ w ≤ 13)) with rfl | rfl | rfl | rfl | rfl | rfl | rfl | rfl | ⟨h5, h13⟩
  · refine simple 112 (by decide) ?_
    rw [b200_112, e168s, S0.1.1]
    rfl
  · refine simple 117 (by decide) ?_
    rw [b200_117, m201 I S0 R, zcon_inl]
    exact b200_121
  · refine simple 122 (by decide) ?_
    rw [b200_122, zl_2, show zi 2 - zi 2 = zi 0 by decide, m205 I S0 R, zcon_inl]
    exact b200_129
  · refine simple 122 (by decide) ?_
    rw [b200_122, zl_2, show zi 3 - zi 2 = zi 1 by decide, m205 I S0 R, zcon_inl]
    exact b200_129
  · refine simple 122 (by decide) ?_
    rw [b200_122, zl_2, show zi 4 - zi 2 = zi 2 by decide, m205 I S0 R, zcon_inl]
    exact b200_129
  · refine simple 130 (by decide) ?_
    refine b200_130.trans ?_
    simp (disch := first | assumption | omega) only [↓zn_l, zl_0, zl_1, zl_2, zl_3, zl_4, zl_5, zl_6, zl_7, zl_8, zl_9, zl_10, zl_11, zl_12, zl_13, zl_14, zl_15, zl_16, zl_17, zl_18, zl_19, zl_20, zl_21, zl_22, zl_23, zl_24, zl_25, zl_26, zl_27, zl_28, zl_29, zl_30, zl_31, zl_32, zl_36, zl_46, zl_48, zl_50, zl_57, zl_63, zl_64, zl_72, zl_97, zl_99, zl_100, zl_101, zl_122, zl_127, zl_200, zl_255, zl_406, zl_534, zl_540, zl_600, zl_9999, zl_33, zl_34, zl_35, zl_37, zl_38, zl_39, zl_40, zl_41, zl_42, zl_43, zl_44, zl_45, zl_47, zl_49, zl_52, zl_53, zl_54, zl_55, zl_58, zl_59, zl_60, zl_61, zl_62, zl_65, zl_70, zl_71, zl_98, zl_102, zl_103, zl_104, zl_105, zl_110, zl_111, zl_115, zl_120, zl_123, zl_126, zl_128, zl_256, zl_1000, zl_1024, zcon_inl, zcon_inr, Option.toList_some, Option.toList_none, List.cons_append, List.nil_append, List.append_nil, Nat.add_zero, zbind_some, zi_toNat, zi_lt, zi_inj, zi_add, zi_mul, zi_ne_zn, zn_ne_zi, zn_lt_zi, zi_lt_zn, Nat.not_lt_zero, false_or, if_true, if_false, true_or, or_false, Nat.reduceEqDiff, eq_self, h540, zrow_self, R.1.1.1]
    rfl
  · obtain ⟨D', q1, q2, q3, q4⟩ := m210 (X := X) (O := O) (k := k) I S0 R hw
    refine ⟨D', start 137 _ _ (by decide) ?_, zFrS_tr zFrS_th (zFrS_M q2), (q2.2 0 (by omega)).trans (zth_0 _ _)⟩
    rw [b200_137, q1, zcon_inl, rCount_14 I]
    exact b200_141
  · refine simple 142 (by decide) ?_
    rw [b200_142, m220 I S0 R, zcon_inl]
    exact b200_146
  · refine simple 147 ?_ ?_
    · rcases (by omega : w = 6 ∨ w = 7 ∨ w = 8 ∨ w = 9 ∨ w = 10 ∨ w = 11 ∨ w = 12 ∨ w = 13) with rfl | rfl | rfl | rfl | rfl | rfl | rfl | rfl <;> decide
    · have e := zRt_all.mp R.1 (w - 5) (by omega)
      have e2 : zi 1 + zi w - zi 6 = zi (w - 5) := by rw [zi_add, zi_sub (by omega) (by omega)]; congr 1; omega
      have hb : ¬ 540 ≤ w - 5 := by omega
      refine b200_147.trans ?_
      simp (disch := first | assumption | omega) only [↓zn_l, zl_0, zl_1, zl_2, zl_3, zl_4, zl_5, zl_6, zl_7, zl_8, zl_9, zl_10, zl_11, zl_12, zl_13, zl_14, zl_15, zl_16, zl_17, zl_18, zl_19, zl_20, zl_21, zl_22, zl_23, zl_24, zl_25, zl_26, zl_27, zl_28, zl_29, zl_30, zl_31, zl_32, zl_36, zl_46, zl_48, zl_50, zl_57, zl_63, zl_64, zl_72, zl_97, zl_99, zl_100, zl_101, zl_122, zl_127, zl_200, zl_255, zl_406, zl_534, zl_540, zl_600, zl_9999, zl_33, zl_34, zl_35, zl_37, zl_38, zl_39, zl_40, zl_41, zl_42, zl_43, zl_44, zl_45, zl_47, zl_49, zl_52, zl_53, zl_54, zl_55, zl_58, zl_59, zl_60, zl_61, zl_62, zl_65, zl_70, zl_71, zl_98, zl_102, zl_103, zl_104, zl_105, zl_110, zl_111, zl_115, zl_120, zl_123, zl_126, zl_128, zl_256, zl_1000, zl_1024, e2, zi_toNat, zi_lt, Nat.not_lt_zero, false_or, hb, if_false, zrow_self, e]
      unfold rCount
      simp (disch := first | assumption | omega) only [show ¬ w = 0 by omega, show ¬ w = 1 by omega, show ¬ w = 2 by omega, show ¬ w = 3 by omega, show ¬ w = 4 by omega, show ¬ w = 14 by omega, show ¬ w = 15 by omega, if_false]
      rw [show w - 5 + 5 = w by omega]
theorem m200n1 {a : Int32} (h : D 168 1 = zi 0) : zev X 200 0 [.ref 168, .int a] [] (zHP (zrow D 172 s) O, k) = some (.inl (some (.int (zi 0))), (zHP (zrow (zth D 1) 172 s) O, k)) := by
  simp (disch := first | assumption | omega) only [b200_0, b200_4, ↓zn_l, zl_0, zl_1, zl_2, zl_3, zl_4, zl_5, zl_6, zl_7, zl_8, zl_9, zl_10, zl_11, zl_12, zl_13, zl_14, zl_15, zl_16, zl_17, zl_18, zl_19, zl_20, zl_21, zl_22, zl_23, zl_24, zl_25, zl_26, zl_27, zl_28, zl_29, zl_30, zl_31, zl_32, zl_36, zl_46, zl_48, zl_50, zl_57, zl_63, zl_64, zl_72, zl_97, zl_99, zl_100, zl_101, zl_122, zl_127, zl_200, zl_255, zl_406, zl_534, zl_540, zl_600, zl_9999, zl_33, zl_34, zl_35, zl_37, zl_38, zl_39, zl_40, zl_41, zl_42, zl_43, zl_44, zl_45, zl_47, zl_49, zl_52, zl_53, zl_54, zl_55, zl_58, zl_59, zl_60, zl_61, zl_62, zl_65, zl_70, zl_71, zl_98, zl_102, zl_103, zl_104, zl_105, zl_110, zl_111, zl_115, zl_120, zl_123, zl_126, zl_128, zl_256, zl_1000, zl_1024, zcon_inl, zcon_inr, Option.toList_some, Option.toList_none, List.cons_append, List.nil_append, List.append_nil, Nat.add_zero, zbind_some, zi_toNat, zi_lt, zi_inj, zi_add, zi_mul, zi_ne_zn, zn_ne_zi, zn_lt_zi, zi_lt_zn, Nat.not_lt_zero, false_or, if_true, if_false, true_or, or_false, Nat.reduceEqDiff, eq_self, m199n, h]
theorem m200n2 {a : Int32} (h : D 168 1 = zi 1) (ha : a < zi 0 ∨ zi 15 < a) : zev X 200 0 [.ref 168, .int a] [] (zHP (zrow D 172 s) O, k) = some (.inl (some (.int (zi 0))), (zHP (zrow (zth D 2) 172 s) O, k)) := by
  simp (disch := first | assumption | omega) only [b200_0, b200_4, b200_15, b200_27, ↓zn_l, zl_0, zl_1, zl_2, zl_3, zl_4, zl_5, zl_6, zl_7, zl_8, zl_9, zl_10, zl_11, zl_12, zl_13, zl_14, zl_15, zl_16, zl_17, zl_18, zl_19, zl_20, zl_21, zl_22, zl_23, zl_24, zl_25, zl_26, zl_27, zl_28, zl_29, zl_30, zl_31, zl_32, zl_36, zl_46, zl_48, zl_50, zl_57, zl_63, zl_64, zl_72, zl_97, zl_99, zl_100, zl_101, zl_122, zl_127, zl_200, zl_255, zl_406, zl_534, zl_540, zl_600, zl_9999, zl_33, zl_34, zl_35, zl_37, zl_38, zl_39, zl_40, zl_41, zl_42, zl_43, zl_44, zl_45, zl_47, zl_49, zl_52, zl_53, zl_54, zl_55, zl_58, zl_59, zl_60, zl_61, zl_62, zl_65, zl_70, zl_71, zl_98, zl_102, zl_103, zl_104, zl_105, zl_110, zl_111, zl_115, zl_120, zl_123, zl_126, zl_128, zl_256, zl_1000, zl_1024, zcon_inl, zcon_inr, Option.toList_some, Option.toList_none, List.cons_append, List.nil_append, List.append_nil, Nat.add_zero, zbind_some, zi_toNat, zi_lt, zi_inj, zi_add, zi_mul, zi_ne_zn, zn_ne_zi, zn_lt_zi, zi_lt_zn, Nat.not_lt_zero, false_or, if_true, if_false, true_or, or_false, Nat.reduceEqDiff, eq_self, m199, h, m175w, m176t0]
theorem m221 {w : Nat} (S : zRs D T) (h : D 168 1 = zi 1) (h4 : w ≤ 4) : zev X 221 0 [.ref 168, .int (zi w)] [] (zHP (zrow D 172 s) O, k) = some (.inl (some (.int (T 0 w))), (zHP (zrow (zth D 0) 172 s) O, k)) := by
  obtain ⟨⟨s1, s2, s3, s4, s5, s6⟩, -, -⟩ := zRs_th (c := 0) S
  have e199 := m199 (X := X) (s := s) (O := O) (k := k) h
  have e175 := m175z (X := X) (D := zrow (zth D 0) 172 s) (O := O) (k := k) (q := w) (l := 0) (n := 4) (by omega) h4 (by omega)
  rcases (by omega : w = 0 ∨ w = 1 ∨ w = 2 ∨ w = 3 ∨ w = 4) with rfl | rfl | rfl | rfl | rfl <;> simp (disch := first | assumption | omega) only [b221_0, b221_4, b221_14, b221_26, e199, e175, m176f0, ↓zn_l, zl_0, zl_1, zl_2, zl_3, zl_4, zl_5, zl_6, zl_7, zl_8, zl_9, zl_10, zl_11, zl_12, zl_13, zl_14, zl_15, zl_16, zl_17, zl_18, zl_19, zl_20, zl_21, zl_22, zl_23, zl_24, zl_25, zl_26, zl_27, zl_28, zl_29, zl_30, zl_31, zl_32, zl_36, zl_46, zl_48, zl_50, zl_57, zl_63, zl_64, zl_72, zl_97, zl_99, zl_100, zl_101, zl_122, zl_127, zl_200, zl_255, zl_406, zl_534, zl_540, zl_600, zl_9999, zl_33, zl_34, zl_35, zl_37, zl_38, zl_39, zl_40, zl_41, zl_42, zl_43, zl_44, zl_45, zl_47, zl_49, zl_52, zl_53, zl_54, zl_55, zl_58, zl_59, zl_60, zl_61, zl_62, zl_65, zl_70, zl_71, zl_98, zl_102, zl_103, zl_104, zl_105, zl_110, zl_111, zl_115, zl_120, zl_123, zl_126, zl_128, zl_256, zl_1000, zl_1024, zcon_inl, zcon_inr, Option.toList_some, Option.toList_none, List.cons_append, List.nil_append, List.append_nil, Nat.add_zero, zbind_some, zi_toNat, zi_lt, zi_inj, zi_add, zi_mul, zi_ne_zn, zn_ne_zi, zn_lt_zi, zi_lt_zn, Nat.not_lt_zero, false_or, if_true, if_false, true_or, or_false, Nat.reduceEqDiff, eq_self, e168s, s2, s3, s4, s5, s6]
theorem m221n1 {a : Int32} (h : D 168 1 = zi 0) : zev X 221 0 [.ref 168, .int a] [] (zHP (zrow D 172 s) O, k) = some (.inl (some (.int (zi 0))), (zHP (zrow (zth D 1) 172 s) O, k)) := by
  simp (disch := first | assumption | omega) only [b221_0, b221_4, ↓zn_l, zl_0, zl_1, zl_2, zl_3, zl_4, zl_5, zl_6, zl_7, zl_8, zl_9, zl_10, zl_11, zl_12, zl_13, zl_14, zl_15, zl_16, zl_17, zl_18, zl_19, zl_20, zl_21, zl_22, zl_23, zl_24, zl_25, zl_26, zl_27, zl_28, zl_29, zl_30, zl_31, zl_32, zl_36, zl_46, zl_48, zl_50, zl_57, zl_63, zl_64, zl_72, zl_97, zl_99, zl_100, zl_101, zl_122, zl_127, zl_200, zl_255, zl_406, zl_534, zl_540, zl_600, zl_9999, zl_33, zl_34, zl_35, zl_37, zl_38, zl_39, zl_40, zl_41, zl_42, zl_43, zl_44, zl_45, zl_47, zl_49, zl_52, zl_53, zl_54, zl_55, zl_58, zl_59, zl_60, zl_61, zl_62, zl_65, zl_70, zl_71, zl_98, zl_102, zl_103, zl_104, zl_105, zl_110, zl_111, zl_115, zl_120, zl_123, zl_126, zl_128, zl_256, zl_1000, zl_1024, zcon_inl, zcon_inr, Option.toList_some, Option.toList_none, List.cons_append, List.nil_append, List.append_nil, Nat.add_zero, zbind_some, zi_toNat, zi_lt, zi_inj, zi_add, zi_mul, zi_ne_zn, zn_ne_zi, zn_lt_zi, zi_lt_zn, Nat.not_lt_zero, false_or, if_true, if_false, true_or, or_false, Nat.reduceEqDiff, eq_self, m199n, h]
theorem m221n2 {a : Int32} (h : D 168 1 = zi 1) (ha : a < zi 0 ∨ zi 4 < a) : zev X 221 0 [.ref 168, .int a] [] (zHP (zrow D 172 s) O, k) = some (.inl (some (.int (zi 0))), (zHP (zrow (zth D 2) 172 s) O, k)) := by
  simp (disch := first | assumption | omega) only [b221_0, b221_4, b221_14, b221_26, ↓zn_l, zl_0, zl_1, zl_2, zl_3, zl_4, zl_5, zl_6, zl_7, zl_8, zl_9, zl_10, zl_11, zl_12, zl_13, zl_14, zl_15, zl_16, zl_17, zl_18, zl_19, zl_20, zl_21, zl_22, zl_23, zl_24, zl_25, zl_26, zl_27, zl_28, zl_29, zl_30, zl_31, zl_32, zl_36, zl_46, zl_48, zl_50, zl_57, zl_63, zl_64, zl_72, zl_97, zl_99, zl_100, zl_101, zl_122, zl_127, zl_200, zl_255, zl_406, zl_534, zl_540, zl_600, zl_9999, zl_33, zl_34, zl_35, zl_37, zl_38, zl_39, zl_40, zl_41, zl_42, zl_43, zl_44, zl_45, zl_47, zl_49, zl_52, zl_53, zl_54, zl_55, zl_58, zl_59, zl_60, zl_61, zl_62, zl_65, zl_70, zl_71, zl_98, zl_102, zl_103, zl_104, zl_105, zl_110, zl_111, zl_115, zl_120, zl_123, zl_126, zl_128, zl_256, zl_1000, zl_1024, zcon_inl, zcon_inr, Option.toList_some, Option.toList_none, List.cons_append, List.nil_append, List.append_nil, Nat.add_zero, zbind_some, zi_toNat, zi_lt, zi_inj, zi_add, zi_mul, zi_ne_zn, zn_ne_zi, zn_lt_zi, zi_lt_zn, Nat.not_lt_zero, false_or, if_true, if_false, true_or, or_false, Nat.reduceEqDiff, eq_self, m199, h, m175w, m176t0]
theorem sHeld_eq {p : Nat} (I : zIv T) (hp : p < 6) : sHeld T p = zi (sMany T p false) := zPop_held I hp
theorem sHeldD_eq {p : Nat} (I : zIv T) (hp : p < 6) : sHeldD T p = zi (sMany T p true) := zPop_held I hp
theorem m222 {p w : Nat} (I : zIv T) (S : zRs D T) (R : zRd s T) (h : D 168 1 = zi 1) (hp : p < sNp T) (h11 : w ≤ 11) : zev X 222 0 [.ref 168, .int (zi p), .int (zi w)] [] (zHP (zrow D 172 s) O, k) = some (.inl (some (.int (rProg T p w))), (zHP (zrow (zth D 0) 172 s) O, k)) := by
  have n2 := zIv_np6 I
  have hp6 : p < 6 := by omega
  have h6 : ¬ 6 ≤ p := by omega
  have S0 := zRs_th (c := 0) S
  have e223 := m223 (X := X) (s := s) (O := O) (k := k) I S h hp
  have e175 := m175z (X := X) (D := zrow (zth D 0) 172 s) (O := O) (k := k) (q := w) (l := 0) (n := 11) (by omega) h11 (by omega)
  obtain ⟨b1, b2, b3, b4, b5, b6⟩ := R.2.1 p hp
  have start : ∀ t R, zswi 34 121 0 10 #[58, 65, 72, 79, 86, 121, 93, 121, 100, 107, 114] (zi w) = some t → zev X 222 t [.ref 168, .int (zi p), .int (zi w)] [] (zHP (zrow (zth D 0) 172 s) O, k) = R → zev X 222 0 [.ref 168, .int (zi p), .int (zi w)] [] (zHP (zrow D 172 s) O, k) = R := by
    intro t R ht hR
    rw [← hR]
    simp (disch := first | assumption | omega) only [b222_0, e223, b222_5, e175, b222_16, m176f0, ↓zn_l, zl_0, zl_1, zl_2, zl_3, zl_4, zl_5, zl_6, zl_7, zl_8, zl_9, zl_10, zl_11, zl_12, zl_13, zl_14, zl_15, zl_16, zl_17, zl_18, zl_19, zl_20, zl_21, zl_22, zl_23, zl_24, zl_25, zl_26, zl_27, zl_28, zl_29, zl_30, zl_31, zl_32, zl_36, zl_46, zl_48, zl_50, zl_57, zl_63, zl_64, zl_72, zl_97, zl_99, zl_100, zl_101, zl_122, zl_127, zl_200, zl_255, zl_406, zl_534, zl_540, zl_600, zl_9999, zl_33, zl_34, zl_35, zl_37, zl_38, zl_39, zl_40, zl_41, zl_42, zl_43, zl_44, zl_45, zl_47, zl_49, zl_52, zl_53, zl_54, zl_55, zl_58, zl_59, zl_60, zl_61, zl_62, zl_65, zl_70, zl_71, zl_98, zl_102, zl_103, zl_104, zl_105, zl_110, zl_111, zl_115, zl_120, zl_123, zl_126, zl_128, zl_256, zl_1000, zl_1024, zcon_inl, zcon_inr, Option.toList_some, Option.toList_none, List.cons_append, List.nil_append, List.append_nil, Nat.add_zero, zbind_some, zi_inj, if_true, if_false, (by omega : ¬ (1 : Nat) = 0)]
    refine b222_28.trans ?_
    rw [zl_0, if_pos rfl, ht]
    rfl
  have e203 : ∀ c, c < 6 → zev X 203 0 [.ref 168, .int (zi p), .int (zi c)] [] (zHP (zrow (zth D 0) 172 s) O, k) = some (.inl (some (.int (s (10 + 6 * p + c)))), (zHP (zrow (zth D 0) 172 s) O, k)) := fun c hc => m203 hp6 hc
  have e0 := e203 0 (by omega)
  rw [Nat.add_zero (10 + 6 * p), b1] at e0
  rcases (by omega : w = 0 ∨ w = 1 ∨ w = 2 ∨ w = 3 ∨ w = 4 ∨ w = 5 ∨ w = 6 ∨ w = 7 ∨ w = 8 ∨ w = 9 ∨ w = 10 ∨ w = 11) with rfl | rfl | rfl | rfl | rfl | rfl | rfl | rfl | rfl | rfl | rfl | rfl
  · refine start 92 _ (by decide) ?_
    rw [b222_92, zl_0, e0, zcon_inl]
    exact b222_98
  · refine start 99 _ (by decide) ?_
    refine b222_99.trans ?_
    simp (disch := first | assumption | omega) only [↓zn_l, zl_0, zl_1, zl_2, zl_3, zl_4, zl_5, zl_6, zl_7, zl_8, zl_9, zl_10, zl_11, zl_12, zl_13, zl_14, zl_15, zl_16, zl_17, zl_18, zl_19, zl_20, zl_21, zl_22, zl_23, zl_24, zl_25, zl_26, zl_27, zl_28, zl_29, zl_30, zl_31, zl_32, zl_36, zl_46, zl_48, zl_50, zl_57, zl_63, zl_64, zl_72, zl_97, zl_99, zl_100, zl_101, zl_122, zl_127, zl_200, zl_255, zl_406, zl_534, zl_540, zl_600, zl_9999, zl_33, zl_34, zl_35, zl_37, zl_38, zl_39, zl_40, zl_41, zl_42, zl_43, zl_44, zl_45, zl_47, zl_49, zl_52, zl_53, zl_54, zl_55, zl_58, zl_59, zl_60, zl_61, zl_62, zl_65, zl_70, zl_71, zl_98, zl_102, zl_103, zl_104, zl_105, zl_110, zl_111, zl_115, zl_120, zl_123, zl_126, zl_128, zl_256, zl_1000, zl_1024, zcon_inl, zcon_inr, Option.toList_some, Option.toList_none, List.cons_append, List.nil_append, List.append_nil, Nat.add_zero, zbind_some, zi_toNat, zi_lt, zi_inj, zi_add, zi_mul, zi_ne_zn, zn_ne_zi, zn_lt_zi, zi_lt_zn, Nat.not_lt_zero, false_or, if_true, if_false, true_or, or_false, Nat.reduceEqDiff, eq_self, h6, e170s, S0.2.1 p hp]
    rfl
  · refine start 106 _ (by decide) ?_
    refine b222_106.trans ?_
    simp (disch := first | assumption | omega) only [↓zn_l, zl_0, zl_1, zl_2, zl_3, zl_4, zl_5, zl_6, zl_7, zl_8, zl_9, zl_10, zl_11, zl_12, zl_13, zl_14, zl_15, zl_16, zl_17, zl_18, zl_19, zl_20, zl_21, zl_22, zl_23, zl_24, zl_25, zl_26, zl_27, zl_28, zl_29, zl_30, zl_31, zl_32, zl_36, zl_46, zl_48, zl_50, zl_57, zl_63, zl_64, zl_72, zl_97, zl_99, zl_100, zl_101, zl_122, zl_127, zl_200, zl_255, zl_406, zl_534, zl_540, zl_600, zl_9999, zl_33, zl_34, zl_35, zl_37, zl_38, zl_39, zl_40, zl_41, zl_42, zl_43, zl_44, zl_45, zl_47, zl_49, zl_52, zl_53, zl_54, zl_55, zl_58, zl_59, zl_60, zl_61, zl_62, zl_65, zl_70, zl_71, zl_98, zl_102, zl_103, zl_104, zl_105, zl_110, zl_111, zl_115, zl_120, zl_123, zl_126, zl_128, zl_256, zl_1000, zl_1024, zcon_inl, zcon_inr, Option.toList_some, Option.toList_none, List.cons_append, List.nil_append, List.append_nil, Nat.add_zero, zbind_some, zi_toNat, zi_lt, zi_inj, zi_add, zi_mul, zi_ne_zn, zn_ne_zi, zn_lt_zi, zi_lt_zn, Nat.not_lt_zero, false_or, if_true, if_false, true_or, or_false, Nat.reduceEqDiff, eq_self, h6, e171s, S0.2.2 p hp]
    rfl
  · refine start 113 _ (by decide) ?_
    rw [b222_113, zl_1, e203 1 (by omega), zcon_inl, b2]
    exact b222_119
  · refine start 120 _ (by decide) ?_
    rw [b222_120, zl_2, e203 2 (by omega), zcon_inl, b3]
    exact b222_126
  · refine start 155 _ (by decide) ?_
    rw [b222_155, m226 I S0 R hp (by omega), zcon_inl]
    exact b222_161
  · refine start 127 _ (by decide) ?_
    have := m225 (X := X) (O := O) (k := k) (o := false) I S0 R hp
    rw [zb_f] at this
    rw [b222_127, zl_0, this, zcon_inl, ← sHeld_eq I hp6]
    exact b222_133
  · refine start 155 _ (by decide) ?_
    rw [b222_155, m226 I S0 R hp (by omega), zcon_inl]
    exact b222_161
  · refine start 134 _ (by decide) ?_
    rw [b222_134, zl_3, e203 3 (by omega), zcon_inl, b4]
    exact b222_140
  · refine start 141 _ (by decide) ?_
    rw [b222_141, zl_4, e203 4 (by omega), zcon_inl, b5]
    exact b222_147
  · refine start 148 _ (by decide) ?_
    rw [b222_148, zl_5, e203 5 (by omega), zcon_inl, b6]
    exact b222_154
  · refine start 155 _ (by decide) ?_
    rw [b222_155, m226 I S0 R hp (by omega), zcon_inl]
    exact b222_161
theorem m222n1 {a b : Int32} (h : D 168 1 = zi 0) : zev X 222 0 [.ref 168, .int a, .int b] [] (zHP (zrow D 172 s) O, k) = some (.inl (some (.int (zi 0))), (zHP (zrow (zth D 1) 172 s) O, k)) := by
  have e := m223n1 (X := X) (s := s) (O := O) (k := k) (a := a) h
  simp (disch := first | assumption | omega) only [b222_0, b222_5, ↓zn_l, zl_0, zl_1, zl_2, zl_3, zl_4, zl_5, zl_6, zl_7, zl_8, zl_9, zl_10, zl_11, zl_12, zl_13, zl_14, zl_15, zl_16, zl_17, zl_18, zl_19, zl_20, zl_21, zl_22, zl_23, zl_24, zl_25, zl_26, zl_27, zl_28, zl_29, zl_30, zl_31, zl_32, zl_36, zl_46, zl_48, zl_50, zl_57, zl_63, zl_64, zl_72, zl_97, zl_99, zl_100, zl_101, zl_122, zl_127, zl_200, zl_255, zl_406, zl_534, zl_540, zl_600, zl_9999, zl_33, zl_34, zl_35, zl_37, zl_38, zl_39, zl_40, zl_41, zl_42, zl_43, zl_44, zl_45, zl_47, zl_49, zl_52, zl_53, zl_54, zl_55, zl_58, zl_59, zl_60, zl_61, zl_62, zl_65, zl_70, zl_71, zl_98, zl_102, zl_103, zl_104, zl_105, zl_110, zl_111, zl_115, zl_120, zl_123, zl_126, zl_128, zl_256, zl_1000, zl_1024, zcon_inl, zcon_inr, Option.toList_some, Option.toList_none, List.cons_append, List.nil_append, List.append_nil, Nat.add_zero, zbind_some, zi_toNat, zi_lt, zi_inj, zi_add, zi_mul, zi_ne_zn, zn_ne_zi, zn_lt_zi, zi_lt_zn, Nat.not_lt_zero, false_or, if_true, if_false, true_or, or_false, Nat.reduceEqDiff, eq_self, e]
theorem m222n2 {a b : Int32} (I : zIv T) (S : zRs D T) (h : D 168 1 = zi 1) (ha : a < zi 0 ∨ ¬ a < zi (sNp T)) : zev X 222 0 [.ref 168, .int a, .int b] [] (zHP (zrow D 172 s) O, k) = some (.inl (some (.int (zi 0))), (zHP (zrow (zth D 2) 172 s) O, k)) := by
  have e := m223n2 (X := X) (s := s) (O := O) (k := k) I S h ha
  simp (disch := first | assumption | omega) only [b222_0, b222_5, ↓zn_l, zl_0, zl_1, zl_2, zl_3, zl_4, zl_5, zl_6, zl_7, zl_8, zl_9, zl_10, zl_11, zl_12, zl_13, zl_14, zl_15, zl_16, zl_17, zl_18, zl_19, zl_20, zl_21, zl_22, zl_23, zl_24, zl_25, zl_26, zl_27, zl_28, zl_29, zl_30, zl_31, zl_32, zl_36, zl_46, zl_48, zl_50, zl_57, zl_63, zl_64, zl_72, zl_97, zl_99, zl_100, zl_101, zl_122, zl_127, zl_200, zl_255, zl_406, zl_534, zl_540, zl_600, zl_9999, zl_33, zl_34, zl_35, zl_37, zl_38, zl_39, zl_40, zl_41, zl_42, zl_43, zl_44, zl_45, zl_47, zl_49, zl_52, zl_53, zl_54, zl_55, zl_58, zl_59, zl_60, zl_61, zl_62, zl_65, zl_70, zl_71, zl_98, zl_102, zl_103, zl_104, zl_105, zl_110, zl_111, zl_115, zl_120, zl_123, zl_126, zl_128, zl_256, zl_1000, zl_1024, zcon_inl, zcon_inr, Option.toList_some, Option.toList_none, List.cons_append, List.nil_append, List.append_nil, Nat.add_zero, zbind_some, zi_toNat, zi_lt, zi_inj, zi_add, zi_mul, zi_ne_zn, zn_ne_zi, zn_lt_zi, zi_lt_zn, Nat.not_lt_zero, false_or, if_true, if_false, true_or, or_false, Nat.reduceEqDiff, eq_self, e]
theorem m222n3 {p : Nat} {b : Int32} (I : zIv T) (S : zRs D T) (h : D 168 1 = zi 1) (hp : p < sNp T) (hb : b < zi 0 ∨ zi 11 < b) : zev X 222 0 [.ref 168, .int (zi p), .int b] [] (zHP (zrow D 172 s) O, k) = some (.inl (some (.int (zi 0))), (zHP (zrow (zth D 3) 172 s) O, k)) := by
  have e := m223 (X := X) (s := s) (O := O) (k := k) I S h hp
  simp (disch := first | assumption | omega) only [b222_0, b222_5, b222_16, b222_28, ↓zn_l, zl_0, zl_1, zl_2, zl_3, zl_4, zl_5, zl_6, zl_7, zl_8, zl_9, zl_10, zl_11, zl_12, zl_13, zl_14, zl_15, zl_16, zl_17, zl_18, zl_19, zl_20, zl_21, zl_22, zl_23, zl_24, zl_25, zl_26, zl_27, zl_28, zl_29, zl_30, zl_31, zl_32, zl_36, zl_46, zl_48, zl_50, zl_57, zl_63, zl_64, zl_72, zl_97, zl_99, zl_100, zl_101, zl_122, zl_127, zl_200, zl_255, zl_406, zl_534, zl_540, zl_600, zl_9999, zl_33, zl_34, zl_35, zl_37, zl_38, zl_39, zl_40, zl_41, zl_42, zl_43, zl_44, zl_45, zl_47, zl_49, zl_52, zl_53, zl_54, zl_55, zl_58, zl_59, zl_60, zl_61, zl_62, zl_65, zl_70, zl_71, zl_98, zl_102, zl_103, zl_104, zl_105, zl_110, zl_111, zl_115, zl_120, zl_123, zl_126, zl_128, zl_256, zl_1000, zl_1024, zcon_inl, zcon_inr, Option.toList_some, Option.toList_none, List.cons_append, List.nil_append, List.append_nil, Nat.add_zero, zbind_some, zi_toNat, zi_lt, zi_inj, zi_add, zi_mul, zi_ne_zn, zn_ne_zi, zn_lt_zi, zi_lt_zn, Nat.not_lt_zero, false_or, if_true, if_false, true_or, or_false, Nat.reduceEqDiff, eq_self, e, m175w, m176t0]
/-- what is not sold was not paid -/
def zPd (T : ZD2) : Prop := ∀ r, r < 72 → T 3 (5 * r + 3) = zn → T 3 (5 * r + 4) = zn
theorem m227 {p g w : Nat} (I : zIv T) (S : zRs D T) (R : zRd s T) (P : zPd T) (h : D 168 1 = zi 1) (hp : p < sNp T) (hg : g < sPgs T p) (h8 : w ≤ 8) : zev X 227 0 [.ref 168, .int (zi p), .int (zi g), .int (zi w), zJ] [] (zHP (zrow D 172 s) O, k) = some (.inl (some (.int (rPage T (12 * p + g) w))), (zHP (zrow (zth D 0) 172 s) O, k)) := by
  have n2 := zIv_np6 I
  have hp6 : p < 6 := by omega
  have hg12 : g < 12 := by have := (zIv_pg I hp6).2; omega
  have hr : 12 * p + g < 72 := by omega
  have S0 := zRs_th (c := 0) S
  have e228 := m228 (X := X) (s := s) (O := O) (k := k) I S h hp hg
  have e175 := m175z (X := X) (D := zrow (zth D 0) 172 s) (O := O) (k := k) (q := w) (l := 0) (n := 8) (by omega) h8 (by omega)
  obtain ⟨a1, a2, a3, a4, a5⟩ := R.2.2.1 (12 * p + g) hr
  have e208 : ∀ c, c < 5 → zev X 208 0 [.ref 168, .int (zi p), .int (zi g), .int (zi c)] [] (zHP (zrow (zth D 0) 172 s) O, k) = some (.inl (some (.int (s (46 + 5 * (12 * p + g) + c)))), (zHP (zrow (zth D 0) 172 s) O, k)) := fun c hc => m208 hp6 hg12 hc
  have e3 := e208 3 (by omega)
  rw [a4] at e3
  have start : ∀ t R, zswi 53 110 3 8 #[39, 49, 55, 63, 80, 90] (zi w) = some t → zev X 227 t [.ref 168, .int (zi p), .int (zi g), .int (zi w), .int (zb (sSold T (12 * p + g)))] [] (zHP (zrow (zth D 0) 172 s) O, k) = R → zev X 227 0 [.ref 168, .int (zi p), .int (zi g), .int (zi w), zJ] [] (zHP (zrow D 172 s) O, k) = R := by
    intro t R ht hR
    rw [← hR]
    simp (disch := first | assumption | omega) only [b227_0, e228, b227_6, e175, b227_17, m176f0, ↓zn_l, zl_0, zl_1, zl_2, zl_3, zl_4, zl_5, zl_6, zl_7, zl_8, zl_9, zl_10, zl_11, zl_12, zl_13, zl_14, zl_15, zl_16, zl_17, zl_18, zl_19, zl_20, zl_21, zl_22, zl_23, zl_24, zl_25, zl_26, zl_27, zl_28, zl_29, zl_30, zl_31, zl_32, zl_36, zl_46, zl_48, zl_50, zl_57, zl_63, zl_64, zl_72, zl_97, zl_99, zl_100, zl_101, zl_122, zl_127, zl_200, zl_255, zl_406, zl_534, zl_540, zl_600, zl_9999, zl_33, zl_34, zl_35, zl_37, zl_38, zl_39, zl_40, zl_41, zl_42, zl_43, zl_44, zl_45, zl_47, zl_49, zl_52, zl_53, zl_54, zl_55, zl_58, zl_59, zl_60, zl_61, zl_62, zl_65, zl_70, zl_71, zl_98, zl_102, zl_103, zl_104, zl_105, zl_110, zl_111, zl_115, zl_120, zl_123, zl_126, zl_128, zl_256, zl_1000, zl_1024, zcon_inl, zcon_inr, Option.toList_some, Option.toList_none, List.cons_append, List.nil_append, List.append_nil, Nat.add_zero, zbind_some, zi_inj, if_true, if_false, (by omega : ¬ (1 : Nat) = 0), b227_29, e3]
    refine b227_41.trans ?_
    rw [ht, zn_l, zl_0, zl_1]
    by_cases hs : T 3 (5 * (12 * p + g) + 3) = zn
    · have e : sSold T (12 * p + g) = false := by unfold sSold; simp [hs]
      rw [if_pos hs, e]
      rfl
    · have e : sSold T (12 * p + g) = true := by unfold sSold; simp [hs]
      rw [if_neg hs, e]
      rfl
  rcases (by omega : w = 0 ∨ w = 1 ∨ w = 2 ∨ w = 3 ∨ w = 4 ∨ w = 5 ∨ w = 6 ∨ w = 7 ∨ w = 8) with rfl | rfl | rfl | rfl | rfl | rfl | rfl | rfl | rfl
  · refine start 163 _ (by decide) ?_
    have := e208 0 (by omega)
    rw [Nat.add_zero (46 + 5 * (12 * p + g)), a1] at this
    rw [b227_163, this, zcon_inl]
    exact b227_170
  · refine start 163 _ (by decide) ?_
    rw [b227_163, e208 1 (by omega), zcon_inl, a2]
    exact b227_170
  · refine start 163 _ (by decide) ?_
    rw [b227_163, e208 2 (by omega), zcon_inl, a3]
    exact b227_170
  · refine start 92 _ (by decide) ?_
    rw [b227_92, m215 I S0 R hp6 hg12, zcon_inl]
    refine b227_98.trans ?_
    rw [m204, zcon_inl]
    exact b227_101
  · refine start 102 _ (by decide) ?_
    rw [b227_102, m204, zcon_inl]
    exact b227_107
  · refine start 108 _ (by decide) ?_
    rw [b227_108, zl_3, e3, zcon_inl]
    exact b227_115
  · refine start 116 _ (by decide) ?_
    refine b227_116.trans ?_
    rw [zl_0, zn_l]
    by_cases hs : T 3 (5 * (12 * p + g) + 3) = zn
    · have e : sSold T (12 * p + g) = false := by unfold sSold; simp [hs]
      rw [e, if_pos zb_f]
      unfold rPage
      simp [P _ hr hs]
    · have e : sSold T (12 * p + g) = true := by unfold sSold; simp [hs]
      rw [e, if_neg zbt0, zl_4, e208 4 (by omega), zcon_inl, a5 hs]
      exact b227_128
  · refine start 133 _ (by decide) ?_
    rw [b227_133, m212 I S0 R hp hg12, zcon_inl]
    refine b227_139.trans ?_
    rw [m204, zcon_inl]
    exact b227_142
  · refine start 143 _ (by decide) ?_
    rw [b227_143, m214 R hp6 hg12, zcon_inl]
    refine b227_149.trans ?_
    rw [zl_0, zn_l]
    cases hi : sIn T (12 * p + g)
    · rw [if_pos zb_f]
      unfold rPage
      simp [hi]
    · rw [if_neg zbt0, m218 I R hp hg12 hi, zcon_inl]
      refine b227_158.trans ?_
      unfold rPage
      simp [hi]
theorem m227n1 {a b c : Int32} (h : D 168 1 = zi 0) : zev X 227 0 [.ref 168, .int a, .int b, .int c, zJ] [] (zHP (zrow D 172 s) O, k) = some (.inl (some (.int (zi 0))), (zHP (zrow (zth D 1) 172 s) O, k)) := by
  have e := m228n1 (X := X) (s := s) (O := O) (k := k) (a := a) (b := b) h
  simp (disch := first | assumption | omega) only [b227_0, b227_6, ↓zn_l, zl_0, zl_1, zl_2, zl_3, zl_4, zl_5, zl_6, zl_7, zl_8, zl_9, zl_10, zl_11, zl_12, zl_13, zl_14, zl_15, zl_16, zl_17, zl_18, zl_19, zl_20, zl_21, zl_22, zl_23, zl_24, zl_25, zl_26, zl_27, zl_28, zl_29, zl_30, zl_31, zl_32, zl_36, zl_46, zl_48, zl_50, zl_57, zl_63, zl_64, zl_72, zl_97, zl_99, zl_100, zl_101, zl_122, zl_127, zl_200, zl_255, zl_406, zl_534, zl_540, zl_600, zl_9999, zl_33, zl_34, zl_35, zl_37, zl_38, zl_39, zl_40, zl_41, zl_42, zl_43, zl_44, zl_45, zl_47, zl_49, zl_52, zl_53, zl_54, zl_55, zl_58, zl_59, zl_60, zl_61, zl_62, zl_65, zl_70, zl_71, zl_98, zl_102, zl_103, zl_104, zl_105, zl_110, zl_111, zl_115, zl_120, zl_123, zl_126, zl_128, zl_256, zl_1000, zl_1024, zcon_inl, zcon_inr, Option.toList_some, Option.toList_none, List.cons_append, List.nil_append, List.append_nil, Nat.add_zero, zbind_some, zi_toNat, zi_lt, zi_inj, zi_add, zi_mul, zi_ne_zn, zn_ne_zi, zn_lt_zi, zi_lt_zn, Nat.not_lt_zero, false_or, if_true, if_false, true_or, or_false, Nat.reduceEqDiff, eq_self, e]
theorem m227n2 {a b c : Int32} (I : zIv T) (S : zRs D T) (h : D 168 1 = zi 1) (ha : a < zi 0 ∨ ¬ a < zi (sNp T)) : zev X 227 0 [.ref 168, .int a, .int b, .int c, zJ] [] (zHP (zrow D 172 s) O, k) = some (.inl (some (.int (zi 0))), (zHP (zrow (zth D 2) 172 s) O, k)) := by
  have e := m228n2 (X := X) (s := s) (O := O) (k := k) (b := b) I S h ha
  simp (disch := first | assumption | omega) only [b227_0, b227_6, ↓zn_l, zl_0, zl_1, zl_2, zl_3, zl_4, zl_5, zl_6, zl_7, zl_8, zl_9, zl_10, zl_11, zl_12, zl_13, zl_14, zl_15, zl_16, zl_17, zl_18, zl_19, zl_20, zl_21, zl_22, zl_23, zl_24, zl_25, zl_26, zl_27, zl_28, zl_29, zl_30, zl_31, zl_32, zl_36, zl_46, zl_48, zl_50, zl_57, zl_63, zl_64, zl_72, zl_97, zl_99, zl_100, zl_101, zl_122, zl_127, zl_200, zl_255, zl_406, zl_534, zl_540, zl_600, zl_9999, zl_33, zl_34, zl_35, zl_37, zl_38, zl_39, zl_40, zl_41, zl_42, zl_43, zl_44, zl_45, zl_47, zl_49, zl_52, zl_53, zl_54, zl_55, zl_58, zl_59, zl_60, zl_61, zl_62, zl_65, zl_70, zl_71, zl_98, zl_102, zl_103, zl_104, zl_105, zl_110, zl_111, zl_115, zl_120, zl_123, zl_126, zl_128, zl_256, zl_1000, zl_1024, zcon_inl, zcon_inr, Option.toList_some, Option.toList_none, List.cons_append, List.nil_append, List.append_nil, Nat.add_zero, zbind_some, zi_toNat, zi_lt, zi_inj, zi_add, zi_mul, zi_ne_zn, zn_ne_zi, zn_lt_zi, zi_lt_zn, Nat.not_lt_zero, false_or, if_true, if_false, true_or, or_false, Nat.reduceEqDiff, eq_self, e]
theorem m227n3 {p : Nat} {b c : Int32} (I : zIv T) (S : zRs D T) (h : D 168 1 = zi 1) (hp : p < sNp T) (hb : b < zi 0 ∨ ¬ b < zi (sPgs T p)) : zev X 227 0 [.ref 168, .int (zi p), .int b, .int c, zJ] [] (zHP (zrow D 172 s) O, k) = some (.inl (some (.int (zi 0))), (zHP (zrow (zth D 2) 172 s) O, k)) := by
  have e := m228n3 (X := X) (s := s) (O := O) (k := k) I S h hp hb
  simp (disch := first | assumption | omega) only [b227_0, b227_6, ↓zn_l, zl_0, zl_1, zl_2, zl_3, zl_4, zl_5, zl_6, zl_7, zl_8, zl_9, zl_10, zl_11, zl_12, zl_13, zl_14, zl_15, zl_16, zl_17, zl_18, zl_19, zl_20, zl_21, zl_22, zl_23, zl_24, zl_25, zl_26, zl_27, zl_28, zl_29, zl_30, zl_31, zl_32, zl_36, zl_46, zl_48, zl_50, zl_57, zl_63, zl_64, zl_72, zl_97, zl_99, zl_100, zl_101, zl_122, zl_127, zl_200, zl_255, zl_406, zl_534, zl_540, zl_600, zl_9999, zl_33, zl_34, zl_35, zl_37, zl_38, zl_39, zl_40, zl_41, zl_42, zl_43, zl_44, zl_45, zl_47, zl_49, zl_52, zl_53, zl_54, zl_55, zl_58, zl_59, zl_60, zl_61, zl_62, zl_65, zl_70, zl_71, zl_98, zl_102, zl_103, zl_104, zl_105, zl_110, zl_111, zl_115, zl_120, zl_123, zl_126, zl_128, zl_256, zl_1000, zl_1024, zcon_inl, zcon_inr, Option.toList_some, Option.toList_none, List.cons_append, List.nil_append, List.append_nil, Nat.add_zero, zbind_some, zi_toNat, zi_lt, zi_inj, zi_add, zi_mul, zi_ne_zn, zn_ne_zi, zn_lt_zi, zi_lt_zn, Nat.not_lt_zero, false_or, if_true, if_false, true_or, or_false, Nat.reduceEqDiff, eq_self, e]
theorem m227n4 {p g : Nat} {c : Int32} (I : zIv T) (S : zRs D T) (h : D 168 1 = zi 1) (hp : p < sNp T) (hg : g < sPgs T p) (hc : c < zi 0 ∨ zi 8 < c) : zev X 227 0 [.ref 168, .int (zi p), .int (zi g), .int c, zJ] [] (zHP (zrow D 172 s) O, k) = some (.inl (some (.int (zi 0))), (zHP (zrow (zth D 3) 172 s) O, k)) := by
  have e := m228 (X := X) (s := s) (O := O) (k := k) I S h hp hg
  simp (disch := first | assumption | omega) only [b227_0, b227_6, b227_17, b227_29, ↓zn_l, zl_0, zl_1, zl_2, zl_3, zl_4, zl_5, zl_6, zl_7, zl_8, zl_9, zl_10, zl_11, zl_12, zl_13, zl_14, zl_15, zl_16, zl_17, zl_18, zl_19, zl_20, zl_21, zl_22, zl_23, zl_24, zl_25, zl_26, zl_27, zl_28, zl_29, zl_30, zl_31, zl_32, zl_36, zl_46, zl_48, zl_50, zl_57, zl_63, zl_64, zl_72, zl_97, zl_99, zl_100, zl_101, zl_122, zl_127, zl_200, zl_255, zl_406, zl_534, zl_540, zl_600, zl_9999, zl_33, zl_34, zl_35, zl_37, zl_38, zl_39, zl_40, zl_41, zl_42, zl_43, zl_44, zl_45, zl_47, zl_49, zl_52, zl_53, zl_54, zl_55, zl_58, zl_59, zl_60, zl_61, zl_62, zl_65, zl_70, zl_71, zl_98, zl_102, zl_103, zl_104, zl_105, zl_110, zl_111, zl_115, zl_120, zl_123, zl_126, zl_128, zl_256, zl_1000, zl_1024, zcon_inl, zcon_inr, Option.toList_some, Option.toList_none, List.cons_append, List.nil_append, List.append_nil, Nat.add_zero, zbind_some, zi_toNat, zi_lt, zi_inj, zi_add, zi_mul, zi_ne_zn, zn_ne_zi, zn_lt_zi, zi_lt_zn, Nat.not_lt_zero, false_or, if_true, if_false, true_or, or_false, Nat.reduceEqDiff, eq_self, e, m175w, m176t0]
theorem sFirst_cnt {f : Nat} (hf : f < 64) : sFirst T f = none → sCnt T f = 0 := by
  intro h
  have key : ∀ d i c, zfn (fun r => decide (T 3 (5 * r) = zi f)) d i = none → zct (fun r => decide (T 3 (5 * r) = zi f)) d i c = c := by
    intro d
    induction d with
    | zero => intro i c _; rfl
    | succ d ih =>
      intro i c h
      rw [zfn] at h
      split at h
      · cases h
      · rename_i hn
        show zct _ d (i + 1) (if decide (T 3 (5 * i) = zi f) = true then c + 1 else c) = c
        rw [if_neg hn]
        exact ih (i + 1) c h
  exact key 72 0 0 h
theorem m230 {f w : Nat} (I : zIv T) (S : zRs D T) (R : zRd s T) (h : D 168 1 = zi 1) (hf : f < sNf T) (h5 : w ≤ 5) : zev X 230 0 [.ref 168, .int (zi f), .int (zi w), zJ] [] (zHP (zrow D 172 s) O, k) = some (.inl (some (.int (rFrame T f w))), (zHP (zrow (zth D 0) 172 s) O, k)) := by
  have n3 := zIv_nf I
  have n4 := zIv_nf64 I
  have hf64 : f < 64 := by omega
  have S0 := zRs_th (c := 0) S
  have e199 := m199 (X := X) (s := s) (O := O) (k := k) h
  have eF : zrow (zth D 0) 172 s 168 2 = zi (sNf T) := by rw [e168s, S0.1.2.1, n3]
  have e175a := m175y (X := X) (D := zrow (zth D 0) 172 s) (O := O) (k := k) hf (by omega)
  have e175 := m175z (X := X) (D := zrow (zth D 0) 172 s) (O := O) (k := k) (q := w) (l := 0) (n := 5) (by omega) h5 (by omega)
  have e231 := m231 (X := X) (O := O) (k := k) I S0 R hf64
  have e206 := m206 (X := X) (O := O) (k := k) I S0 R hf
  have hlt : ∀ r, sFirst T f = some r → r < 72 := fun r hr => by have := zfn_some hr; omega
  have start : ∀ t R, zswi 65 103 0 4 #[35, 41, 63, 83, 89] (zi w) = some t → zev X 230 t [.ref 168, .int (zi f), .int (zi w), .int (zo (sFirst T f))] [] (zHP (zrow (zth D 0) 172 s) O, k) = R → zev X 230 0 [.ref 168, .int (zi f), .int (zi w), zJ] [] (zHP (zrow D 172 s) O, k) = R := by
    intro t R ht hR
    rw [← hR]
    simp (disch := first | assumption | omega) only [b230_0, e199, b230_4, eF, e175a, b230_19, m176f0, b230_31, e175, b230_41, b230_53, e231, ↓zn_l, zl_0, zl_1, zl_2, zl_3, zl_4, zl_5, zl_6, zl_7, zl_8, zl_9, zl_10, zl_11, zl_12, zl_13, zl_14, zl_15, zl_16, zl_17, zl_18, zl_19, zl_20, zl_21, zl_22, zl_23, zl_24, zl_25, zl_26, zl_27, zl_28, zl_29, zl_30, zl_31, zl_32, zl_36, zl_46, zl_48, zl_50, zl_57, zl_63, zl_64, zl_72, zl_97, zl_99, zl_100, zl_101, zl_122, zl_127, zl_200, zl_255, zl_406, zl_534, zl_540, zl_600, zl_9999, zl_33, zl_34, zl_35, zl_37, zl_38, zl_39, zl_40, zl_41, zl_42, zl_43, zl_44, zl_45, zl_47, zl_49, zl_52, zl_53, zl_54, zl_55, zl_58, zl_59, zl_60, zl_61, zl_62, zl_65, zl_70, zl_71, zl_98, zl_102, zl_103, zl_104, zl_105, zl_110, zl_111, zl_115, zl_120, zl_123, zl_126, zl_128, zl_256, zl_1000, zl_1024, zcon_inl, zcon_inr, Option.toList_some, Option.toList_none, List.cons_append, List.nil_append, List.append_nil, Nat.add_zero, zbind_some, zi_inj, if_true, if_false, (by omega : ¬ (1 : Nat) = 0)]
    refine b230_63.trans ?_
    rw [ht]
    rfl
  rcases (by omega : w = 0 ∨ w = 1 ∨ w = 2 ∨ w = 3 ∨ w = 4 ∨ w = 5) with rfl | rfl | rfl | rfl | rfl | rfl
  · refine start 100 _ (by decide) ?_
    rw [b230_100, e206, zcon_inl]
    exact b230_105
  · refine start 106 _ (by decide) ?_
    refine b230_106.trans ?_
    have hd := zDty I hf64
    have hr1 : rFrame T f 1 = T 4 (3 * f + 1) := rfl
    rw [hr1, hd]
    cases hs : sFirst T f with
    | none =>
      have hc := sFirst_cnt hf64 hs
      have hz : sDirty T f = false := by
        rcases I.2.2.2.2.1.2.1 f hf64 with a | ⟨-, b⟩
        · unfold sDirty; simp [a]
        · omega
      rw [show zo none = zn from rfl, zn_l, if_pos rfl, zl_0, m204_0, zcon_inl, hz]
      exact b230_127
    | some r =>
      have := hlt r hs
      rw [show zo (some r) = zi r from rfl, zn_l, if_neg (by rw [zi_ne_zn (by omega)]; simp), m219 I R hf, zcon_inl]
      refine b230_116.trans ?_
      rw [zl_0, zl_1]
      cases sDirty T f
      · rw [if_pos zb_f, m204_0, zcon_inl]
        exact b230_127
      · rw [if_neg zbt0, m204_1, zcon_inl]
        exact b230_127
  · refine start 128 _ (by decide) ?_
    rw [b230_128, e206, zcon_inl]
    refine b230_133.trans ?_
    have hr1 : rFrame T f 2 = T 4 (3 * f + 2) := rfl
    have e209 := @m209 X (zth D 0) s O k f 0 hf64 (by omega)
    rw [Nat.add_zero (406 + 2 * f)] at e209
    rw [hr1, zl_2, zl_0, zn_l]
    have hc := I.2.2.2.2.1.1 f hf64
    have hle := sCnt_le T f
    by_cases h0 : zi 0 < T 4 (3 * f)
    · have e : sState T f = zi 1 := by unfold sState; rw [if_pos h0]
      have hz : T 4 (3 * f + 2) = zn := by
        rcases I.2.2.2.2.1.2.2 f hf64 with a | ⟨a, -⟩
        · exact a
        · rw [hc, zi_lt (by omega) (by omega)] at h0
          omega
      rw [e, if_neg (by rw [zi_inj (by omega) (by omega)]; omega), hz]
    · by_cases hu : T 4 (3 * f + 2) = zn
      · have e : sState T f = zi 0 := by unfold sState; rw [if_neg h0, if_pos hu]
        rw [e, if_neg (by rw [zi_inj (by omega) (by omega)]; omega), hu]
      · have e : sState T f = zi 2 := by unfold sState; rw [if_neg h0, if_neg hu]
        rw [e, if_pos rfl, e209, zcon_inl]
        have hz : T 4 (3 * f) = zi 0 := by
          rw [hc, zi_lt (by omega) (by omega)] at h0
          rw [hc]
          congr 1
          omega
        rcases (R.2.2.2.1 f hf).2 hz with ⟨a, -⟩ | ⟨a, -⟩
        · exact absurd a hu
        · rw [← a]
          exact b230_143
  · refine start 148 _ (by decide) ?_
    rw [b230_148, m207 I S0 R hf64, zcon_inl, ← I.2.2.2.2.1.1 f hf64]
    exact b230_153
  · refine start 154 _ (by decide) ?_
    unfold rFrame
    cases hs : sFirst T f with
    | none => simp (disch := first | assumption | omega) only [b230_154, zo, ↓zn_l, zl_0, zl_1, zl_2, zl_3, zl_4, zl_5, zl_6, zl_7, zl_8, zl_9, zl_10, zl_11, zl_12, zl_13, zl_14, zl_15, zl_16, zl_17, zl_18, zl_19, zl_20, zl_21, zl_22, zl_23, zl_24, zl_25, zl_26, zl_27, zl_28, zl_29, zl_30, zl_31, zl_32, zl_36, zl_46, zl_48, zl_50, zl_57, zl_63, zl_64, zl_72, zl_97, zl_99, zl_100, zl_101, zl_122, zl_127, zl_200, zl_255, zl_406, zl_534, zl_540, zl_600, zl_9999, zl_33, zl_34, zl_35, zl_37, zl_38, zl_39, zl_40, zl_41, zl_42, zl_43, zl_44, zl_45, zl_47, zl_49, zl_52, zl_53, zl_54, zl_55, zl_58, zl_59, zl_60, zl_61, zl_62, zl_65, zl_70, zl_71, zl_98, zl_102, zl_103, zl_104, zl_105, zl_110, zl_111, zl_115, zl_120, zl_123, zl_126, zl_128, zl_256, zl_1000, zl_1024, zcon_inl, zcon_inr, Option.toList_some, Option.toList_none, List.cons_append, List.nil_append, List.append_nil, Nat.add_zero, zbind_some, zi_toNat, zi_lt, zi_inj, zi_add, zi_mul, zi_ne_zn, zn_ne_zi, zn_lt_zi, zi_lt_zn, Nat.not_lt_zero, false_or, if_true, if_false, true_or, or_false, Nat.reduceEqDiff, eq_self]; rfl
    | some r =>
      have := hlt r hs
      simp (disch := first | assumption | omega) only [b230_154, zo, ↓zn_l, zl_0, zl_1, zl_2, zl_3, zl_4, zl_5, zl_6, zl_7, zl_8, zl_9, zl_10, zl_11, zl_12, zl_13, zl_14, zl_15, zl_16, zl_17, zl_18, zl_19, zl_20, zl_21, zl_22, zl_23, zl_24, zl_25, zl_26, zl_27, zl_28, zl_29, zl_30, zl_31, zl_32, zl_36, zl_46, zl_48, zl_50, zl_57, zl_63, zl_64, zl_72, zl_97, zl_99, zl_100, zl_101, zl_122, zl_127, zl_200, zl_255, zl_406, zl_534, zl_540, zl_600, zl_9999, zl_33, zl_34, zl_35, zl_37, zl_38, zl_39, zl_40, zl_41, zl_42, zl_43, zl_44, zl_45, zl_47, zl_49, zl_52, zl_53, zl_54, zl_55, zl_58, zl_59, zl_60, zl_61, zl_62, zl_65, zl_70, zl_71, zl_98, zl_102, zl_103, zl_104, zl_105, zl_110, zl_111, zl_115, zl_120, zl_123, zl_126, zl_128, zl_256, zl_1000, zl_1024, zcon_inl, zcon_inr, Option.toList_some, Option.toList_none, List.cons_append, List.nil_append, List.append_nil, Nat.add_zero, zbind_some, zi_toNat, zi_lt, zi_inj, zi_add, zi_mul, zi_ne_zn, zn_ne_zi, zn_lt_zi, zi_lt_zn, Nat.not_lt_zero, false_or, if_true, if_false, true_or, or_false, Nat.reduceEqDiff, eq_self, zi_div]
      rfl
  · refine start 168 _ (by decide) ?_
    unfold rFrame
    cases hs : sFirst T f with
    | none => simp (disch := first | assumption | omega) only [b230_168, zo, ↓zn_l, zl_0, zl_1, zl_2, zl_3, zl_4, zl_5, zl_6, zl_7, zl_8, zl_9, zl_10, zl_11, zl_12, zl_13, zl_14, zl_15, zl_16, zl_17, zl_18, zl_19, zl_20, zl_21, zl_22, zl_23, zl_24, zl_25, zl_26, zl_27, zl_28, zl_29, zl_30, zl_31, zl_32, zl_36, zl_46, zl_48, zl_50, zl_57, zl_63, zl_64, zl_72, zl_97, zl_99, zl_100, zl_101, zl_122, zl_127, zl_200, zl_255, zl_406, zl_534, zl_540, zl_600, zl_9999, zl_33, zl_34, zl_35, zl_37, zl_38, zl_39, zl_40, zl_41, zl_42, zl_43, zl_44, zl_45, zl_47, zl_49, zl_52, zl_53, zl_54, zl_55, zl_58, zl_59, zl_60, zl_61, zl_62, zl_65, zl_70, zl_71, zl_98, zl_102, zl_103, zl_104, zl_105, zl_110, zl_111, zl_115, zl_120, zl_123, zl_126, zl_128, zl_256, zl_1000, zl_1024, zcon_inl, zcon_inr, Option.toList_some, Option.toList_none, List.cons_append, List.nil_append, List.append_nil, Nat.add_zero, zbind_some, zi_toNat, zi_lt, zi_inj, zi_add, zi_mul, zi_ne_zn, zn_ne_zi, zn_lt_zi, zi_lt_zn, Nat.not_lt_zero, false_or, if_true, if_false, true_or, or_false, Nat.reduceEqDiff, eq_self]; rfl
    | some r =>
      have := hlt r hs
      have hle : r / 12 * 12 ≤ r := Nat.div_mul_le_self r 12
      simp (disch := first | assumption | omega) only [b230_168, zo, ↓zn_l, zl_0, zl_1, zl_2, zl_3, zl_4, zl_5, zl_6, zl_7, zl_8, zl_9, zl_10, zl_11, zl_12, zl_13, zl_14, zl_15, zl_16, zl_17, zl_18, zl_19, zl_20, zl_21, zl_22, zl_23, zl_24, zl_25, zl_26, zl_27, zl_28, zl_29, zl_30, zl_31, zl_32, zl_36, zl_46, zl_48, zl_50, zl_57, zl_63, zl_64, zl_72, zl_97, zl_99, zl_100, zl_101, zl_122, zl_127, zl_200, zl_255, zl_406, zl_534, zl_540, zl_600, zl_9999, zl_33, zl_34, zl_35, zl_37, zl_38, zl_39, zl_40, zl_41, zl_42, zl_43, zl_44, zl_45, zl_47, zl_49, zl_52, zl_53, zl_54, zl_55, zl_58, zl_59, zl_60, zl_61, zl_62, zl_65, zl_70, zl_71, zl_98, zl_102, zl_103, zl_104, zl_105, zl_110, zl_111, zl_115, zl_120, zl_123, zl_126, zl_128, zl_256, zl_1000, zl_1024, zcon_inl, zcon_inr, Option.toList_some, Option.toList_none, List.cons_append, List.nil_append, List.append_nil, Nat.add_zero, zbind_some, zi_toNat, zi_lt, zi_inj, zi_add, zi_mul, zi_ne_zn, zn_ne_zi, zn_lt_zi, zi_lt_zn, Nat.not_lt_zero, false_or, if_true, if_false, true_or, or_false, Nat.reduceEqDiff, eq_self, zi_div, zi_sub]
      rfl
theorem m230n1 {a b : Int32} (h : D 168 1 = zi 0) : zev X 230 0 [.ref 168, .int a, .int b, zJ] [] (zHP (zrow D 172 s) O, k) = some (.inl (some (.int (zi 0))), (zHP (zrow (zth D 1) 172 s) O, k)) := by
  simp (disch := first | assumption | omega) only [b230_0, b230_4, ↓zn_l, zl_0, zl_1, zl_2, zl_3, zl_4, zl_5, zl_6, zl_7, zl_8, zl_9, zl_10, zl_11, zl_12, zl_13, zl_14, zl_15, zl_16, zl_17, zl_18, zl_19, zl_20, zl_21, zl_22, zl_23, zl_24, zl_25, zl_26, zl_27, zl_28, zl_29, zl_30, zl_31, zl_32, zl_36, zl_46, zl_48, zl_50, zl_57, zl_63, zl_64, zl_72, zl_97, zl_99, zl_100, zl_101, zl_122, zl_127, zl_200, zl_255, zl_406, zl_534, zl_540, zl_600, zl_9999, zl_33, zl_34, zl_35, zl_37, zl_38, zl_39, zl_40, zl_41, zl_42, zl_43, zl_44, zl_45, zl_47, zl_49, zl_52, zl_53, zl_54, zl_55, zl_58, zl_59, zl_60, zl_61, zl_62, zl_65, zl_70, zl_71, zl_98, zl_102, zl_103, zl_104, zl_105, zl_110, zl_111, zl_115, zl_120, zl_123, zl_126, zl_128, zl_256, zl_1000, zl_1024, zcon_inl, zcon_inr, Option.toList_some, Option.toList_none, List.cons_append, List.nil_append, List.append_nil, Nat.add_zero, zbind_some, zi_toNat, zi_lt, zi_inj, zi_add, zi_mul, zi_ne_zn, zn_ne_zi, zn_lt_zi, zi_lt_zn, Nat.not_lt_zero, false_or, if_true, if_false, true_or, or_false, Nat.reduceEqDiff, eq_self, m199n, h]
theorem m230n2 {a b : Int32} (I : zIv T) (S : zRs D T) (h : D 168 1 = zi 1) (ha : a < zi 0 ∨ ¬ a < zi (sNf T)) : zev X 230 0 [.ref 168, .int a, .int b, zJ] [] (zHP (zrow D 172 s) O, k) = some (.inl (some (.int (zi 0))), (zHP (zrow (zth D 2) 172 s) O, k)) := by
  have n4 := zIv_nf64 I
  have eF : zrow (zth D 0) 172 s 168 2 = zi (sNf T) := by rw [e168s, (zRs_th (c := 0) S).1.2.1, zIv_nf I]
  have e := m175x (X := X) (D := zrow (zth D 0) 172 s) (O := O) (k := k) ha (by omega)
  simp (disch := first | assumption | omega) only [b230_0, b230_4, b230_19, b230_31, ↓zn_l, zl_0, zl_1, zl_2, zl_3, zl_4, zl_5, zl_6, zl_7, zl_8, zl_9, zl_10, zl_11, zl_12, zl_13, zl_14, zl_15, zl_16, zl_17, zl_18, zl_19, zl_20, zl_21, zl_22, zl_23, zl_24, zl_25, zl_26, zl_27, zl_28, zl_29, zl_30, zl_31, zl_32, zl_36, zl_46, zl_48, zl_50, zl_57, zl_63, zl_64, zl_72, zl_97, zl_99, zl_100, zl_101, zl_122, zl_127, zl_200, zl_255, zl_406, zl_534, zl_540, zl_600, zl_9999, zl_33, zl_34, zl_35, zl_37, zl_38, zl_39, zl_40, zl_41, zl_42, zl_43, zl_44, zl_45, zl_47, zl_49, zl_52, zl_53, zl_54, zl_55, zl_58, zl_59, zl_60, zl_61, zl_62, zl_65, zl_70, zl_71, zl_98, zl_102, zl_103, zl_104, zl_105, zl_110, zl_111, zl_115, zl_120, zl_123, zl_126, zl_128, zl_256, zl_1000, zl_1024, zcon_inl, zcon_inr, Option.toList_some, Option.toList_none, List.cons_append, List.nil_append, List.append_nil, Nat.add_zero, zbind_some, zi_toNat, zi_lt, zi_inj, zi_add, zi_mul, zi_ne_zn, zn_ne_zi, zn_lt_zi, zi_lt_zn, Nat.not_lt_zero, false_or, if_true, if_false, true_or, or_false, Nat.reduceEqDiff, eq_self, m199, h, eF, e, m176t0]
theorem m230n3 {f : Nat} {b : Int32} (I : zIv T) (S : zRs D T) (h : D 168 1 = zi 1) (hf : f < sNf T) (hb : b < zi 0 ∨ zi 5 < b) : zev X 230 0 [.ref 168, .int (zi f), .int b, zJ] [] (zHP (zrow D 172 s) O, k) = some (.inl (some (.int (zi 0))), (zHP (zrow (zth D 3) 172 s) O, k)) := by
  have n4 := zIv_nf64 I
  have eF : zrow (zth D 0) 172 s 168 2 = zi (sNf T) := by rw [e168s, (zRs_th (c := 0) S).1.2.1, zIv_nf I]
  have e := m175y (X := X) (D := zrow (zth D 0) 172 s) (O := O) (k := k) hf (by omega)
  simp (disch := first | assumption | omega) only [b230_0, b230_4, b230_19, b230_31, b230_41, b230_53, ↓zn_l, zl_0, zl_1, zl_2, zl_3, zl_4, zl_5, zl_6, zl_7, zl_8, zl_9, zl_10, zl_11, zl_12, zl_13, zl_14, zl_15, zl_16, zl_17, zl_18, zl_19, zl_20, zl_21, zl_22, zl_23, zl_24, zl_25, zl_26, zl_27, zl_28, zl_29, zl_30, zl_31, zl_32, zl_36, zl_46, zl_48, zl_50, zl_57, zl_63, zl_64, zl_72, zl_97, zl_99, zl_100, zl_101, zl_122, zl_127, zl_200, zl_255, zl_406, zl_534, zl_540, zl_600, zl_9999, zl_33, zl_34, zl_35, zl_37, zl_38, zl_39, zl_40, zl_41, zl_42, zl_43, zl_44, zl_45, zl_47, zl_49, zl_52, zl_53, zl_54, zl_55, zl_58, zl_59, zl_60, zl_61, zl_62, zl_65, zl_70, zl_71, zl_98, zl_102, zl_103, zl_104, zl_105, zl_110, zl_111, zl_115, zl_120, zl_123, zl_126, zl_128, zl_256, zl_1000, zl_1024, zcon_inl, zcon_inr, Option.toList_some, Option.toList_none, List.cons_append, List.nil_append, List.append_nil, Nat.add_zero, zbind_some, zi_toNat, zi_lt, zi_inj, zi_add, zi_mul, zi_ne_zn, zn_ne_zi, zn_lt_zi, zi_lt_zn, Nat.not_lt_zero, false_or, if_true, if_false, true_or, or_false, Nat.reduceEqDiff, eq_self, m199, h, eF, e, m175w, m176f0, m176t0]
end
