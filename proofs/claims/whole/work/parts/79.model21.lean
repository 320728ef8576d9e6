/-! The model's further changes. -/
section
variable {X : ZX} {D T : ZD2} {s : Nat → Int32} {O : ZO2} {k : Nat × Nat × Nat}
theorem zTu {f r : Nat} (I : zIv T) (hr : r < 72) (hf : f < 64) (ha : T 3 (5 * r) = zi f) : T 4 (3 * f + 2) = zn := by
  rcases I.2.2.2.2.1.2.2 f hf with a | ⟨a, -⟩
  · exact a
  · have := sCnt_pos hr ha; omega
theorem zDone {D1 : ZD2} {s1 : Nat → Int32} {U : ZD2} {f : Nat} (IU : zIv U) (SU : zRs D1 U) (RU : zRd s1 U) (hf : f < 64) : zev X 207 0 [.ref 168, .int (zi f), zJ, zJ, zJ] [] (zHP (zrow D1 172 s1) O, k) = some (.inl (some (.int (U 4 (3 * f)))), (zHP (zrow D1 172 s1) O, k)) := by
  rw [m207 IU SU RU hf, IU.2.2.2.2.1.1 f hf]
theorem m288pre {p g q t : Nat} (I : zIv T) (S : zRs D T) (R : zRd s T) (h : D 168 1 = zi 1) (hp : p < sNp T) (hg : g < sPgs T p) (hq : q < sNp T) (ht : t < sPgs T q) : zev X 288 0 [.ref 168, .int (zi p), .int (zi g), .int (zi q), .int (zi t), zJ] [] (zHP (zrow D 172 s) O, k) = if sEnd T p = false ∧ sEnd T q = false ∧ sIn T (12 * p + g) = true ∧ sIn T (12 * q + t) = false then zev X 288 77 [.ref 168, .int (zi p), .int (zi g), .int (zi q), .int (zi t), zJ] [.int (zi 0)] (zHP (zrow (zth D 0) 172 s) O, k) else some (.inl (some (.int (zi 0))), (zHP (zrow (zth D 3) 172 s) O, k)) := by
  have n2 := zIv_np6 I
  have hp6 : p < 6 := by omega
  have hq6 : q < 6 := by omega
  have g12 := (zIv_pg I hp6).2
  have t12 := (zIv_pg I hq6).2
  have S0 := zRs_th (c := 0) S
  have e228 := m228 (X := X) (s := s) (O := O) (k := k) I S h hp hg
  have e229 := m229 (X := X) (s := s) (O := O) (k := k) I S0 hq ht
  have e202p := m202 (X := X) (D := zth D 0) (O := O) (k := k) I R hp
  have e202q := m202 (X := X) (D := zth D 0) (O := O) (k := k) I R hq
  have e214p := m214 (X := X) (D := zth D 0) (O := O) (k := k) (p := p) (g := g) R hp6 (by omega)
  have e214q := m214 (X := X) (D := zth D 0) (O := O) (k := k) (p := q) (g := t) R hq6 (by omega)
  have start : zev X 288 0 [.ref 168, .int (zi p), .int (zi g), .int (zi q), .int (zi t), zJ] [] (zHP (zrow D 172 s) O, k) = zev X 288 38 [.ref 168, .int (zi p), .int (zi g), .int (zi q), .int (zi t), zJ] [.int (zb (sEnd T p)), .ref 168] (zHP (zrow (zth D 0) 172 s) O, k) := by
    simp (disch := first | assumption | omega) only [b288_0, e228, b288_6, e229, b288_17, m176f0, b288_29, e202p, ↓zn_l, zl_0, zl_1, zl_2, zl_3, zl_4, zl_5, zl_6, zl_7, zl_8, zl_9, zl_10, zl_11, zl_12, zl_13, zl_14, zl_15, zl_16, zl_17, zl_18, zl_19, zl_20, zl_21, zl_22, zl_23, zl_24, zl_25, zl_26, zl_27, zl_28, zl_29, zl_30, zl_31, zl_32, zl_36, zl_46, zl_48, zl_50, zl_57, zl_63, zl_64, zl_72, zl_97, zl_99, zl_100, zl_101, zl_122, zl_127, zl_200, zl_255, zl_406, zl_534, zl_540, zl_600, zl_9999, zl_33, zl_34, zl_35, zl_37, zl_38, zl_39, zl_40, zl_41, zl_42, zl_43, zl_44, zl_45, zl_47, zl_49, zl_52, zl_53, zl_54, zl_55, zl_58, zl_59, zl_60, zl_61, zl_62, zl_65, zl_70, zl_71, zl_98, zl_102, zl_103, zl_104, zl_105, zl_110, zl_111, zl_115, zl_120, zl_123, zl_126, zl_128, zl_256, zl_1000, zl_1024, zcon_inl, zcon_inr, Option.toList_some, Option.toList_none, List.cons_append, List.nil_append, List.append_nil, Nat.add_zero, zbind_some, zi_toNat, zi_lt, zi_inj, zi_add, zi_mul, zi_ne_zn, zn_ne_zi, zn_lt_zi, zi_lt_zn, Nat.not_lt_zero, false_or, if_true, if_false, true_or, or_false, Nat.reduceEqDiff, eq_self]
  have no : zev X 288 77 [.ref 168, .int (zi p), .int (zi g), .int (zi q), .int (zi t), zJ] [.int (zi 1)] (zHP (zrow (zth D 3) 172 s) O, k) = some (.inl (some (.int (zi 0))), (zHP (zrow (zth D 3) 172 s) O, k)) := by
    refine b288_77.trans ?_
    simp (disch := first | assumption | omega) only [↓zn_l, zl_0, zl_1, zl_2, zl_3, zl_4, zl_5, zl_6, zl_7, zl_8, zl_9, zl_10, zl_11, zl_12, zl_13, zl_14, zl_15, zl_16, zl_17, zl_18, zl_19, zl_20, zl_21, zl_22, zl_23, zl_24, zl_25, zl_26, zl_27, zl_28, zl_29, zl_30, zl_31, zl_32, zl_36, zl_46, zl_48, zl_50, zl_57, zl_63, zl_64, zl_72, zl_97, zl_99, zl_100, zl_101, zl_122, zl_127, zl_200, zl_255, zl_406, zl_534, zl_540, zl_600, zl_9999, zl_33, zl_34, zl_35, zl_37, zl_38, zl_39, zl_40, zl_41, zl_42, zl_43, zl_44, zl_45, zl_47, zl_49, zl_52, zl_53, zl_54, zl_55, zl_58, zl_59, zl_60, zl_61, zl_62, zl_65, zl_70, zl_71, zl_98, zl_102, zl_103, zl_104, zl_105, zl_110, zl_111, zl_115, zl_120, zl_123, zl_126, zl_128, zl_256, zl_1000, zl_1024, zcon_inl, zcon_inr, Option.toList_some, Option.toList_none, List.cons_append, List.nil_append, List.append_nil, Nat.add_zero, zbind_some, zi_toNat, zi_lt, zi_inj, zi_add, zi_mul, zi_ne_zn, zn_ne_zi, zn_lt_zi, zi_lt_zn, Nat.not_lt_zero, false_or, if_true, if_false, true_or, or_false, Nat.reduceEqDiff, eq_self]
  rw [start, b288_38]
  simp only [↓zn_l, zl_0, zl_1, zl_2, zl_3, zl_4, zl_5, zl_6, zl_7, zl_8, zl_9, zl_10, zl_11, zl_12, zl_13, zl_14, zl_15, zl_16, zl_17, zl_18, zl_19, zl_20, zl_21, zl_22, zl_23, zl_24, zl_25, zl_26, zl_27, zl_28, zl_29, zl_30, zl_31, zl_32, zl_36, zl_46, zl_48, zl_50, zl_57, zl_63, zl_64, zl_72, zl_97, zl_99, zl_100, zl_101, zl_122, zl_127, zl_200, zl_255, zl_406, zl_534, zl_540, zl_600, zl_9999, zl_33, zl_34, zl_35, zl_37, zl_38, zl_39, zl_40, zl_41, zl_42, zl_43, zl_44, zl_45, zl_47, zl_49, zl_52, zl_53, zl_54, zl_55, zl_58, zl_59, zl_60, zl_61, zl_62, zl_65, zl_70, zl_71, zl_98, zl_102, zl_103, zl_104, zl_105, zl_110, zl_111, zl_115, zl_120, zl_123, zl_126, zl_128, zl_256, zl_1000, zl_1024, zb_0]
  cases h1 : sEnd T p
  · simp only [if_true, e202q, zcon_inl, Option.toList_some, List.cons_append, List.nil_append, true_and]
    rw [b288_46]
    simp only [↓zn_l, zl_0, zl_1, zl_2, zl_3, zl_4, zl_5, zl_6, zl_7, zl_8, zl_9, zl_10, zl_11, zl_12, zl_13, zl_14, zl_15, zl_16, zl_17, zl_18, zl_19, zl_20, zl_21, zl_22, zl_23, zl_24, zl_25, zl_26, zl_27, zl_28, zl_29, zl_30, zl_31, zl_32, zl_36, zl_46, zl_48, zl_50, zl_57, zl_63, zl_64, zl_72, zl_97, zl_99, zl_100, zl_101, zl_122, zl_127, zl_200, zl_255, zl_406, zl_534, zl_540, zl_600, zl_9999, zl_33, zl_34, zl_35, zl_37, zl_38, zl_39, zl_40, zl_41, zl_42, zl_43, zl_44, zl_45, zl_47, zl_49, zl_52, zl_53, zl_54, zl_55, zl_58, zl_59, zl_60, zl_61, zl_62, zl_65, zl_70, zl_71, zl_98, zl_102, zl_103, zl_104, zl_105, zl_110, zl_111, zl_115, zl_120, zl_123, zl_126, zl_128, zl_256, zl_1000, zl_1024, zb_0]
    cases h2 : sEnd T q
    · simp only [if_true, e214p, zcon_inl, Option.toList_some, List.cons_append, List.nil_append, true_and]
      rw [b288_55]
      simp only [↓zn_l, zl_0, zl_1, zl_2, zl_3, zl_4, zl_5, zl_6, zl_7, zl_8, zl_9, zl_10, zl_11, zl_12, zl_13, zl_14, zl_15, zl_16, zl_17, zl_18, zl_19, zl_20, zl_21, zl_22, zl_23, zl_24, zl_25, zl_26, zl_27, zl_28, zl_29, zl_30, zl_31, zl_32, zl_36, zl_46, zl_48, zl_50, zl_57, zl_63, zl_64, zl_72, zl_97, zl_99, zl_100, zl_101, zl_122, zl_127, zl_200, zl_255, zl_406, zl_534, zl_540, zl_600, zl_9999, zl_33, zl_34, zl_35, zl_37, zl_38, zl_39, zl_40, zl_41, zl_42, zl_43, zl_44, zl_45, zl_47, zl_49, zl_52, zl_53, zl_54, zl_55, zl_58, zl_59, zl_60, zl_61, zl_62, zl_65, zl_70, zl_71, zl_98, zl_102, zl_103, zl_104, zl_105, zl_110, zl_111, zl_115, zl_120, zl_123, zl_126, zl_128, zl_256, zl_1000, zl_1024, zb_0]
      cases h3 : sIn T (12 * p + g)
      · simp (disch := first | assumption | omega) only [if_true, m176t0, zcon_inl, Option.toList_some, List.cons_append, List.nil_append, Bool.false_eq_true, false_and, if_false]
        exact no
      · simp only [if_false, Bool.true_eq_false, e214q, zcon_inl, Option.toList_some, List.cons_append, List.nil_append, true_and]
        rw [b288_65]
        simp only [↓zn_l, zl_0, zl_1, zl_2, zl_3, zl_4, zl_5, zl_6, zl_7, zl_8, zl_9, zl_10, zl_11, zl_12, zl_13, zl_14, zl_15, zl_16, zl_17, zl_18, zl_19, zl_20, zl_21, zl_22, zl_23, zl_24, zl_25, zl_26, zl_27, zl_28, zl_29, zl_30, zl_31, zl_32, zl_36, zl_46, zl_48, zl_50, zl_57, zl_63, zl_64, zl_72, zl_97, zl_99, zl_100, zl_101, zl_122, zl_127, zl_200, zl_255, zl_406, zl_534, zl_540, zl_600, zl_9999, zl_33, zl_34, zl_35, zl_37, zl_38, zl_39, zl_40, zl_41, zl_42, zl_43, zl_44, zl_45, zl_47, zl_49, zl_52, zl_53, zl_54, zl_55, zl_58, zl_59, zl_60, zl_61, zl_62, zl_65, zl_70, zl_71, zl_98, zl_102, zl_103, zl_104, zl_105, zl_110, zl_111, zl_115, zl_120, zl_123, zl_126, zl_128, zl_256, zl_1000, zl_1024, zb_0]
        cases h4 : sIn T (12 * q + t)
        · simp only [if_true, m176f0, zcon_inl, Option.toList_some, List.cons_append, List.nil_append]
        · simp (disch := first | assumption | omega) only [if_false, Bool.true_eq_false, m176t0, zcon_inl, Option.toList_some, List.cons_append, List.nil_append]
          exact no
    · simp (disch := first | assumption | omega) only [if_false, Bool.true_eq_false, m176t0, zcon_inl, Option.toList_some, List.cons_append, List.nil_append, false_and]
      exact no
  · simp (disch := first | assumption | omega) only [if_false, Bool.true_eq_false, m176t0, zcon_inl, Option.toList_some, List.cons_append, List.nil_append, false_and]
    exact no
theorem uJoin_ok {r f q : Nat} (I : zIv T) (E : zEx T) (R : zRd s T) (hr : r < 72) (hq : q < 72) (hf : f < 64) (ha : T 3 (5 * q) = zi f) (ho : T 3 (5 * r) = zn) (hv : r / 12 < sNp T ∧ r - r / 12 * 12 < sPgs T (r / 12)) : zIv (uJoin T r f) ∧ zEx (uJoin T r f) ∧ zIm T (uJoin T r f) ∧ zRd (vForget (zu (zu s (46 + 5 * r) (zi f)) (46 + 5 * r + 1) (s 0)) r) (uJoin T r f) := by
  have h6 := zIv_np6 I
  have hlt := zIv_lt I hq ha hf
  have I1 : zIv (uEnter T r f) := zIv_enter I hr hlt ho hv (zTu I hq hf ha)
  have M1 : zIm T (uEnter T r f) := zIm_enter zIm_rfl
  have n1 : sNp (uEnter T r f) = sNp T := zRd_np M1.2.1
  have e0 := R.1.1.1
  have R1 := zRd_used (r := r) (v := s 0) (zRd_enter I R hr hf) hr (by omega)
  have n2 : sNp (zw (uEnter T r f) 3 (5 * r + 1) (s 0)) = sNp T := (zRd_np (by rw [zw_row (by omega)])).trans n1
  have R2 := zRd_forget (r := r) R1 hr (by omega)
  unfold uJoin
  rw [e0] at R2 ⊢
  exact ⟨zIv_forget (zIv_used I1 hr) hr, zEx_forget (zEx_w3 (zEx_enter E) (by omega)), zIm_forget (zIm_w M1 (by omega) (by omega) (by omega)), R2⟩
theorem m288 {p g q t hh : Nat} (I : zIv T) (E : zEx T) (S : zRs D T) (R : zRd s T) (h : D 168 1 = zi 1) (hD : D 168 14 = zi hh) (h8 : hh ≤ 8) (hp : p < sNp T) (hg : g < sPgs T p) (hq : q < sNp T) (ht : t < sPgs T q) (he : sEnd T p = false) (he2 : sEnd T q = false) (hi : sIn T (12 * p + g) = true) (hi2 : sIn T (12 * q + t) = false) : ∃ D' s', zCh D s T hh D' s' (uJoin T (12 * q + t) (sFr T (12 * p + g))) ∧ zev X 288 0 [.ref 168, .int (zi p), .int (zi g), .int (zi q), .int (zi t), zJ] [] (zHP (zrow D 172 s) O, k) = some (.inl (some (.int (uJoin T (12 * q + t) (sFr T (12 * p + g)) 4 (3 * sFr T (12 * p + g))))), (zHP (zrow D' 172 s') O, k)) := by
  have n2 := zIv_np6 I
  have hp6 : p < 6 := by omega
  have hq6 : q < 6 := by omega
  have g12 := (zIv_pg I hp6).2
  have t12 := (zIv_pg I hq6).2
  obtain ⟨f1, f2⟩ := sFr_of (zIv_at I (12 * p + g) (by omega)) hi
  have ho : T 3 (5 * (12 * q + t)) = zn := by unfold sIn at hi2; simpa using hi2
  obtain ⟨D1, e283, K⟩ := m283 (X := X) (s := s) (O := O) (k := k) hD h8
  obtain ⟨IU, EU, MU, RU⟩ := uJoin_ok (r := 12 * q + t) (q := 12 * p + g) I E R (by omega) (by omega) f1 f2 ho (by rw [zrow12 (by omega)]; exact ⟨hq, by omega⟩)
  have SU := zRs_im (zRs_kp K S) MU n2
  have e207 := zDone (X := X) (O := O) (k := k) IU SU RU f1
  have e208 := @m208 X D1 s O k p g 0 hp6 (by omega) (by omega)
  rw [Nat.add_zero (46 + 5 * (12 * p + g)), (R.2.2.1 (12 * p + g) (by omega)).1, f2] at e208
  have e256 := @m256 X D1 s O k q t (zi (sFr T (12 * p + g))) hq6 (by omega)
  have e261 := @m261 X D1 (zu (zu s (46 + 5 * (12 * q + t)) (zi (sFr T (12 * p + g)))) (46 + 5 * (12 * q + t) + 1) (s 0)) O k q t hq6 (by omega)
  refine ⟨D1, _, ⟨K, RU, IU, EU, MU⟩, ?_⟩
  rw [m288pre I S R h hp hg hq ht, if_pos ⟨he, he2, hi, hi2⟩, b288_77, zl_0, if_pos rfl, e283, zcon_inl]
  refine b288_86.trans ?_
  rw [zl_0, e208, zcon_inl]
  refine b288_93.trans ?_
  rw [e256, zcon_inl]
  refine b288_104.trans ?_
  rw [e261, zcon_inl]
  refine b288_111.trans ?_
  change zcon (zev X 207 0 [.ref 168, .int (zi (sFr T (12 * p + g))), zJ, zJ, zJ] [] (zHP (zrow D1 172 (vForget (zu (zu s (46 + 5 * (12 * q + t)) (zi (sFr T (12 * p + g)))) (46 + 5 * (12 * q + t) + 1) (s 0)) (12 * q + t))) O, k)) _ = _
  rw [e207, zcon_inl]
  exact b288_117
theorem m288n1 {a b c d : Int32} (h : D 168 1 = zi 0) : zev X 288 0 [.ref 168, .int a, .int b, .int c, .int d, zJ] [] (zHP (zrow D 172 s) O, k) = some (.inl (some (.int (zi 0))), (zHP (zrow (zth D 1) 172 s) O, k)) := by
  have e := m228n1 (X := X) (s := s) (O := O) (k := k) (a := a) (b := b) h
  simp (disch := first | assumption | omega) only [b288_0, b288_6, ↓zn_l, zl_0, zl_1, zl_2, zl_3, zl_4, zl_5, zl_6, zl_7, zl_8, zl_9, zl_10, zl_11, zl_12, zl_13, zl_14, zl_15, zl_16, zl_17, zl_18, zl_19, zl_20, zl_21, zl_22, zl_23, zl_24, zl_25, zl_26, zl_27, zl_28, zl_29, zl_30, zl_31, zl_32, zl_36, zl_46, zl_48, zl_50, zl_57, zl_63, zl_64, zl_72, zl_97, zl_99, zl_100, zl_101, zl_122, zl_127, zl_200, zl_255, zl_406, zl_534, zl_540, zl_600, zl_9999, zl_33, zl_34, zl_35, zl_37, zl_38, zl_39, zl_40, zl_41, zl_42, zl_43, zl_44, zl_45, zl_47, zl_49, zl_52, zl_53, zl_54, zl_55, zl_58, zl_59, zl_60, zl_61, zl_62, zl_65, zl_70, zl_71, zl_98, zl_102, zl_103, zl_104, zl_105, zl_110, zl_111, zl_115, zl_120, zl_123, zl_126, zl_128, zl_256, zl_1000, zl_1024, zcon_inl, zcon_inr, Option.toList_some, Option.toList_none, List.cons_append, List.nil_append, List.append_nil, Nat.add_zero, zbind_some, zi_toNat, zi_lt, zi_inj, zi_add, zi_mul, zi_ne_zn, zn_ne_zi, zn_lt_zi, zi_lt_zn, Nat.not_lt_zero, false_or, if_true, if_false, true_or, or_false, Nat.reduceEqDiff, eq_self, e]
theorem m288n2 {a b c d : Int32} (I : zIv T) (S : zRs D T) (h : D 168 1 = zi 1) (ha : a < zi 0 ∨ ¬ a < zi (sNp T)) : zev X 288 0 [.ref 168, .int a, .int b, .int c, .int d, zJ] [] (zHP (zrow D 172 s) O, k) = some (.inl (some (.int (zi 0))), (zHP (zrow (zth D 2) 172 s) O, k)) := by
  have e := m228n2 (X := X) (s := s) (O := O) (k := k) (b := b) I S h ha
  simp (disch := first | assumption | omega) only [b288_0, b288_6, ↓zn_l, zl_0, zl_1, zl_2, zl_3, zl_4, zl_5, zl_6, zl_7, zl_8, zl_9, zl_10, zl_11, zl_12, zl_13, zl_14, zl_15, zl_16, zl_17, zl_18, zl_19, zl_20, zl_21, zl_22, zl_23, zl_24, zl_25, zl_26, zl_27, zl_28, zl_29, zl_30, zl_31, zl_32, zl_36, zl_46, zl_48, zl_50, zl_57, zl_63, zl_64, zl_72, zl_97, zl_99, zl_100, zl_101, zl_122, zl_127, zl_200, zl_255, zl_406, zl_534, zl_540, zl_600, zl_9999, zl_33, zl_34, zl_35, zl_37, zl_38, zl_39, zl_40, zl_41, zl_42, zl_43, zl_44, zl_45, zl_47, zl_49, zl_52, zl_53, zl_54, zl_55, zl_58, zl_59, zl_60, zl_61, zl_62, zl_65, zl_70, zl_71, zl_98, zl_102, zl_103, zl_104, zl_105, zl_110, zl_111, zl_115, zl_120, zl_123, zl_126, zl_128, zl_256, zl_1000, zl_1024, zcon_inl, zcon_inr, Option.toList_some, Option.toList_none, List.cons_append, List.nil_append, List.append_nil, Nat.add_zero, zbind_some, zi_toNat, zi_lt, zi_inj, zi_add, zi_mul, zi_ne_zn, zn_ne_zi, zn_lt_zi, zi_lt_zn, Nat.not_lt_zero, false_or, if_true, if_false, true_or, or_false, Nat.reduceEqDiff, eq_self, e]
theorem m288n3 {p : Nat} {b c d : Int32} (I : zIv T) (S : zRs D T) (h : D 168 1 = zi 1) (hp : p < sNp T) (hb : b < zi 0 ∨ ¬ b < zi (sPgs T p)) : zev X 288 0 [.ref 168, .int (zi p), .int b, .int c, .int d, zJ] [] (zHP (zrow D 172 s) O, k) = some (.inl (some (.int (zi 0))), (zHP (zrow (zth D 2) 172 s) O, k)) := by
  have e := m228n3 (X := X) (s := s) (O := O) (k := k) I S h hp hb
  simp (disch := first | assumption | omega) only [b288_0, b288_6, ↓zn_l, zl_0, zl_1, zl_2, zl_3, zl_4, zl_5, zl_6, zl_7, zl_8, zl_9, zl_10, zl_11, zl_12, zl_13, zl_14, zl_15, zl_16, zl_17, zl_18, zl_19, zl_20, zl_21, zl_22, zl_23, zl_24, zl_25, zl_26, zl_27, zl_28, zl_29, zl_30, zl_31, zl_32, zl_36, zl_46, zl_48, zl_50, zl_57, zl_63, zl_64, zl_72, zl_97, zl_99, zl_100, zl_101, zl_122, zl_127, zl_200, zl_255, zl_406, zl_534, zl_540, zl_600, zl_9999, zl_33, zl_34, zl_35, zl_37, zl_38, zl_39, zl_40, zl_41, zl_42, zl_43, zl_44, zl_45, zl_47, zl_49, zl_52, zl_53, zl_54, zl_55, zl_58, zl_59, zl_60, zl_61, zl_62, zl_65, zl_70, zl_71, zl_98, zl_102, zl_103, zl_104, zl_105, zl_110, zl_111, zl_115, zl_120, zl_123, zl_126, zl_128, zl_256, zl_1000, zl_1024, zcon_inl, zcon_inr, Option.toList_some, Option.toList_none, List.cons_append, List.nil_append, List.append_nil, Nat.add_zero, zbind_some, zi_toNat, zi_lt, zi_inj, zi_add, zi_mul, zi_ne_zn, zn_ne_zi, zn_lt_zi, zi_lt_zn, Nat.not_lt_zero, false_or, if_true, if_false, true_or, or_false, Nat.reduceEqDiff, eq_self, e]
theorem m288n4 {p g : Nat} {c d : Int32} (I : zIv T) (S : zRs D T) (h : D 168 1 = zi 1) (hp : p < sNp T) (hg : g < sPgs T p) (ha : c < zi 0 ∨ ¬ c < zi (sNp T)) : zev X 288 0 [.ref 168, .int (zi p), .int (zi g), .int c, .int d, zJ] [] (zHP (zrow D 172 s) O, k) = some (.inl (some (.int (zi 0))), (zHP (zrow (zth D 2) 172 s) O, k)) := by
  have e := m228 (X := X) (s := s) (O := O) (k := k) I S h hp hg
  have e2 := m229n1 (X := X) (s := s) (O := O) (k := k) (b := d) I (zRs_th (c := 0) S) ha
  simp (disch := first | assumption | omega) only [b288_0, b288_6, b288_17, b288_29, ↓zn_l, zl_0, zl_1, zl_2, zl_3, zl_4, zl_5, zl_6, zl_7, zl_8, zl_9, zl_10, zl_11, zl_12, zl_13, zl_14, zl_15, zl_16, zl_17, zl_18, zl_19, zl_20, zl_21, zl_22, zl_23, zl_24, zl_25, zl_26, zl_27, zl_28, zl_29, zl_30, zl_31, zl_32, zl_36, zl_46, zl_48, zl_50, zl_57, zl_63, zl_64, zl_72, zl_97, zl_99, zl_100, zl_101, zl_122, zl_127, zl_200, zl_255, zl_406, zl_534, zl_540, zl_600, zl_9999, zl_33, zl_34, zl_35, zl_37, zl_38, zl_39, zl_40, zl_41, zl_42, zl_43, zl_44, zl_45, zl_47, zl_49, zl_52, zl_53, zl_54, zl_55, zl_58, zl_59, zl_60, zl_61, zl_62, zl_65, zl_70, zl_71, zl_98, zl_102, zl_103, zl_104, zl_105, zl_110, zl_111, zl_115, zl_120, zl_123, zl_126, zl_128, zl_256, zl_1000, zl_1024, zcon_inl, zcon_inr, Option.toList_some, Option.toList_none, List.cons_append, List.nil_append, List.append_nil, Nat.add_zero, zbind_some, zi_toNat, zi_lt, zi_inj, zi_add, zi_mul, zi_ne_zn, zn_ne_zi, zn_lt_zi, zi_lt_zn, Nat.not_lt_zero, false_or, if_true, if_false, true_or, or_false, Nat.reduceEqDiff, eq_self, e, e2, m176t0]
theorem m288n5 {p g q : Nat} {d : Int32} (I : zIv T) (S : zRs D T) (h : D 168 1 = zi 1) (hp : p < sNp T) (hg : g < sPgs T p) (hq : q < sNp T) (hb : d < zi 0 ∨ ¬ d < zi (sPgs T q)) : zev X 288 0 [.ref 168, .int (zi p), .int (zi g), .int (zi q), .int d, zJ] [] (zHP (zrow D 172 s) O, k) = some (.inl (some (.int (zi 0))), (zHP (zrow (zth D 2) 172 s) O, k)) := by
  have e := m228 (X := X) (s := s) (O := O) (k := k) I S h hp hg
  have e2 := m229n2 (X := X) (s := s) (O := O) (k := k) I (zRs_th (c := 0) S) hq hb
  simp (disch := first | assumption | omega) only [b288_0, b288_6, b288_17, b288_29, ↓zn_l, zl_0, zl_1, zl_2, zl_3, zl_4, zl_5, zl_6, zl_7, zl_8, zl_9, zl_10, zl_11, zl_12, zl_13, zl_14, zl_15, zl_16, zl_17, zl_18, zl_19, zl_20, zl_21, zl_22, zl_23, zl_24, zl_25, zl_26, zl_27, zl_28, zl_29, zl_30, zl_31, zl_32, zl_36, zl_46, zl_48, zl_50, zl_57, zl_63, zl_64, zl_72, zl_97, zl_99, zl_100, zl_101, zl_122, zl_127, zl_200, zl_255, zl_406, zl_534, zl_540, zl_600, zl_9999, zl_33, zl_34, zl_35, zl_37, zl_38, zl_39, zl_40, zl_41, zl_42, zl_43, zl_44, zl_45, zl_47, zl_49, zl_52, zl_53, zl_54, zl_55, zl_58, zl_59, zl_60, zl_61, zl_62, zl_65, zl_70, zl_71, zl_98, zl_102, zl_103, zl_104, zl_105, zl_110, zl_111, zl_115, zl_120, zl_123, zl_126, zl_128, zl_256, zl_1000, zl_1024, zcon_inl, zcon_inr, Option.toList_some, Option.toList_none, List.cons_append, List.nil_append, List.append_nil, Nat.add_zero, zbind_some, zi_toNat, zi_lt, zi_inj, zi_add, zi_mul, zi_ne_zn, zn_ne_zi, zn_lt_zi, zi_lt_zn, Nat.not_lt_zero, false_or, if_true, if_false, true_or, or_false, Nat.reduceEqDiff, eq_self, e, e2, m176t0]
theorem m288n6 {p g q t : Nat} (I : zIv T) (S : zRs D T) (R : zRd s T) (h : D 168 1 = zi 1) (hp : p < sNp T) (hg : g < sPgs T p) (hq : q < sNp T) (ht : t < sPgs T q) (hb : sEnd T p = true ∨ sEnd T q = true ∨ sIn T (12 * p + g) = false ∨ sIn T (12 * q + t) = true) : zev X 288 0 [.ref 168, .int (zi p), .int (zi g), .int (zi q), .int (zi t), zJ] [] (zHP (zrow D 172 s) O, k) = some (.inl (some (.int (zi 0))), (zHP (zrow (zth D 3) 172 s) O, k)) := by
  rw [m288pre I S R h hp hg hq ht, if_neg]
  rintro ⟨a, b, c, d⟩
  rcases hb with e | e | e | e
  · rw [a] at e; cases e
  · rw [b] at e; cases e
  · rw [c] at e; cases e
  · rw [d] at e; cases e
theorem m289 {p g hh : Nat} (I : zIv T) (E : zEx T) (S : zRs D T) (R : zRd s T) (h : D 168 1 = zi 1) (hD : D 168 14 = zi hh) (h8 : hh ≤ 8) (hp : p < sNp T) (hg : g < sPgs T p) (he : sEnd T p = false) (hi : sIn T (12 * p + g) = true) (hi2 : sPin T (12 * p + g) = false) : ∃ D' s', zCh D s T hh D' s' (uLeave T (12 * p + g) (sFr T (12 * p + g)) true) ∧ zev X 289 0 [.ref 168, .int (zi p), .int (zi g), zJ] [] (zHP (zrow D 172 s) O, k) = some (.inl (some (.int (uLeave T (12 * p + g) (sFr T (12 * p + g)) true 4 (3 * sFr T (12 * p + g))))), (zHP (zrow D' 172 s') O, k)) := by
  have n2 := zIv_np6 I
  have hp6 : p < 6 := by omega
  have g12 := (zIv_pg I hp6).2
  have hr : 12 * p + g < 72 := by omega
  obtain ⟨f1, f2⟩ := sFr_of (zIv_at I (12 * p + g) hr) hi
  have e247 := m247 (X := X) (O := O) (k := k) I S R h hp hg he
  have e214 := m214 (X := X) (D := zth D 0) (O := O) (k := k) (p := p) (g := g) R hp6 (by omega)
  rw [hi, zb_t] at e214
  have hpin : T 3 (5 * (12 * p + g) + 2) = zi 0 := by unfold sPin at hi2; simpa using hi2
  have e208p := @m208 X (zth D 0) s O k p g 2 hp6 (by omega) (by omega)
  rw [(R.2.2.1 (12 * p + g) hr).2.2.1, hpin] at e208p
  obtain ⟨D1, e283, K⟩ := m283 (X := X) (s := s) (O := O) (k := k) hD h8
  have e208 := @m208 X D1 s O k p g 0 hp6 (by omega) (by omega)
  rw [Nat.add_zero (46 + 5 * (12 * p + g)), (R.2.2.1 (12 * p + g) hr).1, f2] at e208
  have e253 := m253 (X := X) (D := D1) (O := O) (k := k) (w := false) (g := g) I (zRs_kp K S) R hp (by omega) f1 f2
  rw [zb_f] at e253
  have RU := zRd_leave (w := false) I R hr f1 f2
  have IU : zIv (uLeave T (12 * p + g) (sFr T (12 * p + g)) true) := zIv_leave I hr f1 f2
  have MU : zIm T (uLeave T (12 * p + g) (sFr T (12 * p + g)) true) := zIm_leave zIm_rfl
  have e207 := zDone (X := X) (O := O) (k := k) IU (zRs_im (zRs_kp K S) MU n2) RU f1
  refine ⟨D1, _, ⟨K, RU, IU, zEx_leave I E hr f1 f2, MU⟩, ?_⟩
  simp (disch := first | assumption | omega) only [b289_0, e247, b289_6, e214, b289_16, e208p, b289_26, m176f0, b289_39, ↓zn_l, zl_0, zl_1, zl_2, zl_3, zl_4, zl_5, zl_6, zl_7, zl_8, zl_9, zl_10, zl_11, zl_12, zl_13, zl_14, zl_15, zl_16, zl_17, zl_18, zl_19, zl_20, zl_21, zl_22, zl_23, zl_24, zl_25, zl_26, zl_27, zl_28, zl_29, zl_30, zl_31, zl_32, zl_36, zl_46, zl_48, zl_50, zl_57, zl_63, zl_64, zl_72, zl_97, zl_99, zl_100, zl_101, zl_122, zl_127, zl_200, zl_255, zl_406, zl_534, zl_540, zl_600, zl_9999, zl_33, zl_34, zl_35, zl_37, zl_38, zl_39, zl_40, zl_41, zl_42, zl_43, zl_44, zl_45, zl_47, zl_49, zl_52, zl_53, zl_54, zl_55, zl_58, zl_59, zl_60, zl_61, zl_62, zl_65, zl_70, zl_71, zl_98, zl_102, zl_103, zl_104, zl_105, zl_110, zl_111, zl_115, zl_120, zl_123, zl_126, zl_128, zl_256, zl_1000, zl_1024, zcon_inl, zcon_inr, Option.toList_some, Option.toList_none, List.cons_append, List.nil_append, List.append_nil, Nat.add_zero, zbind_some, zi_toNat, zi_lt, zi_inj, zi_add, zi_mul, zi_ne_zn, zn_ne_zi, zn_lt_zi, zi_lt_zn, Nat.not_lt_zero, false_or, if_true, if_false, true_or, or_false, Nat.reduceEqDiff, eq_self, e283]
  refine b289_48.trans ?_
  rw [zl_0, e208, zcon_inl]
  refine b289_55.trans ?_
  rw [zl_0, e253, zcon_inl]
  refine b289_63.trans ?_
  rw [e207, zcon_inl]
  exact b289_68
theorem m289n1 {a b : Int32} (h : D 168 1 = zi 0) : zev X 289 0 [.ref 168, .int a, .int b, zJ] [] (zHP (zrow D 172 s) O, k) = some (.inl (some (.int (zi 0))), (zHP (zrow (zth D 1) 172 s) O, k)) := by
  have e := m247n1 (X := X) (s := s) (O := O) (k := k) (a := a) (b := b) h
  simp (disch := first | assumption | omega) only [b289_0, b289_6, ↓zn_l, zl_0, zl_1, zl_2, zl_3, zl_4, zl_5, zl_6, zl_7, zl_8, zl_9, zl_10, zl_11, zl_12, zl_13, zl_14, zl_15, zl_16, zl_17, zl_18, zl_19, zl_20, zl_21, zl_22, zl_23, zl_24, zl_25, zl_26, zl_27, zl_28, zl_29, zl_30, zl_31, zl_32, zl_36, zl_46, zl_48, zl_50, zl_57, zl_63, zl_64, zl_72, zl_97, zl_99, zl_100, zl_101, zl_122, zl_127, zl_200, zl_255, zl_406, zl_534, zl_540, zl_600, zl_9999, zl_33, zl_34, zl_35, zl_37, zl_38, zl_39, zl_40, zl_41, zl_42, zl_43, zl_44, zl_45, zl_47, zl_49, zl_52, zl_53, zl_54, zl_55, zl_58, zl_59, zl_60, zl_61, zl_62, zl_65, zl_70, zl_71, zl_98, zl_102, zl_103, zl_104, zl_105, zl_110, zl_111, zl_115, zl_120, zl_123, zl_126, zl_128, zl_256, zl_1000, zl_1024, zcon_inl, zcon_inr, Option.toList_some, Option.toList_none, List.cons_append, List.nil_append, List.append_nil, Nat.add_zero, zbind_some, zi_toNat, zi_lt, zi_inj, zi_add, zi_mul, zi_ne_zn, zn_ne_zi, zn_lt_zi, zi_lt_zn, Nat.not_lt_zero, false_or, if_true, if_false, true_or, or_false, Nat.reduceEqDiff, eq_self, e]
theorem m289n2 {a b : Int32} (I : zIv T) (S : zRs D T) (h : D 168 1 = zi 1) (ha : a < zi 0 ∨ ¬ a < zi (sNp T)) : zev X 289 0 [.ref 168, .int a, .int b, zJ] [] (zHP (zrow D 172 s) O, k) = some (.inl (some (.int (zi 0))), (zHP (zrow (zth D 2) 172 s) O, k)) := by
  have e := m247n2 (X := X) (s := s) (O := O) (k := k) (b := b) I S h ha
  simp (disch := first | assumption | omega) only [b289_0, b289_6, ↓zn_l, zl_0, zl_1, zl_2, zl_3, zl_4, zl_5, zl_6, zl_7, zl_8, zl_9, zl_10, zl_11, zl_12, zl_13, zl_14, zl_15, zl_16, zl_17, zl_18, zl_19, zl_20, zl_21, zl_22, zl_23, zl_24, zl_25, zl_26, zl_27, zl_28, zl_29, zl_30, zl_31, zl_32, zl_36, zl_46, zl_48, zl_50, zl_57, zl_63, zl_64, zl_72, zl_97, zl_99, zl_100, zl_101, zl_122, zl_127, zl_200, zl_255, zl_406, zl_534, zl_540, zl_600, zl_9999, zl_33, zl_34, zl_35, zl_37, zl_38, zl_39, zl_40, zl_41, zl_42, zl_43, zl_44, zl_45, zl_47, zl_49, zl_52, zl_53, zl_54, zl_55, zl_58, zl_59, zl_60, zl_61, zl_62, zl_65, zl_70, zl_71, zl_98, zl_102, zl_103, zl_104, zl_105, zl_110, zl_111, zl_115, zl_120, zl_123, zl_126, zl_128, zl_256, zl_1000, zl_1024, zcon_inl, zcon_inr, Option.toList_some, Option.toList_none, List.cons_append, List.nil_append, List.append_nil, Nat.add_zero, zbind_some, zi_toNat, zi_lt, zi_inj, zi_add, zi_mul, zi_ne_zn, zn_ne_zi, zn_lt_zi, zi_lt_zn, Nat.not_lt_zero, false_or, if_true, if_false, true_or, or_false, Nat.reduceEqDiff, eq_self, e]
theorem m289n3 {p : Nat} {b : Int32} (I : zIv T) (S : zRs D T) (h : D 168 1 = zi 1) (hp : p < sNp T) (hb : b < zi 0 ∨ ¬ b < zi (sPgs T p)) : zev X 289 0 [.ref 168, .int (zi p), .int b, zJ] [] (zHP (zrow D 172 s) O, k) = some (.inl (some (.int (zi 0))), (zHP (zrow (zth D 2) 172 s) O, k)) := by
  have e := m247n3 (X := X) (s := s) (O := O) (k := k) I S h hp hb
  simp (disch := first | assumption | omega) only [b289_0, b289_6, ↓zn_l, zl_0, zl_1, zl_2, zl_3, zl_4, zl_5, zl_6, zl_7, zl_8, zl_9, zl_10, zl_11, zl_12, zl_13, zl_14, zl_15, zl_16, zl_17, zl_18, zl_19, zl_20, zl_21, zl_22, zl_23, zl_24, zl_25, zl_26, zl_27, zl_28, zl_29, zl_30, zl_31, zl_32, zl_36, zl_46, zl_48, zl_50, zl_57, zl_63, zl_64, zl_72, zl_97, zl_99, zl_100, zl_101, zl_122, zl_127, zl_200, zl_255, zl_406, zl_534, zl_540, zl_600, zl_9999, zl_33, zl_34, zl_35, zl_37, zl_38, zl_39, zl_40, zl_41, zl_42, zl_43, zl_44, zl_45, zl_47, zl_49, zl_52, zl_53, zl_54, zl_55, zl_58, zl_59, zl_60, zl_61, zl_62, zl_65, zl_70, zl_71, zl_98, zl_102, zl_103, zl_104, zl_105, zl_110, zl_111, zl_115, zl_120, zl_123, zl_126, zl_128, zl_256, zl_1000, zl_1024, zcon_inl, zcon_inr, Option.toList_some, Option.toList_none, List.cons_append, List.nil_append, List.append_nil, Nat.add_zero, zbind_some, zi_toNat, zi_lt, zi_inj, zi_add, zi_mul, zi_ne_zn, zn_ne_zi, zn_lt_zi, zi_lt_zn, Nat.not_lt_zero, false_or, if_true, if_false, true_or, or_false, Nat.reduceEqDiff, eq_self, e]
theorem m289n4 {p g : Nat} (I : zIv T) (S : zRs D T) (R : zRd s T) (h : D 168 1 = zi 1) (hp : p < sNp T) (hg : g < sPgs T p) (he : sEnd T p = true) : zev X 289 0 [.ref 168, .int (zi p), .int (zi g), zJ] [] (zHP (zrow D 172 s) O, k) = some (.inl (some (.int (zi 0))), (zHP (zrow (zth D 3) 172 s) O, k)) := by
  have e := m247n4 (X := X) (s := s) (O := O) (k := k) I S R h hp hg he
  simp (disch := first | assumption | omega) only [b289_0, b289_6, ↓zn_l, zl_0, zl_1, zl_2, zl_3, zl_4, zl_5, zl_6, zl_7, zl_8, zl_9, zl_10, zl_11, zl_12, zl_13, zl_14, zl_15, zl_16, zl_17, zl_18, zl_19, zl_20, zl_21, zl_22, zl_23, zl_24, zl_25, zl_26, zl_27, zl_28, zl_29, zl_30, zl_31, zl_32, zl_36, zl_46, zl_48, zl_50, zl_57, zl_63, zl_64, zl_72, zl_97, zl_99, zl_100, zl_101, zl_122, zl_127, zl_200, zl_255, zl_406, zl_534, zl_540, zl_600, zl_9999, zl_33, zl_34, zl_35, zl_37, zl_38, zl_39, zl_40, zl_41, zl_42, zl_43, zl_44, zl_45, zl_47, zl_49, zl_52, zl_53, zl_54, zl_55, zl_58, zl_59, zl_60, zl_61, zl_62, zl_65, zl_70, zl_71, zl_98, zl_102, zl_103, zl_104, zl_105, zl_110, zl_111, zl_115, zl_120, zl_123, zl_126, zl_128, zl_256, zl_1000, zl_1024, zcon_inl, zcon_inr, Option.toList_some, Option.toList_none, List.cons_append, List.nil_append, List.append_nil, Nat.add_zero, zbind_some, zi_toNat, zi_lt, zi_inj, zi_add, zi_mul, zi_ne_zn, zn_ne_zi, zn_lt_zi, zi_lt_zn, Nat.not_lt_zero, false_or, if_true, if_false, true_or, or_false, Nat.reduceEqDiff, eq_self, e]
theorem m289n5 {p g : Nat} (I : zIv T) (S : zRs D T) (R : zRd s T) (h : D 168 1 = zi 1) (hp : p < sNp T) (hg : g < sPgs T p) (he : sEnd T p = false) (hb : sIn T (12 * p + g) = false ∨ sPin T (12 * p + g) = true) : zev X 289 0 [.ref 168, .int (zi p), .int (zi g), zJ] [] (zHP (zrow D 172 s) O, k) = some (.inl (some (.int (zi 0))), (zHP (zrow (zth D 3) 172 s) O, k)) := by
  have n2 := zIv_np6 I
  have hp6 : p < 6 := by omega
  have g12 := (zIv_pg I hp6).2
  have hr : 12 * p + g < 72 := by omega
  have e247 := m247 (X := X) (O := O) (k := k) I S R h hp hg he
  have e214 := m214 (X := X) (D := zth D 0) (O := O) (k := k) (p := p) (g := g) R hp6 (by omega)
  cases hi : sIn T (12 * p + g)
  · rw [hi, zb_f] at e214
    simp (disch := first | assumption | omega) only [b289_0, e247, b289_6, e214, b289_16, m176t0, b289_39, ↓zn_l, zl_0, zl_1, zl_2, zl_3, zl_4, zl_5, zl_6, zl_7, zl_8, zl_9, zl_10, zl_11, zl_12, zl_13, zl_14, zl_15, zl_16, zl_17, zl_18, zl_19, zl_20, zl_21, zl_22, zl_23, zl_24, zl_25, zl_26, zl_27, zl_28, zl_29, zl_30, zl_31, zl_32, zl_36, zl_46, zl_48, zl_50, zl_57, zl_63, zl_64, zl_72, zl_97, zl_99, zl_100, zl_101, zl_122, zl_127, zl_200, zl_255, zl_406, zl_534, zl_540, zl_600, zl_9999, zl_33, zl_34, zl_35, zl_37, zl_38, zl_39, zl_40, zl_41, zl_42, zl_43, zl_44, zl_45, zl_47, zl_49, zl_52, zl_53, zl_54, zl_55, zl_58, zl_59, zl_60, zl_61, zl_62, zl_65, zl_70, zl_71, zl_98, zl_102, zl_103, zl_104, zl_105, zl_110, zl_111, zl_115, zl_120, zl_123, zl_126, zl_128, zl_256, zl_1000, zl_1024, zcon_inl, zcon_inr, Option.toList_some, Option.toList_none, List.cons_append, List.nil_append, List.append_nil, Nat.add_zero, zbind_some, zi_toNat, zi_lt, zi_inj, zi_add, zi_mul, zi_ne_zn, zn_ne_zi, zn_lt_zi, zi_lt_zn, Nat.not_lt_zero, false_or, if_true, if_false, true_or, or_false, Nat.reduceEqDiff, eq_self]
  · have hp1 : sPin T (12 * p + g) = true := by
      rcases hb with q | q
      · rw [hi] at q; cases q
      · exact q
    have hpin : T 3 (5 * (12 * p + g) + 2) = zi 1 := by
      rcases I.2.2.2.1.1 _ hr with q | q
      · unfold sPin at hp1; rw [q] at hp1; simp at hp1
      · exact q
    have e208p := @m208 X (zth D 0) s O k p g 2 hp6 (by omega) (by omega)
    rw [(R.2.2.1 (12 * p + g) hr).2.2.1, hpin] at e208p
    rw [hi, zb_t] at e214
    simp (disch := first | assumption | omega) only [b289_0, e247, b289_6, e214, b289_16, e208p, b289_26, m176t0, b289_39, ↓zn_l, zl_0, zl_1, zl_2, zl_3, zl_4, zl_5, zl_6, zl_7, zl_8, zl_9, zl_10, zl_11, zl_12, zl_13, zl_14, zl_15, zl_16, zl_17, zl_18, zl_19, zl_20, zl_21, zl_22, zl_23, zl_24, zl_25, zl_26, zl_27, zl_28, zl_29, zl_30, zl_31, zl_32, zl_36, zl_46, zl_48, zl_50, zl_57, zl_63, zl_64, zl_72, zl_97, zl_99, zl_100, zl_101, zl_122, zl_127, zl_200, zl_255, zl_406, zl_534, zl_540, zl_600, zl_9999, zl_33, zl_34, zl_35, zl_37, zl_38, zl_39, zl_40, zl_41, zl_42, zl_43, zl_44, zl_45, zl_47, zl_49, zl_52, zl_53, zl_54, zl_55, zl_58, zl_59, zl_60, zl_61, zl_62, zl_65, zl_70, zl_71, zl_98, zl_102, zl_103, zl_104, zl_105, zl_110, zl_111, zl_115, zl_120, zl_123, zl_126, zl_128, zl_256, zl_1000, zl_1024, zcon_inl, zcon_inr, Option.toList_some, Option.toList_none, List.cons_append, List.nil_append, List.append_nil, Nat.add_zero, zbind_some, zi_toNat, zi_lt, zi_inj, zi_add, zi_mul, zi_ne_zn, zn_ne_zi, zn_lt_zi, zi_lt_zn, Nat.not_lt_zero, false_or, if_true, if_false, true_or, or_false, Nat.reduceEqDiff, eq_self]
theorem m290 {p g hh : Nat} {w : Bool} (I : zIv T) (E : zEx T) (S : zRs D T) (R : zRd s T) (h : D 168 1 = zi 1) (hD : D 168 14 = zi hh) (h8 : hh ≤ 8) (hp : p < sNp T) (hg : g < sPgs T p) (he : sEnd T p = false) : ∃ D' s', zCh D s T hh D' s' (rPin T (12 * p + g) w) ∧ zev X 290 0 [.ref 168, .int (zi p), .int (zi g), .int (zb w), zJ] [] (zHP (zrow D 172 s) O, k) = some (.inl (some (.int (zb (sPin T (12 * p + g))))), (zHP (zrow D' 172 s') O, k)) := by
  have n2 := zIv_np6 I
  have hp6 : p < 6 := by omega
  have g12 := (zIv_pg I hp6).2
  have hr : 12 * p + g < 72 := by omega
  have e247 := m247 (X := X) (O := O) (k := k) I S R h hp hg he
  obtain ⟨D1, e283, K⟩ := m283 (X := X) (s := s) (O := O) (k := k) hD h8
  have e208 := @m208 X D1 s O k p g 2 hp6 (by omega) (by omega)
  rw [(R.2.2.1 (12 * p + g) hr).2.2.1] at e208
  have e254 := @m254 X D1 s O k p g 2 (zb w) hp6 (by omega) (by omega)
  refine ⟨D1, _, ⟨K, zRd_pin R hr n2, zIv_pin I hr, zEx_w3 E (by omega), zIm_w zIm_rfl (by omega) (by omega) (by omega)⟩, ?_⟩
  simp (disch := first | assumption | omega) only [b290_0, e247, b290_6, ↓zn_l, zl_0, zl_1, zl_2, zl_3, zl_4, zl_5, zl_6, zl_7, zl_8, zl_9, zl_10, zl_11, zl_12, zl_13, zl_14, zl_15, zl_16, zl_17, zl_18, zl_19, zl_20, zl_21, zl_22, zl_23, zl_24, zl_25, zl_26, zl_27, zl_28, zl_29, zl_30, zl_31, zl_32, zl_36, zl_46, zl_48, zl_50, zl_57, zl_63, zl_64, zl_72, zl_97, zl_99, zl_100, zl_101, zl_122, zl_127, zl_200, zl_255, zl_406, zl_534, zl_540, zl_600, zl_9999, zl_33, zl_34, zl_35, zl_37, zl_38, zl_39, zl_40, zl_41, zl_42, zl_43, zl_44, zl_45, zl_47, zl_49, zl_52, zl_53, zl_54, zl_55, zl_58, zl_59, zl_60, zl_61, zl_62, zl_65, zl_70, zl_71, zl_98, zl_102, zl_103, zl_104, zl_105, zl_110, zl_111, zl_115, zl_120, zl_123, zl_126, zl_128, zl_256, zl_1000, zl_1024, zcon_inl, zcon_inr, Option.toList_some, Option.toList_none, List.cons_append, List.nil_append, List.append_nil, Nat.add_zero, zbind_some, zi_toNat, zi_lt, zi_inj, zi_add, zi_mul, zi_ne_zn, zn_ne_zi, zn_lt_zi, zi_lt_zn, Nat.not_lt_zero, false_or, if_true, if_false, true_or, or_false, Nat.reduceEqDiff, eq_self, e283]
  refine b290_15.trans ?_
  rw [zl_2, e208, zcon_inl]
  refine b290_22.trans ?_
  rcases I.2.2.2.1.1 _ hr with q | q
  · have e : sPin T (12 * p + g) = false := by unfold sPin; simp [q]
    rw [q, e, zl_1, if_neg (by rw [zi_inj (by omega) (by omega)]; omega), m204, zcon_inl]
    refine b290_41.trans ?_
    rw [zl_2, e254, zcon_inl]
    refine b290_44.trans ?_
    rw [if_pos (Or.inl rfl)]
    rfl
  · have e : sPin T (12 * p + g) = true := by unfold sPin; rw [q]; simp (disch := first | assumption | omega) [zi_inj]
    rw [q, e, zl_1, if_pos rfl, m204, zcon_inl]
    refine b290_41.trans ?_
    rw [zl_2, e254, zcon_inl]
    exact b290_44.trans (if_pos (Or.inr rfl))
theorem m290n1 {a b c : Int32} (h : D 168 1 = zi 0) : zev X 290 0 [.ref 168, .int a, .int b, .int c, zJ] [] (zHP (zrow D 172 s) O, k) = some (.inl (some (.int (zi 0))), (zHP (zrow (zth D 1) 172 s) O, k)) := by
  have e := m247n1 (X := X) (s := s) (O := O) (k := k) (a := a) (b := b) h
  simp (disch := first | assumption | omega) only [b290_0, b290_6, ↓zn_l, zl_0, zl_1, zl_2, zl_3, zl_4, zl_5, zl_6, zl_7, zl_8, zl_9, zl_10, zl_11, zl_12, zl_13, zl_14, zl_15, zl_16, zl_17, zl_18, zl_19, zl_20, zl_21, zl_22, zl_23, zl_24, zl_25, zl_26, zl_27, zl_28, zl_29, zl_30, zl_31, zl_32, zl_36, zl_46, zl_48, zl_50, zl_57, zl_63, zl_64, zl_72, zl_97, zl_99, zl_100, zl_101, zl_122, zl_127, zl_200, zl_255, zl_406, zl_534, zl_540, zl_600, zl_9999, zl_33, zl_34, zl_35, zl_37, zl_38, zl_39, zl_40, zl_41, zl_42, zl_43, zl_44, zl_45, zl_47, zl_49, zl_52, zl_53, zl_54, zl_55, zl_58, zl_59, zl_60, zl_61, zl_62, zl_65, zl_70, zl_71, zl_98, zl_102, zl_103, zl_104, zl_105, zl_110, zl_111, zl_115, zl_120, zl_123, zl_126, zl_128, zl_256, zl_1000, zl_1024, zcon_inl, zcon_inr, Option.toList_some, Option.toList_none, List.cons_append, List.nil_append, List.append_nil, Nat.add_zero, zbind_some, zi_toNat, zi_lt, zi_inj, zi_add, zi_mul, zi_ne_zn, zn_ne_zi, zn_lt_zi, zi_lt_zn, Nat.not_lt_zero, false_or, if_true, if_false, true_or, or_false, Nat.reduceEqDiff, eq_self, e]
theorem m290n2 {a b c : Int32} (I : zIv T) (S : zRs D T) (h : D 168 1 = zi 1) (ha : a < zi 0 ∨ ¬ a < zi (sNp T)) : zev X 290 0 [.ref 168, .int a, .int b, .int c, zJ] [] (zHP (zrow D 172 s) O, k) = some (.inl (some (.int (zi 0))), (zHP (zrow (zth D 2) 172 s) O, k)) := by
  have e := m247n2 (X := X) (s := s) (O := O) (k := k) (b := b) I S h ha
  simp (disch := first | assumption | omega) only [b290_0, b290_6, ↓zn_l, zl_0, zl_1, zl_2, zl_3, zl_4, zl_5, zl_6, zl_7, zl_8, zl_9, zl_10, zl_11, zl_12, zl_13, zl_14, zl_15, zl_16, zl_17, zl_18, zl_19, zl_20, zl_21, zl_22, zl_23, zl_24, zl_25, zl_26, zl_27, zl_28, zl_29, zl_30, zl_31, zl_32, zl_36, zl_46, zl_48, zl_50, zl_57, zl_63, zl_64, zl_72, zl_97, zl_99, zl_100, zl_101, zl_122, zl_127, zl_200, zl_255, zl_406, zl_534, zl_540, zl_600, zl_9999, zl_33, zl_34, zl_35, zl_37, zl_38, zl_39, zl_40, zl_41, zl_42, zl_43, zl_44, zl_45, zl_47, zl_49, zl_52, zl_53, zl_54, zl_55, zl_58, zl_59, zl_60, zl_61, zl_62, zl_65, zl_70, zl_71, zl_98, zl_102, zl_103, zl_104, zl_105, zl_110, zl_111, zl_115, zl_120, zl_123, zl_126, zl_128, zl_256, zl_1000, zl_1024, zcon_inl, zcon_inr, Option.toList_some, Option.toList_none, List.cons_append, List.nil_append, List.append_nil, Nat.add_zero, zbind_some, zi_toNat, zi_lt, zi_inj, zi_add, zi_mul, zi_ne_zn, zn_ne_zi, zn_lt_zi, zi_lt_zn, Nat.not_lt_zero, false_or, if_true, if_false, true_or, or_false, Nat.reduceEqDiff, eq_self, e]
theorem m290n3 {p : Nat} {b c : Int32} (I : zIv T) (S : zRs D T) (h : D 168 1 = zi 1) (hp : p < sNp T) (hb : b < zi 0 ∨ ¬ b < zi (sPgs T p)) : zev X 290 0 [.ref 168, .int (zi p), .int b, .int c, zJ] [] (zHP (zrow D 172 s) O, k) = some (.inl (some (.int (zi 0))), (zHP (zrow (zth D 2) 172 s) O, k)) := by
  have e := m247n3 (X := X) (s := s) (O := O) (k := k) I S h hp hb
  simp (disch := first | assumption | omega) only [b290_0, b290_6, ↓zn_l, zl_0, zl_1, zl_2, zl_3, zl_4, zl_5, zl_6, zl_7, zl_8, zl_9, zl_10, zl_11, zl_12, zl_13, zl_14, zl_15, zl_16, zl_17, zl_18, zl_19, zl_20, zl_21, zl_22, zl_23, zl_24, zl_25, zl_26, zl_27, zl_28, zl_29, zl_30, zl_31, zl_32, zl_36, zl_46, zl_48, zl_50, zl_57, zl_63, zl_64, zl_72, zl_97, zl_99, zl_100, zl_101, zl_122, zl_127, zl_200, zl_255, zl_406, zl_534, zl_540, zl_600, zl_9999, zl_33, zl_34, zl_35, zl_37, zl_38, zl_39, zl_40, zl_41, zl_42, zl_43, zl_44, zl_45, zl_47, zl_49, zl_52, zl_53, zl_54, zl_55, zl_58, zl_59, zl_60, zl_61, zl_62, zl_65, zl_70, zl_71, zl_98, zl_102, zl_103, zl_104, zl_105, zl_110, zl_111, zl_115, zl_120, zl_123, zl_126, zl_128, zl_256, zl_1000, zl_1024, zcon_inl, zcon_inr, Option.toList_some, Option.toList_none, List.cons_append, List.nil_append, List.append_nil, Nat.add_zero, zbind_some, zi_toNat, zi_lt, zi_inj, zi_add, zi_mul, zi_ne_zn, zn_ne_zi, zn_lt_zi, zi_lt_zn, Nat.not_lt_zero, false_or, if_true, if_false, true_or, or_false, Nat.reduceEqDiff, eq_self, e]
theorem m290n4 {p g : Nat} {c : Int32} (I : zIv T) (S : zRs D T) (R : zRd s T) (h : D 168 1 = zi 1) (hp : p < sNp T) (hg : g < sPgs T p) (he : sEnd T p = true) : zev X 290 0 [.ref 168, .int (zi p), .int (zi g), .int c, zJ] [] (zHP (zrow D 172 s) O, k) = some (.inl (some (.int (zi 0))), (zHP (zrow (zth D 3) 172 s) O, k)) := by
  have e := m247n4 (X := X) (s := s) (O := O) (k := k) I S R h hp hg he
  simp (disch := first | assumption | omega) only [b290_0, b290_6, ↓zn_l, zl_0, zl_1, zl_2, zl_3, zl_4, zl_5, zl_6, zl_7, zl_8, zl_9, zl_10, zl_11, zl_12, zl_13, zl_14, zl_15, zl_16, zl_17, zl_18, zl_19, zl_20, zl_21, zl_22, zl_23, zl_24, zl_25, zl_26, zl_27, zl_28, zl_29, zl_30, zl_31, zl_32, zl_36, zl_46, zl_48, zl_50, zl_57, zl_63, zl_64, zl_72, zl_97, zl_99, zl_100, zl_101, zl_122, zl_127, zl_200, zl_255, zl_406, zl_534, zl_540, zl_600, zl_9999, zl_33, zl_34, zl_35, zl_37, zl_38, zl_39, zl_40, zl_41, zl_42, zl_43, zl_44, zl_45, zl_47, zl_49, zl_52, zl_53, zl_54, zl_55, zl_58, zl_59, zl_60, zl_61, zl_62, zl_65, zl_70, zl_71, zl_98, zl_102, zl_103, zl_104, zl_105, zl_110, zl_111, zl_115, zl_120, zl_123, zl_126, zl_128, zl_256, zl_1000, zl_1024, zcon_inl, zcon_inr, Option.toList_some, Option.toList_none, List.cons_append, List.nil_append, List.append_nil, Nat.add_zero, zbind_some, zi_toNat, zi_lt, zi_inj, zi_add, zi_mul, zi_ne_zn, zn_ne_zi, zn_lt_zi, zi_lt_zn, Nat.not_lt_zero, false_or, if_true, if_false, true_or, or_false, Nat.reduceEqDiff, eq_self, e]
end
