/-! The model writes the offers; the input. -/
section
variable {X : ZX} {D T : ZD2} {s : Nat → Int32} {O : ZO2} {k : Nat × Nat × Nat} {t : List Int32}
/-- one offer told, but for the blank -/
theorem m279one {r i : Nat} (I : zIv T) (S : zRs D T) (R : zRd s T) (N : zRn D T) (M : zMT D t) (h : t.length + 13 ≤ 1200) (hr : r < 72) (hi : sIn T r = true) (hD : D 181 i = zi r) (h72 : i < 72) : ∃ D', zev X 279 38 [.ref 168, .int (zi i)] [] (zHP (zrow D 172 s) O, k) = zev X 279 20 [.ref 168, .int (zi (i + 1))] [] (zHP (zrow D' 172 s) O, k) ∧ zMT D' (t ++ (sName (T 2 (12 * (r / 12) + 11)) ++ ([zi 46] ++ (sNum (r - r / 12 * 12) ++ ([zi 58] ++ sNum (sPr T r)))))) ∧ zFrT D D' := by
  have n2 := zIv_np6 I
  have hp := zvalid I hr hi
  have hle : r / 12 * 12 ≤ r := Nat.div_mul_le_self r 12
  have hn72 : ¬ 72 ≤ i := by omega
  obtain ⟨ls, hn, hw, hN⟩ := N (r / 12) hp
  have hl6 : (zLts ls).length ≤ 6 := by unfold zLts; rw [List.length_map]; exact hn.2.1
  obtain ⟨q1, q2⟩ := zIv_pr I r hr
  rw [hw, sName_eq hn]
  obtain ⟨D1, e1, M1, F1⟩ := m275 (X := X) (s := s) (O := O) (k := k) (p := r / 12) M (by omega) hn (by omega) hN
  obtain ⟨D2, e2, M2, F2⟩ := m276 (X := X) (s := s) (O := O) (k := k) (c := zi 46) M1 (by rw [List.length_append]; omega)
  have a2 : D2 181 i = zi r := by rw [F2.1 181 (by omega) (by omega), F1.1 181 (by omega) (by omega)]; exact hD
  have a1 : D1 181 i = zi r := by rw [F1.1 181 (by omega) (by omega)]; exact hD
  obtain ⟨D3, e3, M3, F3⟩ := m280 (X := X) (s := s) (O := O) (k := k) (q := r - r / 12 * 12) M2 (by simp only [List.length_append, List.length_cons, List.length_nil]; omega) (by omega)
  have l3 := sNum_len2 (q := r - r / 12 * 12) (by omega)
  obtain ⟨D4, e4, M4, F4⟩ := m276 (X := X) (s := s) (O := O) (k := k) (c := zi 58) M3 (by simp only [List.length_append, List.length_cons, List.length_nil]; omega)
  have F14 := zFrT_tr (zFrT_tr (zFrT_tr F1 F2) F3) F4
  have a4 : D4 181 i = zi r := by rw [F14.1 181 (by omega) (by omega)]; exact hD
  have e218 := m218r (X := X) (D := D4) (O := O) (k := k) I R hr hi
  rw [q1] at e218
  obtain ⟨D5, e5, M5, F5⟩ := m280 (X := X) (s := s) (O := O) (k := k) (q := sPr T r) M4 (by simp only [List.length_append, List.length_cons, List.length_nil]; omega) q2
  refine ⟨D5, ?_, ?_, zFrT_tr F14 F5⟩
  · refine b279_38.trans ?_
    simp (disch := first | assumption | omega) only [↓zn_l, zl_0, zl_1, zl_2, zl_3, zl_4, zl_5, zl_6, zl_7, zl_8, zl_9, zl_10, zl_11, zl_12, zl_13, zl_14, zl_15, zl_16, zl_17, zl_18, zl_19, zl_20, zl_21, zl_22, zl_23, zl_24, zl_25, zl_26, zl_27, zl_28, zl_29, zl_30, zl_31, zl_32, zl_36, zl_46, zl_48, zl_50, zl_57, zl_63, zl_64, zl_72, zl_97, zl_99, zl_100, zl_101, zl_122, zl_127, zl_200, zl_255, zl_406, zl_534, zl_540, zl_600, zl_9999, zl_33, zl_34, zl_35, zl_37, zl_38, zl_39, zl_40, zl_41, zl_42, zl_43, zl_44, zl_45, zl_47, zl_49, zl_52, zl_53, zl_54, zl_55, zl_58, zl_59, zl_60, zl_61, zl_62, zl_65, zl_70, zl_71, zl_98, zl_102, zl_103, zl_104, zl_105, zl_110, zl_111, zl_115, zl_120, zl_123, zl_126, zl_128, zl_256, zl_1000, zl_1024, zcon_inl, zcon_inr, Option.toList_some, Option.toList_none, List.cons_append, List.nil_append, List.append_nil, Nat.add_zero, zbind_some, zi_toNat, zi_lt, zi_inj, zi_add, zi_mul, zi_ne_zn, zn_ne_zi, zn_lt_zi, zi_lt_zn, Nat.not_lt_zero, false_or, if_true, if_false, true_or, or_false, Nat.reduceEqDiff, eq_self, hn72, e181s, hD, zi_div, e1]
    refine b279_51.trans ?_
    rw [zl_46, e2, zcon_inl]
    refine b279_57.trans ?_
    simp (disch := first | assumption | omega) only [↓zn_l, zl_0, zl_1, zl_2, zl_3, zl_4, zl_5, zl_6, zl_7, zl_8, zl_9, zl_10, zl_11, zl_12, zl_13, zl_14, zl_15, zl_16, zl_17, zl_18, zl_19, zl_20, zl_21, zl_22, zl_23, zl_24, zl_25, zl_26, zl_27, zl_28, zl_29, zl_30, zl_31, zl_32, zl_36, zl_46, zl_48, zl_50, zl_57, zl_63, zl_64, zl_72, zl_97, zl_99, zl_100, zl_101, zl_122, zl_127, zl_200, zl_255, zl_406, zl_534, zl_540, zl_600, zl_9999, zl_33, zl_34, zl_35, zl_37, zl_38, zl_39, zl_40, zl_41, zl_42, zl_43, zl_44, zl_45, zl_47, zl_49, zl_52, zl_53, zl_54, zl_55, zl_58, zl_59, zl_60, zl_61, zl_62, zl_65, zl_70, zl_71, zl_98, zl_102, zl_103, zl_104, zl_105, zl_110, zl_111, zl_115, zl_120, zl_123, zl_126, zl_128, zl_256, zl_1000, zl_1024, zcon_inl, zcon_inr, Option.toList_some, Option.toList_none, List.cons_append, List.nil_append, List.append_nil, Nat.add_zero, zbind_some, zi_toNat, zi_lt, zi_inj, zi_add, zi_mul, zi_ne_zn, zn_ne_zi, zn_lt_zi, zi_lt_zn, Nat.not_lt_zero, false_or, if_true, if_false, true_or, or_false, Nat.reduceEqDiff, eq_self, hn72, e181s, a2, zi_div, zi_sub, e3]
    refine b279_70.trans ?_
    rw [zl_58, e4, zcon_inl]
    refine b279_76.trans ?_
    simp (disch := first | assumption | omega) only [↓zn_l, zl_0, zl_1, zl_2, zl_3, zl_4, zl_5, zl_6, zl_7, zl_8, zl_9, zl_10, zl_11, zl_12, zl_13, zl_14, zl_15, zl_16, zl_17, zl_18, zl_19, zl_20, zl_21, zl_22, zl_23, zl_24, zl_25, zl_26, zl_27, zl_28, zl_29, zl_30, zl_31, zl_32, zl_36, zl_46, zl_48, zl_50, zl_57, zl_63, zl_64, zl_72, zl_97, zl_99, zl_100, zl_101, zl_122, zl_127, zl_200, zl_255, zl_406, zl_534, zl_540, zl_600, zl_9999, zl_33, zl_34, zl_35, zl_37, zl_38, zl_39, zl_40, zl_41, zl_42, zl_43, zl_44, zl_45, zl_47, zl_49, zl_52, zl_53, zl_54, zl_55, zl_58, zl_59, zl_60, zl_61, zl_62, zl_65, zl_70, zl_71, zl_98, zl_102, zl_103, zl_104, zl_105, zl_110, zl_111, zl_115, zl_120, zl_123, zl_126, zl_128, zl_256, zl_1000, zl_1024, zcon_inl, zcon_inr, Option.toList_some, Option.toList_none, List.cons_append, List.nil_append, List.append_nil, Nat.add_zero, zbind_some, zi_toNat, zi_lt, zi_inj, zi_add, zi_mul, zi_ne_zn, zn_ne_zi, zn_lt_zi, zi_lt_zn, Nat.not_lt_zero, false_or, if_true, if_false, true_or, or_false, Nat.reduceEqDiff, eq_self, hn72, e181s, a4, zi_div, zi_sub, e218]
    refine b279_99.trans ?_
    rw [e5, zcon_inl]
    refine b279_102.trans ?_
    rw [zl_1, zi_add]
  · have e : t ++ zLts ls ++ [zi 46] ++ sNum (r - r / 12 * 12) ++ [zi 58] ++ sNum (sPr T r) = t ++ (zLts ls ++ ([zi 46] ++ (sNum (r - r / 12 * 12) ++ ([zi 58] ++ sNum (sPr T r))))) := by simp only [List.append_assoc]
    rw [← e]
    exact M5
theorem m279 (I : zIv T) (S : zRs D T) (R : zRd s T) (N : zRn D T) (h : D 168 1 = zi 1) : ∃ D', zFrX D D' ∧ D' 168 0 = zi 0 ∧ zMT D' (sTell3 T 0 (sL T)) ∧ zev X 279 0 [.ref 168, zJ] [] (zHP (zrow D 172 s) O, k) = some (.inl (some (.int (zi (sTell3 T 0 (sL T)).length))), (zHP (zrow D' 172 s) O, k)) := by
  have hl := zsL_len I
  have S0 := zRs_th (c := 0) S
  obtain ⟨D1, q1, q2, q3, q4⟩ := m211 (X := X) (O := O) (k := k) I S0 R (zIv_wok I)
  have F0 : zFrT D1 (zw D1 168 42 (zi 0)) := zFrT_0
  have N1 : zRn D1 T := zRn_frD N ((q2.1 169 (by omega) (by omega)).trans (zth_a (by omega)))
  have S1 := zRs_fr q2 S0
  have loop : ∀ (l pre : List Nat) (D' : ZD2) (t : List Int32), pre ++ l = sL T → zMT D' t → t.length ≤ 14 * pre.length → zFrT D1 D' → ∃ D'', zev X 279 20 [.ref 168, .int (zi pre.length)] [] (zHP (zrow D' 172 s) O, k) = some (.inl (some (.int (D'' 168 42))), (zHP (zrow D'' 172 s) O, k)) ∧ zMT D'' (t ++ sTell3 T pre.length l) ∧ zFrT D1 D'' := by
    intro l
    induction l with
    | nil =>
      intro pre D' t hl2 M ht F
      have e : pre.length = (sL T).length := by rw [← hl2, List.append_nil]
      have e39 : D' 168 39 = zi (sL T).length := by rw [F.2 39 (by omega)]; exact q3.1
      refine ⟨D', b279_20.trans ?_, ?_, F⟩
      · rw [e]
        simp (disch := first | assumption | omega) only [↓zn_l, zl_0, zl_1, zl_2, zl_3, zl_4, zl_5, zl_6, zl_7, zl_8, zl_9, zl_10, zl_11, zl_12, zl_13, zl_14, zl_15, zl_16, zl_17, zl_18, zl_19, zl_20, zl_21, zl_22, zl_23, zl_24, zl_25, zl_26, zl_27, zl_28, zl_29, zl_30, zl_31, zl_32, zl_36, zl_46, zl_48, zl_50, zl_57, zl_63, zl_64, zl_72, zl_97, zl_99, zl_100, zl_101, zl_122, zl_127, zl_200, zl_255, zl_406, zl_534, zl_540, zl_600, zl_9999, zl_33, zl_34, zl_35, zl_37, zl_38, zl_39, zl_40, zl_41, zl_42, zl_43, zl_44, zl_45, zl_47, zl_49, zl_52, zl_53, zl_54, zl_55, zl_58, zl_59, zl_60, zl_61, zl_62, zl_65, zl_70, zl_71, zl_98, zl_102, zl_103, zl_104, zl_105, zl_110, zl_111, zl_115, zl_120, zl_123, zl_126, zl_128, zl_256, zl_1000, zl_1024, zcon_inl, zcon_inr, Option.toList_some, Option.toList_none, List.cons_append, List.nil_append, List.append_nil, Nat.add_zero, zbind_some, zi_toNat, zi_lt, zi_inj, zi_add, zi_mul, zi_ne_zn, zn_ne_zi, zn_lt_zi, zi_lt_zn, Nat.not_lt_zero, false_or, if_true, if_false, true_or, or_false, Nat.reduceEqDiff, eq_self, e168s, e39, Nat.lt_irrefl]
      · simpa [sTell3] using M
    | cons r l ih =>
      intro pre D' t hl2 M ht F
      have hlen : pre.length + (l.length + 1) = (sL T).length := by rw [← hl2, List.length_append]; rfl
      have hget : (sL T)[pre.length]? = some r := by rw [← hl2]; simp
      obtain ⟨r1, r2⟩ := sL_all (T := T) r (List.mem_of_getElem? hget)
      have hD : D' 181 pre.length = zi r := by rw [F.1 181 (by omega) (by omega)]; exact q3.2 _ r hget
      have e39 : D' 168 39 = zi (sL T).length := by rw [F.2 39 (by omega)]; exact q3.1
      have hlt : pre.length < (sL T).length := by omega
      have blank : ∃ D2, zev X 279 20 [.ref 168, .int (zi pre.length)] [] (zHP (zrow D' 172 s) O, k) = zev X 279 38 [.ref 168, .int (zi pre.length)] [] (zHP (zrow D2 172 s) O, k) ∧ zMT D2 (t ++ (if 0 < pre.length then [zi 32] else [])) ∧ zFrT D' D2 := by
        by_cases h0 : 0 < pre.length
        · obtain ⟨D2, e2, M2, F2⟩ := m276 (X := X) (s := s) (O := O) (k := k) (c := zi 32) M (by omega)
          refine ⟨D2, b279_20.trans ?_, by rw [if_pos h0]; exact M2, F2⟩
          simp (disch := first | assumption | omega) only [↓zn_l, zl_0, zl_1, zl_2, zl_3, zl_4, zl_5, zl_6, zl_7, zl_8, zl_9, zl_10, zl_11, zl_12, zl_13, zl_14, zl_15, zl_16, zl_17, zl_18, zl_19, zl_20, zl_21, zl_22, zl_23, zl_24, zl_25, zl_26, zl_27, zl_28, zl_29, zl_30, zl_31, zl_32, zl_36, zl_46, zl_48, zl_50, zl_57, zl_63, zl_64, zl_72, zl_97, zl_99, zl_100, zl_101, zl_122, zl_127, zl_200, zl_255, zl_406, zl_534, zl_540, zl_600, zl_9999, zl_33, zl_34, zl_35, zl_37, zl_38, zl_39, zl_40, zl_41, zl_42, zl_43, zl_44, zl_45, zl_47, zl_49, zl_52, zl_53, zl_54, zl_55, zl_58, zl_59, zl_60, zl_61, zl_62, zl_65, zl_70, zl_71, zl_98, zl_102, zl_103, zl_104, zl_105, zl_110, zl_111, zl_115, zl_120, zl_123, zl_126, zl_128, zl_256, zl_1000, zl_1024, zcon_inl, zcon_inr, Option.toList_some, Option.toList_none, List.cons_append, List.nil_append, List.append_nil, Nat.add_zero, zbind_some, zi_toNat, zi_lt, zi_inj, zi_add, zi_mul, zi_ne_zn, zn_ne_zi, zn_lt_zi, zi_lt_zn, Nat.not_lt_zero, false_or, if_true, if_false, true_or, or_false, Nat.reduceEqDiff, eq_self, e168s, e39, hlt, h0, e2]
        · refine ⟨D', b279_20.trans ?_, by rw [if_neg h0, List.append_nil]; exact M, zFrT_rfl⟩
          simp (disch := first | assumption | omega) only [↓zn_l, zl_0, zl_1, zl_2, zl_3, zl_4, zl_5, zl_6, zl_7, zl_8, zl_9, zl_10, zl_11, zl_12, zl_13, zl_14, zl_15, zl_16, zl_17, zl_18, zl_19, zl_20, zl_21, zl_22, zl_23, zl_24, zl_25, zl_26, zl_27, zl_28, zl_29, zl_30, zl_31, zl_32, zl_36, zl_46, zl_48, zl_50, zl_57, zl_63, zl_64, zl_72, zl_97, zl_99, zl_100, zl_101, zl_122, zl_127, zl_200, zl_255, zl_406, zl_534, zl_540, zl_600, zl_9999, zl_33, zl_34, zl_35, zl_37, zl_38, zl_39, zl_40, zl_41, zl_42, zl_43, zl_44, zl_45, zl_47, zl_49, zl_52, zl_53, zl_54, zl_55, zl_58, zl_59, zl_60, zl_61, zl_62, zl_65, zl_70, zl_71, zl_98, zl_102, zl_103, zl_104, zl_105, zl_110, zl_111, zl_115, zl_120, zl_123, zl_126, zl_128, zl_256, zl_1000, zl_1024, zcon_inl, zcon_inr, Option.toList_some, Option.toList_none, List.cons_append, List.nil_append, List.append_nil, Nat.add_zero, zbind_some, zi_toNat, zi_lt, zi_inj, zi_add, zi_mul, zi_ne_zn, zn_ne_zi, zn_lt_zi, zi_lt_zn, Nat.not_lt_zero, false_or, if_true, if_false, true_or, or_false, Nat.reduceEqDiff, eq_self, e168s, e39, hlt, h0]
      obtain ⟨D2, e2, M2, F2⟩ := blank
      have lb : (t ++ (if 0 < pre.length then [zi 32] else [])).length ≤ t.length + 1 := by split <;> simp
      obtain ⟨D3, e3, M3, F3⟩ := m279one (X := X) (O := O) (k := k) (i := pre.length) I (zRs_frT (zFrT_tr F F2) S1) R (zRn_frD N1 ((zFrT_tr F F2).1 169 (by omega) (by omega))) M2 (by omega) r1 r2 (by rw [F2.1 181 (by omega) (by omega)]; exact hD) (by omega)
      have et : t ++ (if 0 < pre.length then [zi 32] else []) ++ (sName (T 2 (12 * (r / 12) + 11)) ++ ([zi 46] ++ (sNum (r - r / 12 * 12) ++ ([zi 58] ++ sNum (sPr T r))))) = t ++ sOfr T pre.length r := by
        unfold sOfr
        rw [List.append_assoc]
      rw [et] at M3
      have lo := sOfr_len (T := T) (i := pre.length) (r := r)
      have lp : (pre ++ [r]).length = pre.length + 1 := by simp
      obtain ⟨D4, e4, M4, F4⟩ := ih (pre ++ [r]) D3 (t ++ sOfr T pre.length r) (by rw [List.append_assoc]; exact hl2) M3 (by rw [List.length_append, lp]; omega) (zFrT_tr (zFrT_tr F F2) F3)
      rw [lp] at e4 M4
      refine ⟨D4, e2.trans (e3.trans e4), ?_, F4⟩
      have e5 : sTell3 T pre.length (r :: l) = sOfr T pre.length r ++ sTell3 T (pre.length + 1) l := by rw [sTell3]
      rw [e5, ← List.append_assoc]
      exact M4
  obtain ⟨D4, e4, M4, F4⟩ := loop (sL T) [] (zw D1 168 42 (zi 0)) [] rfl (zMT_0 _) (by simp) F0
  rw [List.nil_append] at M4
  refine ⟨D4, zFrX_tr (zFrX_tr (zFrX_S zFrS_th) (zFrX_S (zFrS_M q2))) (zFrX_T F4), ?_, M4, ?_⟩
  · rw [F4.2 0 (by omega), q2.2 0 (by omega)]; exact zth_0 _ _
  · have hz : ([] : List Nat).length = 0 := rfl
    rw [hz] at e4 M4
    rw [← M4.1, ← e4]
    have e199 := m199 (X := X) (s := s) (O := O) (k := k) h
    have ew : zw (zrow D1 172 s) 168 42 (zi 0) = zrow (zw D1 168 42 (zi 0)) 172 s := zw_so (by omega)
    simp (disch := first | assumption | omega) only [b279_0, e199, b279_4, ↓zn_l, zl_0, zl_1, zl_2, zl_3, zl_4, zl_5, zl_6, zl_7, zl_8, zl_9, zl_10, zl_11, zl_12, zl_13, zl_14, zl_15, zl_16, zl_17, zl_18, zl_19, zl_20, zl_21, zl_22, zl_23, zl_24, zl_25, zl_26, zl_27, zl_28, zl_29, zl_30, zl_31, zl_32, zl_36, zl_46, zl_48, zl_50, zl_57, zl_63, zl_64, zl_72, zl_97, zl_99, zl_100, zl_101, zl_122, zl_127, zl_200, zl_255, zl_406, zl_534, zl_540, zl_600, zl_9999, zl_33, zl_34, zl_35, zl_37, zl_38, zl_39, zl_40, zl_41, zl_42, zl_43, zl_44, zl_45, zl_47, zl_49, zl_52, zl_53, zl_54, zl_55, zl_58, zl_59, zl_60, zl_61, zl_62, zl_65, zl_70, zl_71, zl_98, zl_102, zl_103, zl_104, zl_105, zl_110, zl_111, zl_115, zl_120, zl_123, zl_126, zl_128, zl_256, zl_1000, zl_1024, zcon_inl, zcon_inr, Option.toList_some, Option.toList_none, List.cons_append, List.nil_append, List.append_nil, Nat.add_zero, zbind_some, zi_toNat, zi_lt, zi_inj, zi_add, zi_mul, zi_ne_zn, zn_ne_zi, zn_lt_zi, zi_lt_zn, Nat.not_lt_zero, false_or, if_true, if_false, true_or, or_false, Nat.reduceEqDiff, eq_self, q1]
    refine b279_13.trans ?_
    rw [zl_0, ew]
theorem m279n1 (h : D 168 1 = zi 0) : zev X 279 0 [.ref 168, zJ] [] (zHP (zrow D 172 s) O, k) = some (.inl (some (.int (zi 0))), (zHP (zrow (zth D 1) 172 s) O, k)) := by
  simp (disch := first | assumption | omega) only [b279_0, b279_4, ↓zn_l, zl_0, zl_1, zl_2, zl_3, zl_4, zl_5, zl_6, zl_7, zl_8, zl_9, zl_10, zl_11, zl_12, zl_13, zl_14, zl_15, zl_16, zl_17, zl_18, zl_19, zl_20, zl_21, zl_22, zl_23, zl_24, zl_25, zl_26, zl_27, zl_28, zl_29, zl_30, zl_31, zl_32, zl_36, zl_46, zl_48, zl_50, zl_57, zl_63, zl_64, zl_72, zl_97, zl_99, zl_100, zl_101, zl_122, zl_127, zl_200, zl_255, zl_406, zl_534, zl_540, zl_600, zl_9999, zl_33, zl_34, zl_35, zl_37, zl_38, zl_39, zl_40, zl_41, zl_42, zl_43, zl_44, zl_45, zl_47, zl_49, zl_52, zl_53, zl_54, zl_55, zl_58, zl_59, zl_60, zl_61, zl_62, zl_65, zl_70, zl_71, zl_98, zl_102, zl_103, zl_104, zl_105, zl_110, zl_111, zl_115, zl_120, zl_123, zl_126, zl_128, zl_256, zl_1000, zl_1024, zcon_inl, zcon_inr, Option.toList_some, Option.toList_none, List.cons_append, List.nil_append, List.append_nil, Nat.add_zero, zbind_some, zi_toNat, zi_lt, zi_inj, zi_add, zi_mul, zi_ne_zn, zn_ne_zi, zn_lt_zi, zi_lt_zn, Nat.not_lt_zero, false_or, if_true, if_false, true_or, or_false, Nat.reduceEqDiff, eq_self, m199n, h]
theorem m281 {i n : Nat} (hn : D 168 42 = zi n) (h : n ≤ 1024) (hi : i < n) : zev X 281 0 [.ref 168, .int (zi i)] [] (zHP (zrow D 172 s) O, k) = some (.inl (some (.int (D 182 i))), (zHP (zrow (zth D 0) 172 s) O, k)) := by
  have ew : zw (zrow D 172 s) 168 0 (zi 0) = zrow (zth D 0) 172 s := zw_s0
  have e42 : zrow (zth D 0) 172 s 168 42 = zi n := by rw [e168s, zth_f (by omega)]; exact hn
  have e175 := m175y (X := X) (D := zrow (zth D 0) 172 s) (O := O) (k := k) hi (by omega)
  have hb : ¬ 1200 ≤ i := by omega
  have e182 : zrow (zth D 0) 172 s 182 = D 182 := by rw [zrow_ne (by omega), zth_a (by omega)]
  simp (disch := first | assumption | omega) only [b281_0, ↓zn_l, zl_0, zl_1, zl_2, zl_3, zl_4, zl_5, zl_6, zl_7, zl_8, zl_9, zl_10, zl_11, zl_12, zl_13, zl_14, zl_15, zl_16, zl_17, zl_18, zl_19, zl_20, zl_21, zl_22, zl_23, zl_24, zl_25, zl_26, zl_27, zl_28, zl_29, zl_30, zl_31, zl_32, zl_36, zl_46, zl_48, zl_50, zl_57, zl_63, zl_64, zl_72, zl_97, zl_99, zl_100, zl_101, zl_122, zl_127, zl_200, zl_255, zl_406, zl_534, zl_540, zl_600, zl_9999, zl_33, zl_34, zl_35, zl_37, zl_38, zl_39, zl_40, zl_41, zl_42, zl_43, zl_44, zl_45, zl_47, zl_49, zl_52, zl_53, zl_54, zl_55, zl_58, zl_59, zl_60, zl_61, zl_62, zl_65, zl_70, zl_71, zl_98, zl_102, zl_103, zl_104, zl_105, zl_110, zl_111, zl_115, zl_120, zl_123, zl_126, zl_128, zl_256, zl_1000, zl_1024, zcon_inl, zcon_inr, Option.toList_some, Option.toList_none, List.cons_append, List.nil_append, List.append_nil, Nat.add_zero, zbind_some, zi_toNat, zi_lt, zi_inj, zi_add, zi_mul, zi_ne_zn, zn_ne_zi, zn_lt_zi, zi_lt_zn, Nat.not_lt_zero, false_or, if_true, if_false, true_or, or_false, Nat.reduceEqDiff, eq_self, ew, e42, e175, b281_17, m176f0, b281_29, hb, e182]
theorem m281n {a : Int32} {n : Nat} (hn : D 168 42 = zi n) (h : n ≤ 1024) (ha : a < zi 0 ∨ ¬ a < zi n) : zev X 281 0 [.ref 168, .int a] [] (zHP (zrow D 172 s) O, k) = some (.inl (some (.int (zi 0))), (zHP (zrow (zth D 1) 172 s) O, k)) := by
  have ew : zw (zrow D 172 s) 168 0 (zi 0) = zrow (zth D 0) 172 s := zw_s0
  have e42 : zrow (zth D 0) 172 s 168 42 = zi n := by rw [e168s, zth_f (by omega)]; exact hn
  have e175 := m175x (X := X) (D := zrow (zth D 0) 172 s) (O := O) (k := k) ha (by omega)
  simp (disch := first | assumption | omega) only [b281_0, ↓zn_l, zl_0, zl_1, zl_2, zl_3, zl_4, zl_5, zl_6, zl_7, zl_8, zl_9, zl_10, zl_11, zl_12, zl_13, zl_14, zl_15, zl_16, zl_17, zl_18, zl_19, zl_20, zl_21, zl_22, zl_23, zl_24, zl_25, zl_26, zl_27, zl_28, zl_29, zl_30, zl_31, zl_32, zl_36, zl_46, zl_48, zl_50, zl_57, zl_63, zl_64, zl_72, zl_97, zl_99, zl_100, zl_101, zl_122, zl_127, zl_200, zl_255, zl_406, zl_534, zl_540, zl_600, zl_9999, zl_33, zl_34, zl_35, zl_37, zl_38, zl_39, zl_40, zl_41, zl_42, zl_43, zl_44, zl_45, zl_47, zl_49, zl_52, zl_53, zl_54, zl_55, zl_58, zl_59, zl_60, zl_61, zl_62, zl_65, zl_70, zl_71, zl_98, zl_102, zl_103, zl_104, zl_105, zl_110, zl_111, zl_115, zl_120, zl_123, zl_126, zl_128, zl_256, zl_1000, zl_1024, zcon_inl, zcon_inr, Option.toList_some, Option.toList_none, List.cons_append, List.nil_append, List.append_nil, Nat.add_zero, zbind_some, zi_toNat, zi_lt, zi_inj, zi_add, zi_mul, zi_ne_zn, zn_ne_zi, zn_lt_zi, zi_lt_zn, Nat.not_lt_zero, false_or, if_true, if_false, true_or, or_false, Nat.reduceEqDiff, eq_self, ew, e42, e175, b281_17, m176t0, b281_29]
theorem m171 : zev X 171 0 [.ref 168] [] (zHP (zrow D 172 s) O, k) = some (.inl (some (.int (D 168 17))), (zHP (zrow (zth D 0) 172 s) O, k)) := by
  rw [b171_0, zw_s0, e168s, zw_ne (by omega)]
  rfl
theorem m172 : zev X 172 0 [.ref 168] [] (zHP (zrow D 172 s) O, k) = some (.inl (some (.int (D 168 18))), (zHP (zrow (zth D 0) 172 s) O, k)) := by
  rw [b172_0, zw_s0, e168s, zw_ne (by omega)]
  rfl
theorem m173 : zev X 173 0 [.ref 168] [] (zHP (zrow D 172 s) O, k) = some (.inl (some (.int (D 168 19))), (zHP (zrow (zth D 0) 172 s) O, k)) := by
  rw [b173_0, zw_s0, e168s, zw_ne (by omega)]
  rfl
theorem m299 : zev X 299 0 [.ref 168] [] (zHP (zrow D 172 s) O, k) = some (.inl (some (.int (D 168 14))), (zHP (zrow (zth D 0) 172 s) O, k)) := by
  rw [b299_0, zw_s0, e168s, zw_ne (by omega)]
  rfl
theorem m169 : zev X 169 0 [.ref 168] [] (zHP D O, k) = some (.inl (some (.int (D 168 0))), (zHP D O, k)) := b169_0
/-- the bytes appended, as the model has them -/
def yPick (a b c d e : Int32) (q : Nat) : Int32 := if q < 4 then a else if q < 8 then b else if q < 12 then c else if q < 16 then d else e
def yByte (a b c d e : Int32) (q : Nat) : Int32 := (yPick a b c d e q >>> ((zi 24 - zi 8 * (zi q - zi q / zi 4 * zi 4)) &&& zi 31)) &&& zi 255
theorem m170step {a b c d e : Int32} {q n : Nat} {v : Value} (h17 : D 168 17 = zi n) (hn : n ≤ 580) (hq : q < 20) : zev X 170 23 [.ref 168, .int a, .int b, .int c, .int d, .int e, .int (zi q), v] [] (zHP (zrow D 172 s) O, k) = zev X 170 23 [.ref 168, .int a, .int b, .int c, .int d, .int e, .int (zi (q + 1)), .int (yPick a b c d e q)] [] (zHP (zrow (zw D 176 (n + q) (yByte a b c d e q)) 172 s) O, k) := by
  have h600 : ¬ 600 ≤ n + q := by omega
  have put : zev X 170 76 [.ref 168, .int a, .int b, .int c, .int d, .int e, .int (zi q), v] [.int (yPick a b c d e q)] (zHP (zrow D 172 s) O, k) = zev X 170 23 [.ref 168, .int a, .int b, .int c, .int d, .int e, .int (zi (q + 1)), .int (yPick a b c d e q)] [] (zHP (zrow (zw D 176 (n + q) (yByte a b c d e q)) 172 s) O, k) := by
    refine b170_76.trans ?_
    unfold yByte
    simp (disch := first | assumption | omega) only [↓zn_l, zl_0, zl_1, zl_2, zl_3, zl_4, zl_5, zl_6, zl_7, zl_8, zl_9, zl_10, zl_11, zl_12, zl_13, zl_14, zl_15, zl_16, zl_17, zl_18, zl_19, zl_20, zl_21, zl_22, zl_23, zl_24, zl_25, zl_26, zl_27, zl_28, zl_29, zl_30, zl_31, zl_32, zl_36, zl_46, zl_48, zl_50, zl_57, zl_63, zl_64, zl_72, zl_97, zl_99, zl_100, zl_101, zl_122, zl_127, zl_200, zl_255, zl_406, zl_534, zl_540, zl_600, zl_9999, zl_33, zl_34, zl_35, zl_37, zl_38, zl_39, zl_40, zl_41, zl_42, zl_43, zl_44, zl_45, zl_47, zl_49, zl_52, zl_53, zl_54, zl_55, zl_58, zl_59, zl_60, zl_61, zl_62, zl_65, zl_70, zl_71, zl_98, zl_102, zl_103, zl_104, zl_105, zl_110, zl_111, zl_115, zl_120, zl_123, zl_126, zl_128, zl_256, zl_1000, zl_1024, zcon_inl, zcon_inr, Option.toList_some, Option.toList_none, List.cons_append, List.nil_append, List.append_nil, Nat.add_zero, zbind_some, zi_toNat, zi_lt, zi_inj, zi_add, zi_mul, zi_ne_zn, zn_ne_zi, zn_lt_zi, zi_lt_zn, Nat.not_lt_zero, false_or, if_true, if_false, true_or, or_false, Nat.reduceEqDiff, eq_self, e168s, h17, h600, zw_so]
  rw [← put]
  refine b170_23.trans ?_
  unfold yPick
  by_cases c1 : q < 4
  · simp (disch := first | assumption | omega) only [↓zn_l, zl_0, zl_1, zl_2, zl_3, zl_4, zl_5, zl_6, zl_7, zl_8, zl_9, zl_10, zl_11, zl_12, zl_13, zl_14, zl_15, zl_16, zl_17, zl_18, zl_19, zl_20, zl_21, zl_22, zl_23, zl_24, zl_25, zl_26, zl_27, zl_28, zl_29, zl_30, zl_31, zl_32, zl_36, zl_46, zl_48, zl_50, zl_57, zl_63, zl_64, zl_72, zl_97, zl_99, zl_100, zl_101, zl_122, zl_127, zl_200, zl_255, zl_406, zl_534, zl_540, zl_600, zl_9999, zl_33, zl_34, zl_35, zl_37, zl_38, zl_39, zl_40, zl_41, zl_42, zl_43, zl_44, zl_45, zl_47, zl_49, zl_52, zl_53, zl_54, zl_55, zl_58, zl_59, zl_60, zl_61, zl_62, zl_65, zl_70, zl_71, zl_98, zl_102, zl_103, zl_104, zl_105, zl_110, zl_111, zl_115, zl_120, zl_123, zl_126, zl_128, zl_256, zl_1000, zl_1024, zcon_inl, zcon_inr, Option.toList_some, Option.toList_none, List.cons_append, List.nil_append, List.append_nil, Nat.add_zero, zbind_some, zi_toNat, zi_lt, zi_inj, zi_add, zi_mul, zi_ne_zn, zn_ne_zi, zn_lt_zi, zi_lt_zn, Nat.not_lt_zero, false_or, if_true, if_false, true_or, or_false, Nat.reduceEqDiff, eq_self, hq, c1]
  · by_cases c2 : q < 8
    · simp (disch := first | assumption | omega) only [↓zn_l, zl_0, zl_1, zl_2, zl_3, zl_4, zl_5, zl_6, zl_7, zl_8, zl_9, zl_10, zl_11, zl_12, zl_13, zl_14, zl_15, zl_16, zl_17, zl_18, zl_19, zl_20, zl_21, zl_22, zl_23, zl_24, zl_25, zl_26, zl_27, zl_28, zl_29, zl_30, zl_31, zl_32, zl_36, zl_46, zl_48, zl_50, zl_57, zl_63, zl_64, zl_72, zl_97, zl_99, zl_100, zl_101, zl_122, zl_127, zl_200, zl_255, zl_406, zl_534, zl_540, zl_600, zl_9999, zl_33, zl_34, zl_35, zl_37, zl_38, zl_39, zl_40, zl_41, zl_42, zl_43, zl_44, zl_45, zl_47, zl_49, zl_52, zl_53, zl_54, zl_55, zl_58, zl_59, zl_60, zl_61, zl_62, zl_65, zl_70, zl_71, zl_98, zl_102, zl_103, zl_104, zl_105, zl_110, zl_111, zl_115, zl_120, zl_123, zl_126, zl_128, zl_256, zl_1000, zl_1024, zcon_inl, zcon_inr, Option.toList_some, Option.toList_none, List.cons_append, List.nil_append, List.append_nil, Nat.add_zero, zbind_some, zi_toNat, zi_lt, zi_inj, zi_add, zi_mul, zi_ne_zn, zn_ne_zi, zn_lt_zi, zi_lt_zn, Nat.not_lt_zero, false_or, if_true, if_false, true_or, or_false, Nat.reduceEqDiff, eq_self, hq, c1, c2]
    · by_cases c3 : q < 12
      · simp (disch := first | assumption | omega) only [↓zn_l, zl_0, zl_1, zl_2, zl_3, zl_4, zl_5, zl_6, zl_7, zl_8, zl_9, zl_10, zl_11, zl_12, zl_13, zl_14, zl_15, zl_16, zl_17, zl_18, zl_19, zl_20, zl_21, zl_22, zl_23, zl_24, zl_25, zl_26, zl_27, zl_28, zl_29, zl_30, zl_31, zl_32, zl_36, zl_46, zl_48, zl_50, zl_57, zl_63, zl_64, zl_72, zl_97, zl_99, zl_100, zl_101, zl_122, zl_127, zl_200, zl_255, zl_406, zl_534, zl_540, zl_600, zl_9999, zl_33, zl_34, zl_35, zl_37, zl_38, zl_39, zl_40, zl_41, zl_42, zl_43, zl_44, zl_45, zl_47, zl_49, zl_52, zl_53, zl_54, zl_55, zl_58, zl_59, zl_60, zl_61, zl_62, zl_65, zl_70, zl_71, zl_98, zl_102, zl_103, zl_104, zl_105, zl_110, zl_111, zl_115, zl_120, zl_123, zl_126, zl_128, zl_256, zl_1000, zl_1024, zcon_inl, zcon_inr, Option.toList_some, Option.toList_none, List.cons_append, List.nil_append, List.append_nil, Nat.add_zero, zbind_some, zi_toNat, zi_lt, zi_inj, zi_add, zi_mul, zi_ne_zn, zn_ne_zi, zn_lt_zi, zi_lt_zn, Nat.not_lt_zero, false_or, if_true, if_false, true_or, or_false, Nat.reduceEqDiff, eq_self, hq, c1, c2, c3]
      · by_cases c4 : q < 16
        · simp (disch := first | assumption | omega) only [↓zn_l, zl_0, zl_1, zl_2, zl_3, zl_4, zl_5, zl_6, zl_7, zl_8, zl_9, zl_10, zl_11, zl_12, zl_13, zl_14, zl_15, zl_16, zl_17, zl_18, zl_19, zl_20, zl_21, zl_22, zl_23, zl_24, zl_25, zl_26, zl_27, zl_28, zl_29, zl_30, zl_31, zl_32, zl_36, zl_46, zl_48, zl_50, zl_57, zl_63, zl_64, zl_72, zl_97, zl_99, zl_100, zl_101, zl_122, zl_127, zl_200, zl_255, zl_406, zl_534, zl_540, zl_600, zl_9999, zl_33, zl_34, zl_35, zl_37, zl_38, zl_39, zl_40, zl_41, zl_42, zl_43, zl_44, zl_45, zl_47, zl_49, zl_52, zl_53, zl_54, zl_55, zl_58, zl_59, zl_60, zl_61, zl_62, zl_65, zl_70, zl_71, zl_98, zl_102, zl_103, zl_104, zl_105, zl_110, zl_111, zl_115, zl_120, zl_123, zl_126, zl_128, zl_256, zl_1000, zl_1024, zcon_inl, zcon_inr, Option.toList_some, Option.toList_none, List.cons_append, List.nil_append, List.append_nil, Nat.add_zero, zbind_some, zi_toNat, zi_lt, zi_inj, zi_add, zi_mul, zi_ne_zn, zn_ne_zi, zn_lt_zi, zi_lt_zn, Nat.not_lt_zero, false_or, if_true, if_false, true_or, or_false, Nat.reduceEqDiff, eq_self, hq, c1, c2, c3, c4]
        · simp (disch := first | assumption | omega) only [↓zn_l, zl_0, zl_1, zl_2, zl_3, zl_4, zl_5, zl_6, zl_7, zl_8, zl_9, zl_10, zl_11, zl_12, zl_13, zl_14, zl_15, zl_16, zl_17, zl_18, zl_19, zl_20, zl_21, zl_22, zl_23, zl_24, zl_25, zl_26, zl_27, zl_28, zl_29, zl_30, zl_31, zl_32, zl_36, zl_46, zl_48, zl_50, zl_57, zl_63, zl_64, zl_72, zl_97, zl_99, zl_100, zl_101, zl_122, zl_127, zl_200, zl_255, zl_406, zl_534, zl_540, zl_600, zl_9999, zl_33, zl_34, zl_35, zl_37, zl_38, zl_39, zl_40, zl_41, zl_42, zl_43, zl_44, zl_45, zl_47, zl_49, zl_52, zl_53, zl_54, zl_55, zl_58, zl_59, zl_60, zl_61, zl_62, zl_65, zl_70, zl_71, zl_98, zl_102, zl_103, zl_104, zl_105, zl_110, zl_111, zl_115, zl_120, zl_123, zl_126, zl_128, zl_256, zl_1000, zl_1024, zcon_inl, zcon_inr, Option.toList_some, Option.toList_none, List.cons_append, List.nil_append, List.append_nil, Nat.add_zero, zbind_some, zi_toNat, zi_lt, zi_inj, zi_add, zi_mul, zi_ne_zn, zn_ne_zi, zn_lt_zi, zi_lt_zn, Nat.not_lt_zero, false_or, if_true, if_false, true_or, or_false, Nat.reduceEqDiff, eq_self, hq, c1, c2, c3, c4]
theorem m170 {a b c d e : Int32} {n : Nat} (h17 : D 168 17 = zi n) (hn : n ≤ 580) : ∃ D', zev X 170 0 [.ref 168, .int a, .int b, .int c, .int d, .int e, zJ, zJ] [] (zHP (zrow D 172 s) O, k) = some (.inl (some (.int (zi (n + 20)))), (zHP (zrow D' 172 s) O, k)) ∧ D' 168 17 = zi (n + 20) ∧ D' 168 0 = zi 0 ∧ (∀ j, j ≠ 0 → j ≠ 17 → D' 168 j = D 168 j) ∧ (∀ a, a ≠ 168 → a ≠ 176 → D' a = D a) ∧ ∀ j, D' 176 j = if n ≤ j ∧ j < n + 20 then yByte a b c d e (j - n) else D 176 j := by
  have key : ∀ r q (D' : ZD2) v, q + r = 20 → D' 168 17 = zi n → D' 168 0 = zi 0 → (∀ j, j ≠ 0 → D' 168 j = D 168 j) → (∀ a, a ≠ 168 → a ≠ 176 → D' a = D a) → (∀ j, D' 176 j = if n ≤ j ∧ j < n + q then yByte a b c d e (j - n) else D 176 j) → ∃ D'', zev X 170 23 [.ref 168, .int a, .int b, .int c, .int d, .int e, .int (zi q), v] [] (zHP (zrow D' 172 s) O, k) = some (.inl (some (.int (zi (n + 20)))), (zHP (zrow D'' 172 s) O, k)) ∧ D'' 168 17 = zi (n + 20) ∧ D'' 168 0 = zi 0 ∧ (∀ j, j ≠ 0 → j ≠ 17 → D'' 168 j = D 168 j) ∧ (∀ a, a ≠ 168 → a ≠ 176 → D'' a = D a) ∧ ∀ j, D'' 176 j = if n ≤ j ∧ j < n + 20 then yByte a b c d e (j - n) else D 176 j := by
    intro r
    induction r with
    | zero =>
      intro q D' v hq h1 h2 h3 h4 h5
      have e20 : q = 20 := by omega
      subst e20
      refine ⟨zw D' 168 17 (zi (n + 20)), ?_, zw_self _ _ _ _, by rw [zw_ne (by omega)]; exact h2, fun j j1 j2 => by rw [zw_ne (by omega)]; exact h3 j j1, fun a a1 a2 => by rw [zw_row a1]; exact h4 a a1 a2, fun j => by rw [zw_row (by omega)]; exact h5 j⟩
      refine b170_23.trans ?_
      have ew : zw (zrow D' 172 s) 168 17 (zi (n + 20)) = zrow (zw D' 168 17 (zi (n + 20))) 172 s := zw_so (by omega)
      simp (disch := first | assumption | omega) only [↓zn_l, zl_0, zl_1, zl_2, zl_3, zl_4, zl_5, zl_6, zl_7, zl_8, zl_9, zl_10, zl_11, zl_12, zl_13, zl_14, zl_15, zl_16, zl_17, zl_18, zl_19, zl_20, zl_21, zl_22, zl_23, zl_24, zl_25, zl_26, zl_27, zl_28, zl_29, zl_30, zl_31, zl_32, zl_36, zl_46, zl_48, zl_50, zl_57, zl_63, zl_64, zl_72, zl_97, zl_99, zl_100, zl_101, zl_122, zl_127, zl_200, zl_255, zl_406, zl_534, zl_540, zl_600, zl_9999, zl_33, zl_34, zl_35, zl_37, zl_38, zl_39, zl_40, zl_41, zl_42, zl_43, zl_44, zl_45, zl_47, zl_49, zl_52, zl_53, zl_54, zl_55, zl_58, zl_59, zl_60, zl_61, zl_62, zl_65, zl_70, zl_71, zl_98, zl_102, zl_103, zl_104, zl_105, zl_110, zl_111, zl_115, zl_120, zl_123, zl_126, zl_128, zl_256, zl_1000, zl_1024, zcon_inl, zcon_inr, Option.toList_some, Option.toList_none, List.cons_append, List.nil_append, List.append_nil, Nat.add_zero, zbind_some, zi_toNat, zi_lt, zi_inj, zi_add, zi_mul, zi_ne_zn, zn_ne_zi, zn_lt_zi, zi_lt_zn, Nat.not_lt_zero, false_or, if_true, if_false, true_or, or_false, Nat.reduceEqDiff, eq_self, Nat.lt_irrefl, e168s, h1, ew, zw_self]
    | succ r ih =>
      intro q D' v hq h1 h2 h3 h4 h5
      rw [m170step h1 hn (by omega)]
      refine ih (q + 1) _ _ (by omega) (by rw [zw_ne (by omega)]; exact h1) (by rw [zw_ne (by omega)]; exact h2) (fun j j1 => by rw [zw_ne (by omega)]; exact h3 j j1) (fun a a1 a2 => by rw [zw_row a2]; exact h4 a a1 a2) (fun j => ?_)
      by_cases ej : j = n + q
      · subst ej
        rw [zw_self, if_pos (by omega), show n + q - n = q by omega]
      · rw [zw_ne (by omega), h5 j]
        exact zif_congr (by omega)
  obtain ⟨D'', e1, e2⟩ := key 20 0 (zth D 0) zJ (by omega) (by rw [zth_f (by omega)]; exact h17) (zth_0 _ _) (fun j j1 => zth_f j1) (fun a a1 _ => zth_a a1) (fun j => by rw [zth_a (by omega), if_neg (by omega)])
  refine ⟨D'', ?_, e2⟩
  rw [← e1]
  refine b170_0.trans ?_
  have ew : zw (zrow D 172 s) 168 0 (zi 0) = zrow (zth D 0) 172 s := zw_s0
  have e17 : zrow (zth D 0) 172 s 168 17 = zi n := by rw [e168s, zth_f (by omega)]; exact h17
  have h6 : ¬ 600 < n + 20 := by omega
  simp (disch := first | assumption | omega) only [↓zn_l, zl_0, zl_1, zl_2, zl_3, zl_4, zl_5, zl_6, zl_7, zl_8, zl_9, zl_10, zl_11, zl_12, zl_13, zl_14, zl_15, zl_16, zl_17, zl_18, zl_19, zl_20, zl_21, zl_22, zl_23, zl_24, zl_25, zl_26, zl_27, zl_28, zl_29, zl_30, zl_31, zl_32, zl_36, zl_46, zl_48, zl_50, zl_57, zl_63, zl_64, zl_72, zl_97, zl_99, zl_100, zl_101, zl_122, zl_127, zl_200, zl_255, zl_406, zl_534, zl_540, zl_600, zl_9999, zl_33, zl_34, zl_35, zl_37, zl_38, zl_39, zl_40, zl_41, zl_42, zl_43, zl_44, zl_45, zl_47, zl_49, zl_52, zl_53, zl_54, zl_55, zl_58, zl_59, zl_60, zl_61, zl_62, zl_65, zl_70, zl_71, zl_98, zl_102, zl_103, zl_104, zl_105, zl_110, zl_111, zl_115, zl_120, zl_123, zl_126, zl_128, zl_256, zl_1000, zl_1024, zcon_inl, zcon_inr, Option.toList_some, Option.toList_none, List.cons_append, List.nil_append, List.append_nil, Nat.add_zero, zbind_some, zi_toNat, zi_lt, zi_inj, zi_add, zi_mul, zi_ne_zn, zn_ne_zi, zn_lt_zi, zi_lt_zn, Nat.not_lt_zero, false_or, if_true, if_false, true_or, or_false, Nat.reduceEqDiff, eq_self, ew, e17, h6]
theorem m170n {a b c d e : Int32} {n : Nat} (h17 : D 168 17 = zi n) (hn : 580 < n) (h6 : n ≤ 600) : zev X 170 0 [.ref 168, .int a, .int b, .int c, .int d, .int e, zJ, zJ] [] (zHP (zrow D 172 s) O, k) = some (.inl (some (.int zn)), (zHP (zrow (zth D 0) 172 s) O, k)) := by
  refine b170_0.trans ?_
  have ew : zw (zrow D 172 s) 168 0 (zi 0) = zrow (zth D 0) 172 s := zw_s0
  have e17 : zrow (zth D 0) 172 s 168 17 = zi n := by rw [e168s, zth_f (by omega)]; exact h17
  have h7 : 600 < n + 20 := by omega
  simp (disch := first | assumption | omega) only [↓zn_l, zl_0, zl_1, zl_2, zl_3, zl_4, zl_5, zl_6, zl_7, zl_8, zl_9, zl_10, zl_11, zl_12, zl_13, zl_14, zl_15, zl_16, zl_17, zl_18, zl_19, zl_20, zl_21, zl_22, zl_23, zl_24, zl_25, zl_26, zl_27, zl_28, zl_29, zl_30, zl_31, zl_32, zl_36, zl_46, zl_48, zl_50, zl_57, zl_63, zl_64, zl_72, zl_97, zl_99, zl_100, zl_101, zl_122, zl_127, zl_200, zl_255, zl_406, zl_534, zl_540, zl_600, zl_9999, zl_33, zl_34, zl_35, zl_37, zl_38, zl_39, zl_40, zl_41, zl_42, zl_43, zl_44, zl_45, zl_47, zl_49, zl_52, zl_53, zl_54, zl_55, zl_58, zl_59, zl_60, zl_61, zl_62, zl_65, zl_70, zl_71, zl_98, zl_102, zl_103, zl_104, zl_105, zl_110, zl_111, zl_115, zl_120, zl_123, zl_126, zl_128, zl_256, zl_1000, zl_1024, zcon_inl, zcon_inr, Option.toList_some, Option.toList_none, List.cons_append, List.nil_append, List.append_nil, Nat.add_zero, zbind_some, zi_toNat, zi_lt, zi_inj, zi_add, zi_mul, zi_ne_zn, zn_ne_zi, zn_lt_zi, zi_lt_zn, Nat.not_lt_zero, false_or, if_true, if_false, true_or, or_false, Nat.reduceEqDiff, eq_self, ew, e17, h7]
theorem yByte_eq (a b c d e : Int32) : ∀ q, q < 20 → ∃ v, (sApp a b c d e)[q]? = some v ∧ v &&& zi 255 = yByte a b c d e q := by
  have z0 : ∀ v : Int32, v >>> ((zi 24 - zi 8 * (zi 3 - zi 3 / zi 4 * zi 4)) &&& zi 31) = v := fun v => by
    rw [show (zi 24 - zi 8 * (zi 3 - zi 3 / zi 4 * zi 4)) &&& zi 31 = 0 by decide, Int32.shiftRight_zero]
  intro q hq
  have sh : ∀ i, i < 5 → ((zi 24 - zi 8 * (zi (4 * i) - zi (4 * i) / zi 4 * zi 4)) &&& zi 31 = zi 24 &&& 31) ∧ ((zi 24 - zi 8 * (zi (4 * i + 1) - zi (4 * i + 1) / zi 4 * zi 4)) &&& zi 31 = zi 16 &&& 31) ∧ ((zi 24 - zi 8 * (zi (4 * i + 2) - zi (4 * i + 2) / zi 4 * zi 4)) &&& zi 31 = zi 8 &&& 31) ∧ ((zi 24 - zi 8 * (zi (4 * i + 3) - zi (4 * i + 3) / zi 4 * zi 4)) &&& zi 31 = 0) := by decide
  unfold yByte
  rcases (by omega : q = 0 ∨ q = 1 ∨ q = 2 ∨ q = 3 ∨ q = 4 ∨ q = 5 ∨ q = 6 ∨ q = 7 ∨ q = 8 ∨ q = 9 ∨ q = 10 ∨ q = 11 ∨ q = 12 ∨ q = 13 ∨ q = 14 ∨ q = 15 ∨ q = 16 ∨ q = 17 ∨ q = 18 ∨ q = 19) with rfl | rfl | rfl | rfl | rfl | rfl | rfl | rfl | rfl | rfl | rfl | rfl | rfl | rfl | rfl | rfl | rfl | rfl | rfl | rfl
  · exact ⟨_, rfl, by rw [(sh 0 (by omega)).1]; rfl⟩
  · exact ⟨_, rfl, by rw [(sh 0 (by omega)).2.1]; rfl⟩
  · exact ⟨_, rfl, by rw [(sh 0 (by omega)).2.2.1]; rfl⟩
  · exact ⟨_, rfl, by rw [(sh 0 (by omega)).2.2.2, Int32.shiftRight_zero]; rfl⟩
  · exact ⟨_, rfl, by rw [(sh 1 (by omega)).1]; rfl⟩
  · exact ⟨_, rfl, by rw [(sh 1 (by omega)).2.1]; rfl⟩
  · exact ⟨_, rfl, by rw [(sh 1 (by omega)).2.2.1]; rfl⟩
  · exact ⟨_, rfl, by rw [(sh 1 (by omega)).2.2.2, Int32.shiftRight_zero]; rfl⟩
  · exact ⟨_, rfl, by rw [(sh 2 (by omega)).1]; rfl⟩
  · exact ⟨_, rfl, by rw [(sh 2 (by omega)).2.1]; rfl⟩
  · exact ⟨_, rfl, by rw [(sh 2 (by omega)).2.2.1]; rfl⟩
  · exact ⟨_, rfl, by rw [(sh 2 (by omega)).2.2.2, Int32.shiftRight_zero]; rfl⟩
  · exact ⟨_, rfl, by rw [(sh 3 (by omega)).1]; rfl⟩
  · exact ⟨_, rfl, by rw [(sh 3 (by omega)).2.1]; rfl⟩
  · exact ⟨_, rfl, by rw [(sh 3 (by omega)).2.2.1]; rfl⟩
  · exact ⟨_, rfl, by rw [(sh 3 (by omega)).2.2.2, Int32.shiftRight_zero]; rfl⟩
  · exact ⟨_, rfl, by rw [(sh 4 (by omega)).1]; rfl⟩
  · exact ⟨_, rfl, by rw [(sh 4 (by omega)).2.1]; rfl⟩
  · exact ⟨_, rfl, by rw [(sh 4 (by omega)).2.2.1]; rfl⟩
  · exact ⟨_, rfl, by rw [(sh 4 (by omega)).2.2.2, Int32.shiftRight_zero]; rfl⟩
end
