/-! The model's judgement, and how it touches a page. -/
theorem zAge {A : Int32} {w l : Nat} (hw : w < 2147483648) (h : l ≤ w) (h1 : ¬ A < zi w) : ¬ A < zi l := fun h2 => h1 (Int32.lt_iff_toInt_lt.mpr (by
  have := Int32.lt_iff_toInt_lt.mp h2
  rw [zi_toInt (by omega)] at this ⊢
  omega))
theorem zw_same {T : ZD2} {t j : Nat} {v : Int32} (h : T t j = v) : zw T t j v = T := by
  funext a i
  unfold zw
  split
  · rename_i q
    rw [q.1, q.2, h]
  · rfl
theorem zbt0 : ¬ zb true = zi 0 := by rw [zb_0]; simp
theorem zu_twice {s : Nat → Int32} {j : Nat} {v w : Int32} : zu (zu s j v) j w = zu s j w := by
  funext i
  unfold zu
  split <;> rfl
section
variable {X : ZX} {D T : ZD2} {s : Nat → Int32} {O : ZO2} {k : Nat × Nat × Nat}
def vJudge (s : Nat → Int32) (T : ZD2) (p r : Nat) : Nat → Int32 :=
  if T 1 5 - T 3 (5 * r + 3) < T 0 3 then
    if T 1 5 - T 3 (5 * r + 3) < T 0 4 then vForget (vLied (vBack s p (T 3 (5 * r + 4))) p (zMx (zi 1) (zMn (T 2 (12 * p + 4) + -zi 10) (zi 100)))) r else vForget (vBack s p (T 3 (5 * r + 4))) r
  else vForget (zu s (10 + 6 * p + 2) (zMx (zi 1) (zMn (T 2 (12 * p + 4) + zi 1) (zi 100)))) r
theorem m259a {p g : Nat} (I : zIv T) (S : zRs D T) (R : zRd s T) (hp : p < sNp T) (hg : g < 12) (hs : T 3 (5 * (12 * p + g) + 3) ≠ zn) : zev X 259 0 [.ref 168, .int (zi p), .int (zi g), zJ, zJ] [] (zHP (zrow D 172 s) O, k) = some (.inl (some (.int (rJudge T p (12 * p + g)).1)), (zHP (zrow D 172 (vJudge s T p (12 * p + g))) O, k)) := by
  have n2 := zIv_np6 I
  have hp6 : p < 6 := by omega
  have hr : 12 * p + g < 72 := by omega
  obtain ⟨a1, a2, a3, a4, a5⟩ := R.2.2.1 (12 * p + g) hr
  have a5 := a5 hs
  have e0 := R.1.1.1
  obtain ⟨b1, b2, b3, b4, b5, b6⟩ := R.2.1 p hp
  obtain ⟨pr, tr, -, -, t1, t2, t3⟩ := I.2.2.1.1 p hp6
  have t3 := t3 hp
  have eW := S.1.2.2.2.2.1
  have eL := S.1.2.2.2.2.2
  have h540 : ¬ 540 ≤ 0 := by omega
  have h5 : ¬ 540 ≤ 7 := by omega
  have h6 : ¬ 540 ≤ 8 := by omega
  obtain ⟨w, l, w1, l1, lw, w200⟩ := I.2.2.2.2.2.2.2.1
  have fin : ∀ (s' : Nat → Int32) (a c : Int32), zev X 259 130 [.ref 168, .int (zi p), .int (zi g), .int a, .int c] [] (zHP (zrow D 172 s') O, k) = some (.inl (some (.int c)), (zHP (zrow D 172 s') O, k)) := fun s' a c => b259_130
  have last : ∀ (s' : Nat → Int32) (a c : Int32), ¬ a < T 0 4 → zev X 259 76 [.ref 168, .int (zi p), .int (zi g), .int a, .int c] [] (zHP (zrow D 172 s') O, k) = some (.inl (some (.int c)), (zHP (zrow D 172 (vForget s' (12 * p + g))) O, k)) := by
    intro s' a c ha
    refine b259_76.trans ?_
    simp (disch := first | assumption | omega) only [e168s, eL, ha, m261, fin, ↓zn_l, zl_0, zl_1, zl_2, zl_3, zl_4, zl_5, zl_6, zl_7, zl_8, zl_9, zl_10, zl_11, zl_12, zl_13, zl_14, zl_15, zl_16, zl_17, zl_18, zl_19, zl_20, zl_21, zl_22, zl_23, zl_24, zl_25, zl_26, zl_27, zl_28, zl_29, zl_30, zl_31, zl_32, zl_36, zl_46, zl_48, zl_50, zl_57, zl_63, zl_64, zl_72, zl_97, zl_99, zl_100, zl_101, zl_122, zl_127, zl_200, zl_255, zl_406, zl_534, zl_540, zl_600, zl_9999, zl_33, zl_34, zl_35, zl_37, zl_38, zl_39, zl_40, zl_41, zl_42, zl_43, zl_44, zl_45, zl_47, zl_49, zl_52, zl_53, zl_54, zl_55, zl_58, zl_59, zl_60, zl_61, zl_62, zl_65, zl_70, zl_71, zl_98, zl_102, zl_103, zl_104, zl_105, zl_110, zl_111, zl_115, zl_120, zl_123, zl_126, zl_128, zl_256, zl_1000, zl_1024, zcon_inl, zcon_inr, Option.toList_some, Option.toList_none, List.cons_append, List.nil_append, List.append_nil, Nat.add_zero, zbind_some, if_false]
    rfl
  have e208_3 := @m208 X D s O k p g 3 hp6 hg (by omega)
  have e208_4 := @m208 X D s O k p g 4 hp6 hg (by omega)
  simp (disch := first | assumption | omega) only [b259_0, m208, ↓zn_l, zl_0, zl_1, zl_2, zl_3, zl_4, zl_5, zl_6, zl_7, zl_8, zl_9, zl_10, zl_11, zl_12, zl_13, zl_14, zl_15, zl_16, zl_17, zl_18, zl_19, zl_20, zl_21, zl_22, zl_23, zl_24, zl_25, zl_26, zl_27, zl_28, zl_29, zl_30, zl_31, zl_32, zl_36, zl_46, zl_48, zl_50, zl_57, zl_63, zl_64, zl_72, zl_97, zl_99, zl_100, zl_101, zl_122, zl_127, zl_200, zl_255, zl_406, zl_534, zl_540, zl_600, zl_9999, zl_33, zl_34, zl_35, zl_37, zl_38, zl_39, zl_40, zl_41, zl_42, zl_43, zl_44, zl_45, zl_47, zl_49, zl_52, zl_53, zl_54, zl_55, zl_58, zl_59, zl_60, zl_61, zl_62, zl_65, zl_70, zl_71, zl_98, zl_102, zl_103, zl_104, zl_105, zl_110, zl_111, zl_115, zl_120, zl_123, zl_126, zl_128, zl_256, zl_1000, zl_1024, zcon_inl, zcon_inr, Option.toList_some, Option.toList_none, List.cons_append, List.nil_append, List.append_nil, Nat.add_zero, zbind_some, zi_toNat, zi_lt, zi_inj, zi_add, zi_mul, zi_ne_zn, zn_ne_zi, zn_lt_zi, zi_lt_zn, Nat.not_lt_zero, false_or, if_true, if_false, true_or, or_false, zrow_self, h540, e0, a4]
  refine b259_13.trans ?_
  unfold rJudge vJudge
  simp only [e168s, eW]
  by_cases h1 : T 1 5 - T 3 (5 * (12 * p + g) + 3) < T 0 3
  · rw [if_pos h1, if_pos h1, if_pos h1]
    have back : zev X 259 36 [.ref 168, .int (zi p), .int (zi g), .int (T 1 5 - T 3 (5 * (12 * p + g) + 3)), .int (zi 2)] [.int (T 3 (5 * (12 * p + g) + 4)), .int (zi 1), .int (zi p), .ref 168] (zHP (zrow D 172 s) O, k) = zev X 259 76 [.ref 168, .int (zi p), .int (zi g), .int (T 1 5 - T 3 (5 * (12 * p + g) + 3)), .int (zi 3)] [] (zHP (zrow D 172 (vBack s p (T 3 (5 * (12 * p + g) + 4)))) O, k) := by
      refine b259_36.trans ?_
      simp (disch := first | assumption | omega) only [m258, ↓zn_l, zl_0, zl_1, zl_2, zl_3, zl_4, zl_5, zl_6, zl_7, zl_8, zl_9, zl_10, zl_11, zl_12, zl_13, zl_14, zl_15, zl_16, zl_17, zl_18, zl_19, zl_20, zl_21, zl_22, zl_23, zl_24, zl_25, zl_26, zl_27, zl_28, zl_29, zl_30, zl_31, zl_32, zl_36, zl_46, zl_48, zl_50, zl_57, zl_63, zl_64, zl_72, zl_97, zl_99, zl_100, zl_101, zl_122, zl_127, zl_200, zl_255, zl_406, zl_534, zl_540, zl_600, zl_9999, zl_33, zl_34, zl_35, zl_37, zl_38, zl_39, zl_40, zl_41, zl_42, zl_43, zl_44, zl_45, zl_47, zl_49, zl_52, zl_53, zl_54, zl_55, zl_58, zl_59, zl_60, zl_61, zl_62, zl_65, zl_70, zl_71, zl_98, zl_102, zl_103, zl_104, zl_105, zl_110, zl_111, zl_115, zl_120, zl_123, zl_126, zl_128, zl_256, zl_1000, zl_1024, zcon_inl, zcon_inr, Option.toList_some, Option.toList_none, List.cons_append, List.nil_append, List.append_nil, Nat.add_zero, zbind_some]
      refine b259_40.trans ?_
      have z7 : zu s (10 + 6 * p + 1) (s (10 + 6 * p + 1) + -T 3 (5 * (12 * p + g) + 4)) 7 = s 7 := zu_ne (by omega)
      simp (disch := first | assumption | omega) only [↓zn_l, zl_0, zl_1, zl_2, zl_3, zl_4, zl_5, zl_6, zl_7, zl_8, zl_9, zl_10, zl_11, zl_12, zl_13, zl_14, zl_15, zl_16, zl_17, zl_18, zl_19, zl_20, zl_21, zl_22, zl_23, zl_24, zl_25, zl_26, zl_27, zl_28, zl_29, zl_30, zl_31, zl_32, zl_36, zl_46, zl_48, zl_50, zl_57, zl_63, zl_64, zl_72, zl_97, zl_99, zl_100, zl_101, zl_122, zl_127, zl_200, zl_255, zl_406, zl_534, zl_540, zl_600, zl_9999, zl_33, zl_34, zl_35, zl_37, zl_38, zl_39, zl_40, zl_41, zl_42, zl_43, zl_44, zl_45, zl_47, zl_49, zl_52, zl_53, zl_54, zl_55, zl_58, zl_59, zl_60, zl_61, zl_62, zl_65, zl_70, zl_71, zl_98, zl_102, zl_103, zl_104, zl_105, zl_110, zl_111, zl_115, zl_120, zl_123, zl_126, zl_128, zl_256, zl_1000, zl_1024, zcon_inl, zcon_inr, Option.toList_some, Option.toList_none, List.cons_append, List.nil_append, List.append_nil, Nat.add_zero, zbind_some, zi_toNat, zi_lt, zi_inj, zi_add, zi_mul, zi_ne_zn, zn_ne_zi, zn_lt_zi, zi_lt_zn, Nat.not_lt_zero, false_or, if_true, if_false, true_or, or_false, h5, zrow_self, zw_s, z7]
      rfl
    simp (disch := first | assumption | omega) only [m208, ↓zn_l, zl_0, zl_1, zl_2, zl_3, zl_4, zl_5, zl_6, zl_7, zl_8, zl_9, zl_10, zl_11, zl_12, zl_13, zl_14, zl_15, zl_16, zl_17, zl_18, zl_19, zl_20, zl_21, zl_22, zl_23, zl_24, zl_25, zl_26, zl_27, zl_28, zl_29, zl_30, zl_31, zl_32, zl_36, zl_46, zl_48, zl_50, zl_57, zl_63, zl_64, zl_72, zl_97, zl_99, zl_100, zl_101, zl_122, zl_127, zl_200, zl_255, zl_406, zl_534, zl_540, zl_600, zl_9999, zl_33, zl_34, zl_35, zl_37, zl_38, zl_39, zl_40, zl_41, zl_42, zl_43, zl_44, zl_45, zl_47, zl_49, zl_52, zl_53, zl_54, zl_55, zl_58, zl_59, zl_60, zl_61, zl_62, zl_65, zl_70, zl_71, zl_98, zl_102, zl_103, zl_104, zl_105, zl_110, zl_111, zl_115, zl_120, zl_123, zl_126, zl_128, zl_256, zl_1000, zl_1024, zcon_inl, zcon_inr, Option.toList_some, Option.toList_none, List.cons_append, List.nil_append, List.append_nil, Nat.add_zero, zbind_some, a5]
    rw [back]
    by_cases h2 : T 1 5 - T 3 (5 * (12 * p + g) + 3) < T 0 4
    · rw [if_pos h2, if_pos h2]
      refine b259_76.trans ?_
      have z2 : vBack s p (T 3 (5 * (12 * p + g) + 4)) (10 + 6 * p + 2) = zi tr := by
        unfold vBack
        rw [zu_ne (by omega), zu_ne (by omega), b3, t1]
      have z4 : vBack s p (T 3 (5 * (12 * p + g) + 4)) (10 + 6 * p + 4) = vBack s p (T 3 (5 * (12 * p + g) + 4)) (10 + 6 * p + 4) := rfl
      simp (disch := first | assumption | omega) only [e168s, eL, h2, m203, ↓zn_l, zl_0, zl_1, zl_2, zl_3, zl_4, zl_5, zl_6, zl_7, zl_8, zl_9, zl_10, zl_11, zl_12, zl_13, zl_14, zl_15, zl_16, zl_17, zl_18, zl_19, zl_20, zl_21, zl_22, zl_23, zl_24, zl_25, zl_26, zl_27, zl_28, zl_29, zl_30, zl_31, zl_32, zl_36, zl_46, zl_48, zl_50, zl_57, zl_63, zl_64, zl_72, zl_97, zl_99, zl_100, zl_101, zl_122, zl_127, zl_200, zl_255, zl_406, zl_534, zl_540, zl_600, zl_9999, zl_33, zl_34, zl_35, zl_37, zl_38, zl_39, zl_40, zl_41, zl_42, zl_43, zl_44, zl_45, zl_47, zl_49, zl_52, zl_53, zl_54, zl_55, zl_58, zl_59, zl_60, zl_61, zl_62, zl_65, zl_70, zl_71, zl_98, zl_102, zl_103, zl_104, zl_105, zl_110, zl_111, zl_115, zl_120, zl_123, zl_126, zl_128, zl_256, zl_1000, zl_1024, zcon_inl, zcon_inr, Option.toList_some, Option.toList_none, List.cons_append, List.nil_append, List.append_nil, Nat.add_zero, zbind_some, z2, if_true]
      refine b259_94.trans ?_
      have dn : (if zi 1 < zi tr - (10 : Int32) then zi tr - (10 : Int32) else zi 1) = _ := zTrDn t3 t2
      rw [dn]
      simp (disch := first | assumption | omega) only [↓zn_l, zl_0, zl_1, zl_2, zl_3, zl_4, zl_5, zl_6, zl_7, zl_8, zl_9, zl_10, zl_11, zl_12, zl_13, zl_14, zl_15, zl_16, zl_17, zl_18, zl_19, zl_20, zl_21, zl_22, zl_23, zl_24, zl_25, zl_26, zl_27, zl_28, zl_29, zl_30, zl_31, zl_32, zl_36, zl_46, zl_48, zl_50, zl_57, zl_63, zl_64, zl_72, zl_97, zl_99, zl_100, zl_101, zl_122, zl_127, zl_200, zl_255, zl_406, zl_534, zl_540, zl_600, zl_9999, zl_33, zl_34, zl_35, zl_37, zl_38, zl_39, zl_40, zl_41, zl_42, zl_43, zl_44, zl_45, zl_47, zl_49, zl_52, zl_53, zl_54, zl_55, zl_58, zl_59, zl_60, zl_61, zl_62, zl_65, zl_70, zl_71, zl_98, zl_102, zl_103, zl_104, zl_105, zl_110, zl_111, zl_115, zl_120, zl_123, zl_126, zl_128, zl_256, zl_1000, zl_1024, m260, zcon_inl, Option.toList_none, List.nil_append]
      refine b259_103.trans ?_
      simp (disch := first | assumption | omega) only [m258, ↓zn_l, zl_0, zl_1, zl_2, zl_3, zl_4, zl_5, zl_6, zl_7, zl_8, zl_9, zl_10, zl_11, zl_12, zl_13, zl_14, zl_15, zl_16, zl_17, zl_18, zl_19, zl_20, zl_21, zl_22, zl_23, zl_24, zl_25, zl_26, zl_27, zl_28, zl_29, zl_30, zl_31, zl_32, zl_36, zl_46, zl_48, zl_50, zl_57, zl_63, zl_64, zl_72, zl_97, zl_99, zl_100, zl_101, zl_122, zl_127, zl_200, zl_255, zl_406, zl_534, zl_540, zl_600, zl_9999, zl_33, zl_34, zl_35, zl_37, zl_38, zl_39, zl_40, zl_41, zl_42, zl_43, zl_44, zl_45, zl_47, zl_49, zl_52, zl_53, zl_54, zl_55, zl_58, zl_59, zl_60, zl_61, zl_62, zl_65, zl_70, zl_71, zl_98, zl_102, zl_103, zl_104, zl_105, zl_110, zl_111, zl_115, zl_120, zl_123, zl_126, zl_128, zl_256, zl_1000, zl_1024, zcon_inl, zcon_inr, Option.toList_some, Option.toList_none, List.cons_append, List.nil_append, List.append_nil, Nat.add_zero, zbind_some, zu_ne]
      refine b259_110.trans ?_
      simp (disch := first | assumption | omega) only [↓zn_l, zl_0, zl_1, zl_2, zl_3, zl_4, zl_5, zl_6, zl_7, zl_8, zl_9, zl_10, zl_11, zl_12, zl_13, zl_14, zl_15, zl_16, zl_17, zl_18, zl_19, zl_20, zl_21, zl_22, zl_23, zl_24, zl_25, zl_26, zl_27, zl_28, zl_29, zl_30, zl_31, zl_32, zl_36, zl_46, zl_48, zl_50, zl_57, zl_63, zl_64, zl_72, zl_97, zl_99, zl_100, zl_101, zl_122, zl_127, zl_200, zl_255, zl_406, zl_534, zl_540, zl_600, zl_9999, zl_33, zl_34, zl_35, zl_37, zl_38, zl_39, zl_40, zl_41, zl_42, zl_43, zl_44, zl_45, zl_47, zl_49, zl_52, zl_53, zl_54, zl_55, zl_58, zl_59, zl_60, zl_61, zl_62, zl_65, zl_70, zl_71, zl_98, zl_102, zl_103, zl_104, zl_105, zl_110, zl_111, zl_115, zl_120, zl_123, zl_126, zl_128, zl_256, zl_1000, zl_1024, zcon_inl, zcon_inr, Option.toList_some, Option.toList_none, List.cons_append, List.nil_append, List.append_nil, Nat.add_zero, zbind_some, zi_toNat, zi_lt, zi_inj, zi_add, zi_mul, zi_ne_zn, zn_ne_zi, zn_lt_zi, zi_lt_zn, Nat.not_lt_zero, false_or, if_true, if_false, true_or, or_false, h6, zrow_self, zw_s, m261, zu_ne, b259_130]
      rw [t1]
      rfl
    · rw [if_neg h2, if_neg h2]
      exact last _ _ _ h2
  · rw [if_neg h1, if_neg h1, if_neg h1]
    have h2 : ¬ T 1 5 - T 3 (5 * (12 * p + g) + 3) < T 0 4 := by
      rw [l1]
      rw [w1] at h1
      exact zAge (by omega) lw h1
    simp (disch := first | assumption | omega) only [m203, ↓zn_l, zl_0, zl_1, zl_2, zl_3, zl_4, zl_5, zl_6, zl_7, zl_8, zl_9, zl_10, zl_11, zl_12, zl_13, zl_14, zl_15, zl_16, zl_17, zl_18, zl_19, zl_20, zl_21, zl_22, zl_23, zl_24, zl_25, zl_26, zl_27, zl_28, zl_29, zl_30, zl_31, zl_32, zl_36, zl_46, zl_48, zl_50, zl_57, zl_63, zl_64, zl_72, zl_97, zl_99, zl_100, zl_101, zl_122, zl_127, zl_200, zl_255, zl_406, zl_534, zl_540, zl_600, zl_9999, zl_33, zl_34, zl_35, zl_37, zl_38, zl_39, zl_40, zl_41, zl_42, zl_43, zl_44, zl_45, zl_47, zl_49, zl_52, zl_53, zl_54, zl_55, zl_58, zl_59, zl_60, zl_61, zl_62, zl_65, zl_70, zl_71, zl_98, zl_102, zl_103, zl_104, zl_105, zl_110, zl_111, zl_115, zl_120, zl_123, zl_126, zl_128, zl_256, zl_1000, zl_1024, zcon_inl, zcon_inr, Option.toList_some, Option.toList_none, List.cons_append, List.nil_append, List.append_nil, Nat.add_zero, zbind_some, b3, t1]
    refine b259_68.trans ?_
    have up : (if zi tr + (1 : Int32) < zi 100 then zi tr + (1 : Int32) else zi 100) = _ := zTrUp t3 t2
    rw [up]
    simp (disch := first | assumption | omega) only [↓zn_l, zl_0, zl_1, zl_2, zl_3, zl_4, zl_5, zl_6, zl_7, zl_8, zl_9, zl_10, zl_11, zl_12, zl_13, zl_14, zl_15, zl_16, zl_17, zl_18, zl_19, zl_20, zl_21, zl_22, zl_23, zl_24, zl_25, zl_26, zl_27, zl_28, zl_29, zl_30, zl_31, zl_32, zl_36, zl_46, zl_48, zl_50, zl_57, zl_63, zl_64, zl_72, zl_97, zl_99, zl_100, zl_101, zl_122, zl_127, zl_200, zl_255, zl_406, zl_534, zl_540, zl_600, zl_9999, zl_33, zl_34, zl_35, zl_37, zl_38, zl_39, zl_40, zl_41, zl_42, zl_43, zl_44, zl_45, zl_47, zl_49, zl_52, zl_53, zl_54, zl_55, zl_58, zl_59, zl_60, zl_61, zl_62, zl_65, zl_70, zl_71, zl_98, zl_102, zl_103, zl_104, zl_105, zl_110, zl_111, zl_115, zl_120, zl_123, zl_126, zl_128, zl_256, zl_1000, zl_1024, m260, zcon_inl, Option.toList_none, List.nil_append]
    exact last _ _ _ h2
theorem zRd_judge {p r : Nat} (R : zRd s T) (hp : p < sNp T) (h6 : sNp T ≤ 6) (hr : r < 72) : zRd (vJudge s T p r) (rJudge T p r).2 := by
  have R1 := zRd_forget R hr h6
  have n1 : sNp (uForget T r) = sNp T := zRd_np (by unfold uForget; rw [zw_row (by omega), zw_row (by omega)])
  have e4 : uForget T r 2 (12 * p + 4) = T 2 (12 * p + 4) := by unfold uForget; rw [zw_row (by omega), zw_row (by omega)]
  unfold vJudge rJudge
  split
  · have R2 := zRd_back (p := p) (paid := T 3 (5 * r + 4)) R1 (by omega) (by omega)
    have n2 : sNp (uBack (uForget T r) p (T 3 (5 * r + 4))) = sNp T := (zRd_np (by unfold uBack uTot; rw [zw_ne (by omega), zw_row (by omega)])).trans n1
    split
    · have R3 := zRd_lied (p := p) R2 (by omega) (by omega)
      have e5 : uBack (uForget T r) p (T 3 (5 * r + 4)) 2 (12 * p + 4) = T 2 (12 * p + 4) := by unfold uBack uTot; rw [zw_row (by omega), zw_ne (by omega), e4]
      rw [e5] at R3
      rw [← vForget_lied (by omega), ← vForget_back (by omega)]
      exact R3
    · rw [← vForget_back (by omega)]
      exact R2
  · have R2 := zRd_trust (p := p) (v := zMx (zi 1) (zMn (T 2 (12 * p + 4) + zi 1) (zi 100))) R1 (by omega) (by omega)
    unfold uTrust
    rw [e4]
    have e : zu (zu (zu s (46 + 5 * r + 3) zn) (46 + 5 * r + 4) (zi 0)) (10 + 6 * p + 2) (zMx (zi 1) (zMn (T 2 (12 * p + 4) + zi 1) (zi 100))) = vForget (zu s (10 + 6 * p + 2) (zMx (zi 1) (zMn (T 2 (12 * p + 4) + zi 1) (zi 100)))) r := by
      unfold vForget
      funext q
      unfold zu
      (repeat' split) <;> first | rfl | (exfalso; omega)
    rw [← e]
    exact R2
theorem m259 {p g : Nat} (I : zIv T) (S : zRs D T) (R : zRd s T) (hp : p < sNp T) (hg : g < 12) (hs : T 3 (5 * (12 * p + g) + 3) ≠ zn) : ∃ s', zev X 259 0 [.ref 168, .int (zi p), .int (zi g), zJ, zJ] [] (zHP (zrow D 172 s) O, k) = some (.inl (some (.int (rJudge T p (12 * p + g)).1)), (zHP (zrow D 172 s') O, k)) ∧ zRd s' (rJudge T p (12 * p + g)).2 :=
  ⟨_, m259a I S R hp hg hs, zRd_judge R hp (zIv_np6 I) (by have := zIv_np6 I; omega)⟩
end
