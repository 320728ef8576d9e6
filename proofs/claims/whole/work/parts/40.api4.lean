/-! The class's looks at its offers. -/
def zFrO (D D' : ZD2) : Prop := ∀ a, a ≠ 165 → a ≠ 166 → a ≠ 167 → D' a = D a
def sL (T : ZD2) : List Nat := sOffs T (T 1 5)
theorem zfindG {β : Type} {P : Nat → β → Option ZR} {Q : Option Nat → Option ZR} {p : Nat → Bool} {n : Nat} {ok : β → Prop} (h1 : ∀ i v, i < n → ok v → (p i = true ∧ P i v = Q (some i)) ∨ (p i = false ∧ ∃ v', ok v' ∧ P i v = P (i + 1) v')) (h2 : ∀ v, ok v → P n v = Q none) : ∀ d i v, i + d = n → ok v → P i v = Q (zfn p d i)
  | 0, i, v, h, hv => by
    have e : i = n := by omega
    subst e
    exact h2 v hv
  | d + 1, i, v, h, hv => by
    rw [zfn]
    rcases h1 i v (by omega) hv with ⟨e1, e2⟩ | ⟨e1, v', e2, e3⟩
    · rw [if_pos e1]
      exact e2
    · rw [if_neg (by rw [e1]; simp), e3]
      exact zfindG h1 h2 d (i + 1) v' (by omega) e2
theorem zget_D {l : List Nat} {i : Nat} (h : i < l.length) : l[i]? = some (l.getD i 0) := by
  rw [List.getD_eq_getElem?_getD, List.getElem?_eq_getElem h]
  rfl
section
variable {X : ZX} {D T : ZD2} {O : ZO2} {k : Nat × Nat × Nat}
theorem zOL_1 {l : List Nat} (h : zOL D T l) : zmt D 20 T 165 2 = zi l.length := by rw [zmt_o (by omega)]; exact h.1
theorem zOL_2 {l : List Nat} {i : Nat} (h : zOL D T l) (hi : i < l.length) : zmt D 20 T 166 i = zi (l.getD i 0) := by rw [zmt_o (by omega)]; exact (h.2.1 i _ (zget_D hi)).1
theorem zOL_3 {l : List Nat} {i : Nat} (h : zOL D T l) (hi : i < l.length) : (D 167 i).toUInt32 = sWo T (l.getD i 0) := (h.2.1 i _ (zget_D hi)).2
theorem zOL_4 {l : List Nat} {i : Nat} (h : zOL D T l) (hi : i < l.length) : l.getD i 0 < 72 := h.2.2 _ (List.mem_of_getElem? (zget_D hi))
theorem zmin {a b : Nat} (ha : a < 2147483648) (hb : b < 2147483648) : (if zi a < zi b then zi a else zi b) = zi (min a b) := by
  by_cases h : a < b
  · rw [if_pos (by rw [zi_lt ha hb]; exact h), Nat.min_eq_left (by omega)]
  · rw [if_neg (by rw [zi_lt ha hb]; exact h), Nat.min_eq_right (by omega)]
theorem c65i (I : zIv T) (hw : zWok T) : ∃ D', zev X 65 0 [.ref 165, .ref 20, zJ] [] (zHP (zmt D 20 T) O, k) = some (.inl none, (zHP (zmt D' 20 T) O, k)) ∧ zOL D' T (sL T) ∧ zFrO D D' ∧ (sL T).length ≤ 72 := c65 hm20 (by omega) (zIv_at I) hw
theorem c124 (I : zIv T) (hw : zWok T) (h : D 20 6 = zi 1) : ∃ D', zFrO D D' ∧ (∀ i r, (sL T)[i]? = some r → zev X 124 0 [.ref 0, .int (zi i)] [] (zHP (zmt D 20 T) O, k) = some (.inl (some (.int (zi r))), (zHP (zmt D' 20 T) O, k))) ∧ ∀ a, (a < zi 0 ∨ ¬ a < zi (sL T).length) → zev X 124 0 [.ref 0, .int a] [] (zHP (zmt D 20 T) O, k) = some (.inr 2, (zHP (zmt D' 20 T) O, kt k)) := by
  obtain ⟨D', e, hO, hF, hL⟩ := c65i (X := X) (D := D) (O := O) (k := k) I hw
  refine ⟨D', hF, ?_, ?_⟩
  · intro i r hr
    have hi : i < (sL T).length := (List.getElem?_eq_some_iff.mp hr).1
    have hi72 : i < 72 := by omega
    have e2 := zOL_2 hO hi
    rw [show (sL T).getD i 0 = r by rw [List.getD_eq_getElem?_getD, hr]; rfl] at e2
    have e1 := zOL_1 hO
    simp (disch := first | assumption | omega) only [b124_0, c114, b124_4, e, b124_15, c71, e1, b124_27, hi, c68, e2, b124_49, ↓zn_l, zl_0, zl_1, zl_2, zl_3, zl_4, zl_5, zl_6, zl_7, zl_8, zl_9, zl_10, zl_11, zl_12, zl_13, zl_14, zl_15, zl_16, zl_17, zl_18, zl_19, zl_20, zl_21, zl_22, zl_23, zl_24, zl_25, zl_26, zl_27, zl_28, zl_29, zl_30, zl_31, zl_32, zl_36, zl_46, zl_48, zl_50, zl_57, zl_63, zl_64, zl_72, zl_97, zl_99, zl_100, zl_101, zl_122, zl_127, zl_200, zl_255, zl_406, zl_534, zl_540, zl_600, zl_9999, zl_33, zl_34, zl_35, zl_37, zl_38, zl_39, zl_40, zl_41, zl_42, zl_43, zl_44, zl_45, zl_47, zl_49, zl_52, zl_53, zl_54, zl_55, zl_58, zl_59, zl_60, zl_61, zl_62, zl_65, zl_70, zl_71, zl_98, zl_102, zl_103, zl_104, zl_105, zl_110, zl_111, zl_115, zl_120, zl_123, zl_126, zl_128, zl_256, zl_1000, zl_1024, zcon_inl, zcon_inr, Option.toList_some, Option.toList_none, List.cons_append, List.nil_append, List.append_nil, Nat.add_zero, zbind_some, zi_toNat, zi_lt, zi_inj, zi_add, zi_mul, zi_ne_zn, zn_ne_zi, zn_lt_zi, zi_lt_zn, Nat.not_lt_zero, false_or, if_true, if_false, true_or, or_false]
  · intro a ha
    have e1 := zOL_1 hO
    rw [b124_0, c114 h, zcon_inl]
    show zev X 124 4 _ [] _ = _
    rw [b124_4, e, zcon_inl]
    show zev X 124 15 _ [] _ = _
    rw [b124_15, zl_0]
    by_cases h1 : a < zi 0
    · rw [if_pos h1]; rfl
    · rw [if_neg h1, c71, zcon_inl]
      show zev X 124 27 _ [_, _] _ = _
      rw [b124_27, e1, if_neg (ha.resolve_left h1)]
      rfl
theorem c124n {a : Int32} (h : D 20 6 = zi 0) : zev X 124 0 [.ref 0, .int a] [] (zHP (zmt D 20 T) O, k) = some (.inr 1, (zHP (zmt D 20 T) O, kt k)) := by
  rw [b124_0, c114n h]
  rfl
def rOffer (T : ZD2) (r w : Nat) : Int32 := if w = 0 then zi (r / 12) else if w = 1 then zi (r - r / 12 * 12) else sPrice T r
theorem c123b {r w : Nat} {a : Int32} (I : zIv T) (hr : r < 72) (hw : w ≤ 2) : zev X 123 5 [.ref 0, .int a, .int (zi w), zJ] [.int (zi r)] (zHP (zmt D 20 T) O, k) = some (.inl (some (.int (rOffer T r w))), (zHP (zmt D 20 T) O, k)) := by
  have e116 := @c116z X (zmt D 20 T) O k w 0 2 (by omega) hw (by omega)
  have e44 := @c44 X D T O k 20 r hm20 hr (zIv_at I r hr)
  have hle : r / 12 * 12 ≤ r := Nat.div_mul_le_self r 12
  have start : ∀ t R, zlook 13 37 #[(0, 27), (1, 32)] (zi w) = some t → zev X 123 t [.ref 0, .int a, .int (zi w), .int (zi r)] [] (zHP (zmt D 20 T) O, k) = R → zev X 123 5 [.ref 0, .int a, .int (zi w), zJ] [.int (zi r)] (zHP (zmt D 20 T) O, k) = R := by
    intro t R ht hR
    rw [← hR]
    simp (disch := first | assumption | omega) only [b123_5, e116, ↓zn_l, zl_0, zl_1, zl_2, zl_3, zl_4, zl_5, zl_6, zl_7, zl_8, zl_9, zl_10, zl_11, zl_12, zl_13, zl_14, zl_15, zl_16, zl_17, zl_18, zl_19, zl_20, zl_21, zl_22, zl_23, zl_24, zl_25, zl_26, zl_27, zl_28, zl_29, zl_30, zl_31, zl_32, zl_36, zl_46, zl_48, zl_50, zl_57, zl_63, zl_64, zl_72, zl_97, zl_99, zl_100, zl_101, zl_122, zl_127, zl_200, zl_255, zl_406, zl_534, zl_540, zl_600, zl_9999, zl_33, zl_34, zl_35, zl_37, zl_38, zl_39, zl_40, zl_41, zl_42, zl_43, zl_44, zl_45, zl_47, zl_49, zl_52, zl_53, zl_54, zl_55, zl_58, zl_59, zl_60, zl_61, zl_62, zl_65, zl_70, zl_71, zl_98, zl_102, zl_103, zl_104, zl_105, zl_110, zl_111, zl_115, zl_120, zl_123, zl_126, zl_128, zl_256, zl_1000, zl_1024, zcon_inl, zcon_inr, Option.toList_some, Option.toList_none, List.cons_append, List.nil_append, List.append_nil, Nat.add_zero, zbind_some]
    refine b123_12.trans ?_
    rw [ht]
    rfl
  rcases (by omega : w = 0 ∨ w = 1 ∨ w = 2) with rfl | rfl | rfl
  · exact start 40 _ (by decide) (by simp (disch := first | assumption | omega) only [b123_40, zi_div, ↓zn_l, zl_0, zl_1, zl_2, zl_3, zl_4, zl_5, zl_6, zl_7, zl_8, zl_9, zl_10, zl_11, zl_12, zl_13, zl_14, zl_15, zl_16, zl_17, zl_18, zl_19, zl_20, zl_21, zl_22, zl_23, zl_24, zl_25, zl_26, zl_27, zl_28, zl_29, zl_30, zl_31, zl_32, zl_36, zl_46, zl_48, zl_50, zl_57, zl_63, zl_64, zl_72, zl_97, zl_99, zl_100, zl_101, zl_122, zl_127, zl_200, zl_255, zl_406, zl_534, zl_540, zl_600, zl_9999, zl_33, zl_34, zl_35, zl_37, zl_38, zl_39, zl_40, zl_41, zl_42, zl_43, zl_44, zl_45, zl_47, zl_49, zl_52, zl_53, zl_54, zl_55, zl_58, zl_59, zl_60, zl_61, zl_62, zl_65, zl_70, zl_71, zl_98, zl_102, zl_103, zl_104, zl_105, zl_110, zl_111, zl_115, zl_120, zl_123, zl_126, zl_128, zl_256, zl_1000, zl_1024, zcon_inl, zcon_inr, Option.toList_some, Option.toList_none, List.cons_append, List.nil_append, List.append_nil, Nat.add_zero, zbind_some]; rfl)
  · exact start 45 _ (by decide) (by simp (disch := first | assumption | omega) only [b123_45, zi_div, zi_mul, zi_sub, ↓zn_l, zl_0, zl_1, zl_2, zl_3, zl_4, zl_5, zl_6, zl_7, zl_8, zl_9, zl_10, zl_11, zl_12, zl_13, zl_14, zl_15, zl_16, zl_17, zl_18, zl_19, zl_20, zl_21, zl_22, zl_23, zl_24, zl_25, zl_26, zl_27, zl_28, zl_29, zl_30, zl_31, zl_32, zl_36, zl_46, zl_48, zl_50, zl_57, zl_63, zl_64, zl_72, zl_97, zl_99, zl_100, zl_101, zl_122, zl_127, zl_200, zl_255, zl_406, zl_534, zl_540, zl_600, zl_9999, zl_33, zl_34, zl_35, zl_37, zl_38, zl_39, zl_40, zl_41, zl_42, zl_43, zl_44, zl_45, zl_47, zl_49, zl_52, zl_53, zl_54, zl_55, zl_58, zl_59, zl_60, zl_61, zl_62, zl_65, zl_70, zl_71, zl_98, zl_102, zl_103, zl_104, zl_105, zl_110, zl_111, zl_115, zl_120, zl_123, zl_126, zl_128, zl_256, zl_1000, zl_1024, zcon_inl, zcon_inr, Option.toList_some, Option.toList_none, List.cons_append, List.nil_append, List.append_nil, Nat.add_zero, zbind_some]; rfl)
  · exact start 50 _ (by decide) (by simp (disch := first | assumption | omega) only [b123_50, e44, b123_58, ↓zn_l, zl_0, zl_1, zl_2, zl_3, zl_4, zl_5, zl_6, zl_7, zl_8, zl_9, zl_10, zl_11, zl_12, zl_13, zl_14, zl_15, zl_16, zl_17, zl_18, zl_19, zl_20, zl_21, zl_22, zl_23, zl_24, zl_25, zl_26, zl_27, zl_28, zl_29, zl_30, zl_31, zl_32, zl_36, zl_46, zl_48, zl_50, zl_57, zl_63, zl_64, zl_72, zl_97, zl_99, zl_100, zl_101, zl_122, zl_127, zl_200, zl_255, zl_406, zl_534, zl_540, zl_600, zl_9999, zl_33, zl_34, zl_35, zl_37, zl_38, zl_39, zl_40, zl_41, zl_42, zl_43, zl_44, zl_45, zl_47, zl_49, zl_52, zl_53, zl_54, zl_55, zl_58, zl_59, zl_60, zl_61, zl_62, zl_65, zl_70, zl_71, zl_98, zl_102, zl_103, zl_104, zl_105, zl_110, zl_111, zl_115, zl_120, zl_123, zl_126, zl_128, zl_256, zl_1000, zl_1024, zcon_inl, zcon_inr, Option.toList_some, Option.toList_none, List.cons_append, List.nil_append, List.append_nil, Nat.add_zero, zbind_some]; rfl)
theorem c125b {r : Nat} {a : Int32} (I : zIv T) (hw : zWok T) (hr : r < 72) : zev X 125 5 [.ref 0, .int a, zJ] [.int (zi r)] (zHP (zmt D 20 T) O, k) = some (.inl (some (.float (sWo T r))), (zHP (zmt D 20 T) O, k)) := by
  have e44 := @c44 X D T O k 20 r hm20 hr (zIv_at I r hr)
  have e46 := @c46 X D T O k 20 r (sPrice T r) hm20 hr (hw r hr)
  simp (disch := first | assumption | omega) only [b125_5, e44, b125_19, e46, b125_22, ↓zn_l, zl_0, zl_1, zl_2, zl_3, zl_4, zl_5, zl_6, zl_7, zl_8, zl_9, zl_10, zl_11, zl_12, zl_13, zl_14, zl_15, zl_16, zl_17, zl_18, zl_19, zl_20, zl_21, zl_22, zl_23, zl_24, zl_25, zl_26, zl_27, zl_28, zl_29, zl_30, zl_31, zl_32, zl_36, zl_46, zl_48, zl_50, zl_57, zl_63, zl_64, zl_72, zl_97, zl_99, zl_100, zl_101, zl_122, zl_127, zl_200, zl_255, zl_406, zl_534, zl_540, zl_600, zl_9999, zl_33, zl_34, zl_35, zl_37, zl_38, zl_39, zl_40, zl_41, zl_42, zl_43, zl_44, zl_45, zl_47, zl_49, zl_52, zl_53, zl_54, zl_55, zl_58, zl_59, zl_60, zl_61, zl_62, zl_65, zl_70, zl_71, zl_98, zl_102, zl_103, zl_104, zl_105, zl_110, zl_111, zl_115, zl_120, zl_123, zl_126, zl_128, zl_256, zl_1000, zl_1024, zcon_inl, zcon_inr, Option.toList_some, Option.toList_none, List.cons_append, List.nil_append, List.append_nil, Nat.add_zero, zbind_some]
  rfl
def sCost (T : ZD2) (n : Nat) : Int32 := zfo (fun i s => s + sPrice T ((sL T).getD i 0)) (min n (sL T).length) 0 (zi 0)
theorem c126 {n : Nat} (I : zIv T) (hw : zWok T) (h : D 20 6 = zi 1) (h1 : 1 ≤ n) (h2 : n ≤ 72) : ∃ D', zFrO D D' ∧ zev X 126 0 [.ref 0, .int (zi n), zJ, zJ, zJ] [] (zHP (zmt D 20 T) O, k) = some (.inl (some (.int (sCost T n))), (zHP (zmt D' 20 T) O, k)) := by
  obtain ⟨D', e, hO, hF, hL⟩ := c65i (X := X) (D := D) (O := O) (k := k) I hw
  refine ⟨D', hF, ?_⟩
  have e116 := @c116z X (zmt D 20 T) O k n 1 72 h1 h2 (by omega)
  have e1 := zOL_1 hO
  have hb : min n (sL T).length ≤ 72 := by omega
  have hb2 : min n (sL T).length ≤ (sL T).length := Nat.min_le_right _ _
  have em : (if zi (sL T).length < zi n then zi (sL T).length else zi n) = zi (min n (sL T).length) := by rw [zmin (by omega) (by omega), Nat.min_comm]
  have em2 : (if zi n < zi (sL T).length then zi n else zi (sL T).length) = zi (min n (sL T).length) := zmin (by omega) (by omega)
  have loop := zloop (P := fun i s => zev X 126 39 [.ref 0, .int (zi n), .int (zi (min n (sL T).length)), .int s, .int (zi i)] [] (zHP (zmt D' 20 T) O, k)) (Q := fun s => some (.inl (some (.int s)), (zHP (zmt D' 20 T) O, k))) (f := fun i s => s + sPrice T ((sL T).getD i 0)) (n := min n (sL T).length) ?_ ?_ (min n (sL T).length) 0 (zi 0) (by omega)
  · simp (disch := first | assumption | omega) only [b126_0, c114, b126_4, e116, b126_11, e, b126_22, c71, e1, ↓zn_l, zl_0, zl_1, zl_2, zl_3, zl_4, zl_5, zl_6, zl_7, zl_8, zl_9, zl_10, zl_11, zl_12, zl_13, zl_14, zl_15, zl_16, zl_17, zl_18, zl_19, zl_20, zl_21, zl_22, zl_23, zl_24, zl_25, zl_26, zl_27, zl_28, zl_29, zl_30, zl_31, zl_32, zl_36, zl_46, zl_48, zl_50, zl_57, zl_63, zl_64, zl_72, zl_97, zl_99, zl_100, zl_101, zl_122, zl_127, zl_200, zl_255, zl_406, zl_534, zl_540, zl_600, zl_9999, zl_33, zl_34, zl_35, zl_37, zl_38, zl_39, zl_40, zl_41, zl_42, zl_43, zl_44, zl_45, zl_47, zl_49, zl_52, zl_53, zl_54, zl_55, zl_58, zl_59, zl_60, zl_61, zl_62, zl_65, zl_70, zl_71, zl_98, zl_102, zl_103, zl_104, zl_105, zl_110, zl_111, zl_115, zl_120, zl_123, zl_126, zl_128, zl_256, zl_1000, zl_1024, zcon_inl, zcon_inr, Option.toList_some, Option.toList_none, List.cons_append, List.nil_append, List.append_nil, Nat.add_zero, zbind_some]
    refine b126_30.trans ?_
    first
    | rw [em]
    | rw [em2]
    exact loop
  · intro i s hi
    have hi72 : i < 72 := by omega
    have e2 := zOL_2 hO (i := i) (by omega)
    have hr := zOL_4 hO (i := i) (by omega)
    have e44 := @c44 X D' T O k 20 _ hm20 hr (zIv_at I _ hr)
    refine b126_39.trans ?_
    simp (disch := first | assumption | omega) only [hi, c68, e2, b126_59, e44, b126_62, ↓zn_l, zl_0, zl_1, zl_2, zl_3, zl_4, zl_5, zl_6, zl_7, zl_8, zl_9, zl_10, zl_11, zl_12, zl_13, zl_14, zl_15, zl_16, zl_17, zl_18, zl_19, zl_20, zl_21, zl_22, zl_23, zl_24, zl_25, zl_26, zl_27, zl_28, zl_29, zl_30, zl_31, zl_32, zl_36, zl_46, zl_48, zl_50, zl_57, zl_63, zl_64, zl_72, zl_97, zl_99, zl_100, zl_101, zl_122, zl_127, zl_200, zl_255, zl_406, zl_534, zl_540, zl_600, zl_9999, zl_33, zl_34, zl_35, zl_37, zl_38, zl_39, zl_40, zl_41, zl_42, zl_43, zl_44, zl_45, zl_47, zl_49, zl_52, zl_53, zl_54, zl_55, zl_58, zl_59, zl_60, zl_61, zl_62, zl_65, zl_70, zl_71, zl_98, zl_102, zl_103, zl_104, zl_105, zl_110, zl_111, zl_115, zl_120, zl_123, zl_126, zl_128, zl_256, zl_1000, zl_1024, zcon_inl, zcon_inr, Option.toList_some, Option.toList_none, List.cons_append, List.nil_append, List.append_nil, Nat.add_zero, zbind_some, zi_toNat, zi_lt, zi_inj, zi_add, zi_mul, zi_ne_zn, zn_ne_zi, zn_lt_zi, zi_lt_zn, Nat.not_lt_zero, false_or, if_true, if_false, true_or, or_false]
  · intro s
    refine b126_39.trans ?_
    simp (disch := first | assumption | omega) only [↓zn_l, zl_0, zl_1, zl_2, zl_3, zl_4, zl_5, zl_6, zl_7, zl_8, zl_9, zl_10, zl_11, zl_12, zl_13, zl_14, zl_15, zl_16, zl_17, zl_18, zl_19, zl_20, zl_21, zl_22, zl_23, zl_24, zl_25, zl_26, zl_27, zl_28, zl_29, zl_30, zl_31, zl_32, zl_36, zl_46, zl_48, zl_50, zl_57, zl_63, zl_64, zl_72, zl_97, zl_99, zl_100, zl_101, zl_122, zl_127, zl_200, zl_255, zl_406, zl_534, zl_540, zl_600, zl_9999, zl_33, zl_34, zl_35, zl_37, zl_38, zl_39, zl_40, zl_41, zl_42, zl_43, zl_44, zl_45, zl_47, zl_49, zl_52, zl_53, zl_54, zl_55, zl_58, zl_59, zl_60, zl_61, zl_62, zl_65, zl_70, zl_71, zl_98, zl_102, zl_103, zl_104, zl_105, zl_110, zl_111, zl_115, zl_120, zl_123, zl_126, zl_128, zl_256, zl_1000, zl_1024, zcon_inl, zcon_inr, Option.toList_some, Option.toList_none, List.cons_append, List.nil_append, List.append_nil, Nat.add_zero, zbind_some, zi_toNat, zi_lt, zi_inj, zi_add, zi_mul, zi_ne_zn, zn_ne_zi, zn_lt_zi, zi_lt_zn, Nat.not_lt_zero, false_or, if_true, if_false, true_or, or_false, Nat.lt_irrefl]
def sCrd (T : ZD2) (p n : Nat) : Int32 := zfo (fun i s => s + (if (sL T).getD i 0 / 12 = p then sPrice T ((sL T).getD i 0) else zi 0)) (min n (sL T).length) 0 (T 2 (12 * p + 3))
theorem c143 {p n : Nat} (I : zIv T) (hw : zWok T) (h : D 20 6 = zi 1) (hp : p < sNp T) (h1 : 1 ≤ n) (h2 : n ≤ 72) : ∃ D', zFrO D D' ∧ zev X 143 0 [.ref 0, .int (zi p), .int (zi n), zJ, zJ, zJ, zJ] [] (zHP (zmt D 20 T) O, k) = some (.inl (some (.int (sCrd T p n))), (zHP (zmt D' 20 T) O, k)) := by
  obtain ⟨D', e, hO, hF, hL⟩ := c65i (X := X) (D := D) (O := O) (k := k) I hw
  refine ⟨D', hF, ?_⟩
  have n2 := zIv_np6 I
  have hp6 : p < 6 := by omega
  have e119 := @c119 X D T O k p (sNp T) h (zIv_np I) n2 hp
  have e116 := @c116z X (zmt D 20 T) O k n 1 72 h1 h2 (by omega)
  have e1 := zOL_1 hO
  have e132 := @c132 X D' T O k p hp6
  have em : (if zi (sL T).length < zi n then zi (sL T).length else zi n) = zi (min n (sL T).length) := by rw [zmin (by omega) (by omega), Nat.min_comm]
  have em2 : (if zi n < zi (sL T).length then zi n else zi (sL T).length) = zi (min n (sL T).length) := zmin (by omega) (by omega)
  have hb : min n (sL T).length ≤ 72 := by omega
  have hb2 : min n (sL T).length ≤ (sL T).length := Nat.min_le_right _ _
  have loop := (zloopW (P := fun i s v => zev X 143 45 [.ref 0, .int (zi p), .int (zi n), .int (zi (min n (sL T).length)), .int s, .int (zi i), v] [] (zHP (zmt D' 20 T) O, k)) (Q := fun s => some (.inl (some (.int s)), (zHP (zmt D' 20 T) O, k))) (f := fun i s => s + (if (sL T).getD i 0 / 12 = p then sPrice T ((sL T).getD i 0) else zi 0)) (n := min n (sL T).length) (J := fun _ _ => True) ?_ ?_ (min n (sL T).length) 0 (T 2 (12 * p + 3)) zJ (by omega) trivial rfl).1
  · simp (disch := first | assumption | omega) only [b143_0, e119, b143_5, e116, b143_12, e, b143_23, c71, e1, b143_31, e132, ↓zn_l, zl_0, zl_1, zl_2, zl_3, zl_4, zl_5, zl_6, zl_7, zl_8, zl_9, zl_10, zl_11, zl_12, zl_13, zl_14, zl_15, zl_16, zl_17, zl_18, zl_19, zl_20, zl_21, zl_22, zl_23, zl_24, zl_25, zl_26, zl_27, zl_28, zl_29, zl_30, zl_31, zl_32, zl_36, zl_46, zl_48, zl_50, zl_57, zl_63, zl_64, zl_72, zl_97, zl_99, zl_100, zl_101, zl_122, zl_127, zl_200, zl_255, zl_406, zl_534, zl_540, zl_600, zl_9999, zl_33, zl_34, zl_35, zl_37, zl_38, zl_39, zl_40, zl_41, zl_42, zl_43, zl_44, zl_45, zl_47, zl_49, zl_52, zl_53, zl_54, zl_55, zl_58, zl_59, zl_60, zl_61, zl_62, zl_65, zl_70, zl_71, zl_98, zl_102, zl_103, zl_104, zl_105, zl_110, zl_111, zl_115, zl_120, zl_123, zl_126, zl_128, zl_256, zl_1000, zl_1024, zcon_inl, zcon_inr, Option.toList_some, Option.toList_none, List.cons_append, List.nil_append, List.append_nil, Nat.add_zero, zbind_some]
    refine b143_40.trans ?_
    first
    | rw [em]
    | rw [em2]
    exact loop
  · intro i s v hi _ hv
    have hi72 : i < 72 := by omega
    have e2 := zOL_2 hO (i := i) (by omega)
    have hr := zOL_4 hO (i := i) (by omega)
    have e44 := @c44 X D' T O k 20 _ hm20 hr (zIv_at I _ hr)
    refine ⟨.int (zi ((sL T).getD i 0)), rfl, ?_, trivial⟩
    refine b143_45.trans ?_
    simp (disch := first | assumption | omega) only [hi, c68, e2, b143_60, zi_div, e44, b143_82, ↓zn_l, zl_0, zl_1, zl_2, zl_3, zl_4, zl_5, zl_6, zl_7, zl_8, zl_9, zl_10, zl_11, zl_12, zl_13, zl_14, zl_15, zl_16, zl_17, zl_18, zl_19, zl_20, zl_21, zl_22, zl_23, zl_24, zl_25, zl_26, zl_27, zl_28, zl_29, zl_30, zl_31, zl_32, zl_36, zl_46, zl_48, zl_50, zl_57, zl_63, zl_64, zl_72, zl_97, zl_99, zl_100, zl_101, zl_122, zl_127, zl_200, zl_255, zl_406, zl_534, zl_540, zl_600, zl_9999, zl_33, zl_34, zl_35, zl_37, zl_38, zl_39, zl_40, zl_41, zl_42, zl_43, zl_44, zl_45, zl_47, zl_49, zl_52, zl_53, zl_54, zl_55, zl_58, zl_59, zl_60, zl_61, zl_62, zl_65, zl_70, zl_71, zl_98, zl_102, zl_103, zl_104, zl_105, zl_110, zl_111, zl_115, zl_120, zl_123, zl_126, zl_128, zl_256, zl_1000, zl_1024, zcon_inl, zcon_inr, Option.toList_some, Option.toList_none, List.cons_append, List.nil_append, List.append_nil, Nat.add_zero, zbind_some, zi_toNat, zi_lt, zi_inj, zi_add, zi_mul, zi_ne_zn, zn_ne_zi, zn_lt_zi, zi_lt_zn, Nat.not_lt_zero, false_or, if_true, if_false, true_or, or_false, zi_inj]
    by_cases q : (sL T).getD i 0 / 12 = p <;> simp only [q, if_true, if_false]
  · intro s v _ _
    refine b143_45.trans ?_
    simp (disch := first | assumption | omega) only [↓zn_l, zl_0, zl_1, zl_2, zl_3, zl_4, zl_5, zl_6, zl_7, zl_8, zl_9, zl_10, zl_11, zl_12, zl_13, zl_14, zl_15, zl_16, zl_17, zl_18, zl_19, zl_20, zl_21, zl_22, zl_23, zl_24, zl_25, zl_26, zl_27, zl_28, zl_29, zl_30, zl_31, zl_32, zl_36, zl_46, zl_48, zl_50, zl_57, zl_63, zl_64, zl_72, zl_97, zl_99, zl_100, zl_101, zl_122, zl_127, zl_200, zl_255, zl_406, zl_534, zl_540, zl_600, zl_9999, zl_33, zl_34, zl_35, zl_37, zl_38, zl_39, zl_40, zl_41, zl_42, zl_43, zl_44, zl_45, zl_47, zl_49, zl_52, zl_53, zl_54, zl_55, zl_58, zl_59, zl_60, zl_61, zl_62, zl_65, zl_70, zl_71, zl_98, zl_102, zl_103, zl_104, zl_105, zl_110, zl_111, zl_115, zl_120, zl_123, zl_126, zl_128, zl_256, zl_1000, zl_1024, zcon_inl, zcon_inr, Option.toList_some, Option.toList_none, List.cons_append, List.nil_append, List.append_nil, Nat.add_zero, zbind_some, zi_toNat, zi_lt, zi_inj, zi_add, zi_mul, zi_ne_zn, zn_ne_zi, zn_lt_zi, zi_lt_zn, Nat.not_lt_zero, false_or, if_true, if_false, true_or, or_false, Nat.lt_irrefl]
def sRiv (T : ZD2) (p : Nat) : Option Nat := zfn (fun i => !decide ((sL T).getD i 0 / 12 = p)) (sL T).length 0
theorem c73 {p : Nat} (hO : zOL D T (sL T)) (hL : (sL T).length ≤ 72) (hp : p < 6) : zev X 73 0 [.ref 165, .int (zi p), zJ] [] (zHP (zmt D 20 T) O, k) = some (.inl (some (.int (zo (sRiv T p)))), (zHP (zmt D 20 T) O, k)) := by
  have e1 := zOL_1 hO
  simp only [b73_0, ↓zn_l, zl_0, zl_1, zl_2, zl_3, zl_4, zl_5, zl_6, zl_7, zl_8, zl_9, zl_10, zl_11, zl_12, zl_13, zl_14, zl_15, zl_16, zl_17, zl_18, zl_19, zl_20, zl_21, zl_22, zl_23, zl_24, zl_25, zl_26, zl_27, zl_28, zl_29, zl_30, zl_31, zl_32, zl_36, zl_46, zl_48, zl_50, zl_57, zl_63, zl_64, zl_72, zl_97, zl_99, zl_100, zl_101, zl_122, zl_127, zl_200, zl_255, zl_406, zl_534, zl_540, zl_600, zl_9999, zl_33, zl_34, zl_35, zl_37, zl_38, zl_39, zl_40, zl_41, zl_42, zl_43, zl_44, zl_45, zl_47, zl_49, zl_52, zl_53, zl_54, zl_55, zl_58, zl_59, zl_60, zl_61, zl_62, zl_65, zl_70, zl_71, zl_98, zl_102, zl_103, zl_104, zl_105, zl_110, zl_111, zl_115, zl_120, zl_123, zl_126, zl_128, zl_256, zl_1000, zl_1024]
  refine zfindG (β := Unit) (P := fun i _ => zev X 73 2 [.ref 165, .int (zi p), .int (zi i)] [] (zHP (zmt D 20 T) O, k)) (Q := fun o => some (.inl (some (.int (zo o))), (zHP (zmt D 20 T) O, k))) (n := (sL T).length) (ok := fun _ => True) ?_ ?_ (sL T).length 0 () (by omega) trivial
  · intro i v hi _
    have hi72 : i < 72 := by omega
    have e2 := zOL_2 hO hi
    have hr := zOL_4 hO hi
    have start : zev X 73 2 [.ref 165, .int (zi p), .int (zi i)] [] (zHP (zmt D 20 T) O, k) = if (sL T).getD i 0 / 12 = p then zev X 73 2 [.ref 165, .int (zi p), .int (zi (i + 1))] [] (zHP (zmt D 20 T) O, k) else some (.inl (some (.int (zi i))), (zHP (zmt D 20 T) O, k)) := by
      refine b73_2.trans ?_
      simp (disch := first | assumption | omega) only [e1, hi, c68, e2, b73_15, zi_div, ↓zn_l, zl_0, zl_1, zl_2, zl_3, zl_4, zl_5, zl_6, zl_7, zl_8, zl_9, zl_10, zl_11, zl_12, zl_13, zl_14, zl_15, zl_16, zl_17, zl_18, zl_19, zl_20, zl_21, zl_22, zl_23, zl_24, zl_25, zl_26, zl_27, zl_28, zl_29, zl_30, zl_31, zl_32, zl_36, zl_46, zl_48, zl_50, zl_57, zl_63, zl_64, zl_72, zl_97, zl_99, zl_100, zl_101, zl_122, zl_127, zl_200, zl_255, zl_406, zl_534, zl_540, zl_600, zl_9999, zl_33, zl_34, zl_35, zl_37, zl_38, zl_39, zl_40, zl_41, zl_42, zl_43, zl_44, zl_45, zl_47, zl_49, zl_52, zl_53, zl_54, zl_55, zl_58, zl_59, zl_60, zl_61, zl_62, zl_65, zl_70, zl_71, zl_98, zl_102, zl_103, zl_104, zl_105, zl_110, zl_111, zl_115, zl_120, zl_123, zl_126, zl_128, zl_256, zl_1000, zl_1024, zcon_inl, zcon_inr, Option.toList_some, Option.toList_none, List.cons_append, List.nil_append, List.append_nil, Nat.add_zero, zbind_some, zi_toNat, zi_lt, zi_inj, zi_add, zi_mul, zi_ne_zn, zn_ne_zi, zn_lt_zi, zi_lt_zn, Nat.not_lt_zero, false_or, if_true, if_false, true_or, or_false, zi_inj]
    by_cases q : (sL T).getD i 0 / 12 = p
    · right
      refine ⟨by simp only [q, decide_true, Bool.not_true], (), trivial, ?_⟩
      exact start.trans (if_pos q)
    · left
      exact ⟨by simp only [q, decide_false, Bool.not_false], start.trans (if_neg q)⟩
  · intro v _
    refine b73_2.trans ?_
    simp (disch := first | assumption | omega) only [e1, ↓zn_l, zl_0, zl_1, zl_2, zl_3, zl_4, zl_5, zl_6, zl_7, zl_8, zl_9, zl_10, zl_11, zl_12, zl_13, zl_14, zl_15, zl_16, zl_17, zl_18, zl_19, zl_20, zl_21, zl_22, zl_23, zl_24, zl_25, zl_26, zl_27, zl_28, zl_29, zl_30, zl_31, zl_32, zl_36, zl_46, zl_48, zl_50, zl_57, zl_63, zl_64, zl_72, zl_97, zl_99, zl_100, zl_101, zl_122, zl_127, zl_200, zl_255, zl_406, zl_534, zl_540, zl_600, zl_9999, zl_33, zl_34, zl_35, zl_37, zl_38, zl_39, zl_40, zl_41, zl_42, zl_43, zl_44, zl_45, zl_47, zl_49, zl_52, zl_53, zl_54, zl_55, zl_58, zl_59, zl_60, zl_61, zl_62, zl_65, zl_70, zl_71, zl_98, zl_102, zl_103, zl_104, zl_105, zl_110, zl_111, zl_115, zl_120, zl_123, zl_126, zl_128, zl_256, zl_1000, zl_1024, zcon_inl, zcon_inr, Option.toList_some, Option.toList_none, List.cons_append, List.nil_append, List.append_nil, Nat.add_zero, zbind_some, zi_toNat, zi_lt, zi_inj, zi_add, zi_mul, zi_ne_zn, zn_ne_zi, zn_lt_zi, zi_lt_zn, Nat.not_lt_zero, false_or, if_true, if_false, true_or, or_false, Nat.lt_irrefl, zo]
def sWn (T : ZD2) (p : Nat) (v : Int32) (r : Nat) : UInt32 := sWorth (T 2 (12 * (r / 12) + 4)) (sPrice T r + (v - T 2 (12 * p)))
def sSellQ (T : ZD2) (p : Nat) (v : Int32) (i : Nat) : Bool := decide ((sL T).getD i 0 / 12 = p) && (match sRiv T p with | none => true | some j => sBef T ((sL T).getD i 0) (sWn T p v ((sL T).getD i 0)) ((sL T).getD j 0) (sWo T ((sL T).getD j 0)))
def sSell (T : ZD2) (p : Nat) (v : Int32) : Bool := (zfn (sSellQ T p v) (sL T).length 0).isSome
theorem c72 {p : Nat} {v : Int32} (I : zIv T) (hO : zOL D T (sL T)) (hL : (sL T).length ≤ 72) (hp : p < 6) (hg : ∀ r, r < 72 → r / 12 = p → sWn T p v r &&& 0x7fffffff ≤ 0x7f800000) : zev X 72 0 [.ref 165, .ref 20, .int (zi p), .int v, zJ, zJ, zJ, zJ, zJ] [] (zHP (zmt D 20 T) O, k) = some (.inl (some (.int (zb (sSell T p v)))), (zHP (zmt D 20 T) O, k)) := by
  have e1 := zOL_1 hO
  have e73 := @c73 X D T O k p hO hL hp
  have e94 := @tg2 X D T O k 20 p 0 hm20 hp (by omega)
  have hm := hm20
  simp (disch := first | assumption | omega) only [b72_0, e73, b72_5, e94, ↓zn_l, zl_0, zl_1, zl_2, zl_3, zl_4, zl_5, zl_6, zl_7, zl_8, zl_9, zl_10, zl_11, zl_12, zl_13, zl_14, zl_15, zl_16, zl_17, zl_18, zl_19, zl_20, zl_21, zl_22, zl_23, zl_24, zl_25, zl_26, zl_27, zl_28, zl_29, zl_30, zl_31, zl_32, zl_36, zl_46, zl_48, zl_50, zl_57, zl_63, zl_64, zl_72, zl_97, zl_99, zl_100, zl_101, zl_122, zl_127, zl_200, zl_255, zl_406, zl_534, zl_540, zl_600, zl_9999, zl_33, zl_34, zl_35, zl_37, zl_38, zl_39, zl_40, zl_41, zl_42, zl_43, zl_44, zl_45, zl_47, zl_49, zl_52, zl_53, zl_54, zl_55, zl_58, zl_59, zl_60, zl_61, zl_62, zl_65, zl_70, zl_71, zl_98, zl_102, zl_103, zl_104, zl_105, zl_110, zl_111, zl_115, zl_120, zl_123, zl_126, zl_128, zl_256, zl_1000, zl_1024, zcon_inl, zcon_inr, Option.toList_some, Option.toList_none, List.cons_append, List.nil_append, List.append_nil, Nat.add_zero, zbind_some]
  refine b72_17.trans ?_
  refine zfindG (β := Value × Value) (P := fun i w => zev X 72 23 [.ref 165, .ref 20, .int (zi p), .int v, .int (zo (sRiv T p)), .int (v - T 2 (12 * p)), .int (zi i), w.1, w.2] [] (zHP (zmt D 20 T) O, k)) (Q := fun o => some (.inl (some (.int (zb o.isSome))), (zHP (zmt D 20 T) O, k))) (n := (sL T).length) (p := sSellQ T p v) (ok := fun w => w.1.category = 1 ∧ w.2.category = 1) ?_ ?_ (sL T).length 0 (zJ, zJ) (by omega) ⟨rfl, rfl⟩
  · intro i w hi hw
    have hi72 : i < 72 := by omega
    have e2 := zOL_2 hO hi
    have hr := zOL_4 hO hi
    have e44 := @c44 X D T O k 20 _ hm20 hr (zIv_at I _ hr)
    have start : zev X 72 23 [.ref 165, .ref 20, .int (zi p), .int v, .int (zo (sRiv T p)), .int (v - T 2 (12 * p)), .int (zi i), w.1, w.2] [] (zHP (zmt D 20 T) O, k) = zev X 72 38 [.ref 165, .ref 20, .int (zi p), .int v, .int (zo (sRiv T p)), .int (v - T 2 (12 * p)), .int (zi i), w.1, w.2] [.int (zi ((sL T).getD i 0))] (zHP (zmt D 20 T) O, k) := by
      refine b72_23.trans ?_
      simp (disch := first | assumption | omega) only [e1, hi, c68, e2, ↓zn_l, zl_0, zl_1, zl_2, zl_3, zl_4, zl_5, zl_6, zl_7, zl_8, zl_9, zl_10, zl_11, zl_12, zl_13, zl_14, zl_15, zl_16, zl_17, zl_18, zl_19, zl_20, zl_21, zl_22, zl_23, zl_24, zl_25, zl_26, zl_27, zl_28, zl_29, zl_30, zl_31, zl_32, zl_36, zl_46, zl_48, zl_50, zl_57, zl_63, zl_64, zl_72, zl_97, zl_99, zl_100, zl_101, zl_122, zl_127, zl_200, zl_255, zl_406, zl_534, zl_540, zl_600, zl_9999, zl_33, zl_34, zl_35, zl_37, zl_38, zl_39, zl_40, zl_41, zl_42, zl_43, zl_44, zl_45, zl_47, zl_49, zl_52, zl_53, zl_54, zl_55, zl_58, zl_59, zl_60, zl_61, zl_62, zl_65, zl_70, zl_71, zl_98, zl_102, zl_103, zl_104, zl_105, zl_110, zl_111, zl_115, zl_120, zl_123, zl_126, zl_128, zl_256, zl_1000, zl_1024, zcon_inl, zcon_inr, Option.toList_some, Option.toList_none, List.cons_append, List.nil_append, List.append_nil, Nat.add_zero, zbind_some, zi_toNat, zi_lt, zi_inj, zi_add, zi_mul, zi_ne_zn, zn_ne_zi, zn_lt_zi, zi_lt_zn, Nat.not_lt_zero, false_or, if_true, if_false, true_or, or_false]
    unfold sSellQ
    by_cases q : (sL T).getD i 0 / 12 = p
    · have e46 := @c46 X D T O k 20 _ (sPrice T ((sL T).getD i 0) + (v - T 2 (12 * p))) hm20 hr (hg _ hr q)
      change _ = some (Sum.inl (some (Value.float (sWn T p v ((sL T).getD i 0)))), _) at e46
      have mid : zev X 72 23 [.ref 165, .ref 20, .int (zi p), .int v, .int (zo (sRiv T p)), .int (v - T 2 (12 * p)), .int (zi i), w.1, w.2] [] (zHP (zmt D 20 T) O, k) = zev X 72 64 [.ref 165, .ref 20, .int (zi p), .int v, .int (zo (sRiv T p)), .int (v - T 2 (12 * p)), .int (zi i), .int (zi ((sL T).getD i 0)), w.2] [.float (sWn T p v ((sL T).getD i 0))] (zHP (zmt D 20 T) O, k) := by
        rw [start]
        refine (b72_38 hm20).trans ?_
        simp (disch := first | assumption | omega) only [zi_div, q, if_true, e44, b72_58, e46, ↓zn_l, zl_0, zl_1, zl_2, zl_3, zl_4, zl_5, zl_6, zl_7, zl_8, zl_9, zl_10, zl_11, zl_12, zl_13, zl_14, zl_15, zl_16, zl_17, zl_18, zl_19, zl_20, zl_21, zl_22, zl_23, zl_24, zl_25, zl_26, zl_27, zl_28, zl_29, zl_30, zl_31, zl_32, zl_36, zl_46, zl_48, zl_50, zl_57, zl_63, zl_64, zl_72, zl_97, zl_99, zl_100, zl_101, zl_122, zl_127, zl_200, zl_255, zl_406, zl_534, zl_540, zl_600, zl_9999, zl_33, zl_34, zl_35, zl_37, zl_38, zl_39, zl_40, zl_41, zl_42, zl_43, zl_44, zl_45, zl_47, zl_49, zl_52, zl_53, zl_54, zl_55, zl_58, zl_59, zl_60, zl_61, zl_62, zl_65, zl_70, zl_71, zl_98, zl_102, zl_103, zl_104, zl_105, zl_110, zl_111, zl_115, zl_120, zl_123, zl_126, zl_128, zl_256, zl_1000, zl_1024, zcon_inl, zcon_inr, Option.toList_some, Option.toList_none, List.cons_append, List.nil_append, List.append_nil, Nat.add_zero, zbind_some]
      cases hR : sRiv T p with
      | none =>
        left
        refine ⟨by simp only [q, decide_true, Bool.and_self], ?_⟩
        rw [hR] at mid
        refine mid.trans ?_
        refine b72_64.trans ?_
        simp (disch := first | assumption | omega) only [zo, ↓zn_l, zl_0, zl_1, zl_2, zl_3, zl_4, zl_5, zl_6, zl_7, zl_8, zl_9, zl_10, zl_11, zl_12, zl_13, zl_14, zl_15, zl_16, zl_17, zl_18, zl_19, zl_20, zl_21, zl_22, zl_23, zl_24, zl_25, zl_26, zl_27, zl_28, zl_29, zl_30, zl_31, zl_32, zl_36, zl_46, zl_48, zl_50, zl_57, zl_63, zl_64, zl_72, zl_97, zl_99, zl_100, zl_101, zl_122, zl_127, zl_200, zl_255, zl_406, zl_534, zl_540, zl_600, zl_9999, zl_33, zl_34, zl_35, zl_37, zl_38, zl_39, zl_40, zl_41, zl_42, zl_43, zl_44, zl_45, zl_47, zl_49, zl_52, zl_53, zl_54, zl_55, zl_58, zl_59, zl_60, zl_61, zl_62, zl_65, zl_70, zl_71, zl_98, zl_102, zl_103, zl_104, zl_105, zl_110, zl_111, zl_115, zl_120, zl_123, zl_126, zl_128, zl_256, zl_1000, zl_1024, zcon_inl, zcon_inr, Option.toList_some, Option.toList_none, List.cons_append, List.nil_append, List.append_nil, Nat.add_zero, zbind_some, if_true]
        rfl
      | some j =>
        have hj : j < (sL T).length := by have := (zfn_some hR).2.1; omega
        have hj72 : j < 72 := by omega
        have f2 := (hO.2.1 j _ (zget_D hj)).1
        have fr := zOL_4 hO hj
        have e67 := @c67 X D T O k 20 _ _ j (sWn T p v ((sL T).getD i 0)) hm20 (by omega) hr hj72 fr f2
        rw [zOL_3 hO hj] at e67
        rw [hR] at mid
        have m2 : zev X 72 23 [.ref 165, .ref 20, .int (zi p), .int v, .int (zo (some j)), .int (v - T 2 (12 * p)), .int (zi i), w.1, w.2] [] (zHP (zmt D 20 T) O, k) = if sBef T ((sL T).getD i 0) (sWn T p v ((sL T).getD i 0)) ((sL T).getD j 0) (sWo T ((sL T).getD j 0)) = false then zev X 72 23 [.ref 165, .ref 20, .int (zi p), .int v, .int (zo (some j)), .int (v - T 2 (12 * p)), .int (zi (i + 1)), .int (zi ((sL T).getD i 0)), .float (sWn T p v ((sL T).getD i 0))] [] (zHP (zmt D 20 T) O, k) else some (.inl (some (.int (zi 1))), (zHP (zmt D 20 T) O, k)) := by
          refine mid.trans ?_
          refine b72_64.trans ?_
          simp (disch := first | assumption | omega) only [zo, ↓zn_l, zl_0, zl_1, zl_2, zl_3, zl_4, zl_5, zl_6, zl_7, zl_8, zl_9, zl_10, zl_11, zl_12, zl_13, zl_14, zl_15, zl_16, zl_17, zl_18, zl_19, zl_20, zl_21, zl_22, zl_23, zl_24, zl_25, zl_26, zl_27, zl_28, zl_29, zl_30, zl_31, zl_32, zl_36, zl_46, zl_48, zl_50, zl_57, zl_63, zl_64, zl_72, zl_97, zl_99, zl_100, zl_101, zl_122, zl_127, zl_200, zl_255, zl_406, zl_534, zl_540, zl_600, zl_9999, zl_33, zl_34, zl_35, zl_37, zl_38, zl_39, zl_40, zl_41, zl_42, zl_43, zl_44, zl_45, zl_47, zl_49, zl_52, zl_53, zl_54, zl_55, zl_58, zl_59, zl_60, zl_61, zl_62, zl_65, zl_70, zl_71, zl_98, zl_102, zl_103, zl_104, zl_105, zl_110, zl_111, zl_115, zl_120, zl_123, zl_126, zl_128, zl_256, zl_1000, zl_1024, zcon_inl, zcon_inr, Option.toList_some, Option.toList_none, List.cons_append, List.nil_append, List.append_nil, Nat.add_zero, zbind_some, zi_toNat, zi_lt, zi_inj, zi_add, zi_mul, zi_ne_zn, zn_ne_zi, zn_lt_zi, zi_lt_zn, Nat.not_lt_zero, false_or, if_true, if_false, true_or, or_false, e67, b72_83, zb_0]
        cases hB : sBef T ((sL T).getD i 0) (sWn T p v ((sL T).getD i 0)) ((sL T).getD j 0) (sWo T ((sL T).getD j 0))
        · right
          refine ⟨by simp only [q, decide_true, Bool.true_and, hB], (.int (zi ((sL T).getD i 0)), .float (sWn T p v ((sL T).getD i 0))), ⟨rfl, rfl⟩, ?_⟩
          exact m2.trans (if_pos hB)
        · left
          refine ⟨by simp only [q, decide_true, Bool.true_and, hB], ?_⟩
          exact m2.trans (if_neg (by rw [hB]; simp))
    · right
      refine ⟨by simp only [q, decide_false, Bool.false_and], (.int (zi ((sL T).getD i 0)), w.2), ⟨rfl, hw.2⟩, ?_⟩
      refine start.trans ?_
      refine (b72_38 hm20).trans ?_
      simp (disch := first | assumption | omega) only [zi_div, zi_inj, q, if_false, ↓zn_l, zl_0, zl_1, zl_2, zl_3, zl_4, zl_5, zl_6, zl_7, zl_8, zl_9, zl_10, zl_11, zl_12, zl_13, zl_14, zl_15, zl_16, zl_17, zl_18, zl_19, zl_20, zl_21, zl_22, zl_23, zl_24, zl_25, zl_26, zl_27, zl_28, zl_29, zl_30, zl_31, zl_32, zl_36, zl_46, zl_48, zl_50, zl_57, zl_63, zl_64, zl_72, zl_97, zl_99, zl_100, zl_101, zl_122, zl_127, zl_200, zl_255, zl_406, zl_534, zl_540, zl_600, zl_9999, zl_33, zl_34, zl_35, zl_37, zl_38, zl_39, zl_40, zl_41, zl_42, zl_43, zl_44, zl_45, zl_47, zl_49, zl_52, zl_53, zl_54, zl_55, zl_58, zl_59, zl_60, zl_61, zl_62, zl_65, zl_70, zl_71, zl_98, zl_102, zl_103, zl_104, zl_105, zl_110, zl_111, zl_115, zl_120, zl_123, zl_126, zl_128, zl_256, zl_1000, zl_1024, zcon_inl, zcon_inr, Option.toList_some, Option.toList_none, List.cons_append, List.nil_append, List.append_nil, Nat.add_zero, zbind_some, zi_add]
  · intro w _
    refine b72_23.trans ?_
    simp (disch := first | assumption | omega) only [e1, ↓zn_l, zl_0, zl_1, zl_2, zl_3, zl_4, zl_5, zl_6, zl_7, zl_8, zl_9, zl_10, zl_11, zl_12, zl_13, zl_14, zl_15, zl_16, zl_17, zl_18, zl_19, zl_20, zl_21, zl_22, zl_23, zl_24, zl_25, zl_26, zl_27, zl_28, zl_29, zl_30, zl_31, zl_32, zl_36, zl_46, zl_48, zl_50, zl_57, zl_63, zl_64, zl_72, zl_97, zl_99, zl_100, zl_101, zl_122, zl_127, zl_200, zl_255, zl_406, zl_534, zl_540, zl_600, zl_9999, zl_33, zl_34, zl_35, zl_37, zl_38, zl_39, zl_40, zl_41, zl_42, zl_43, zl_44, zl_45, zl_47, zl_49, zl_52, zl_53, zl_54, zl_55, zl_58, zl_59, zl_60, zl_61, zl_62, zl_65, zl_70, zl_71, zl_98, zl_102, zl_103, zl_104, zl_105, zl_110, zl_111, zl_115, zl_120, zl_123, zl_126, zl_128, zl_256, zl_1000, zl_1024, zcon_inl, zcon_inr, Option.toList_some, Option.toList_none, List.cons_append, List.nil_append, List.append_nil, Nat.add_zero, zbind_some, zi_toNat, zi_lt, zi_inj, zi_add, zi_mul, zi_ne_zn, zn_ne_zi, zn_lt_zi, zi_lt_zn, Nat.not_lt_zero, false_or, if_true, if_false, true_or, or_false, Nat.lt_irrefl]
    rfl
theorem c145 {p : Nat} (I : zIv T) (hw : zWok T) (h : D 20 6 = zi 1) (hp : p < sNp T) (hg : ∀ v r, 1 ≤ v → v ≤ 99 → r < 72 → r / 12 = p → sWn T p (zi v) r &&& 0x7fffffff ≤ 0x7f800000) : ∃ D', zFrO D D' ∧ zev X 145 0 [.ref 0, .int (zi p), zJ] [] (zHP (zmt D 20 T) O, k) = some (.inl (some (.int (zo (zfn (fun v => !sSell T p (zi v)) 99 1)))), (zHP (zmt D' 20 T) O, k)) := by
  obtain ⟨D', e, hO, hF, hL⟩ := c65i (X := X) (D := D) (O := O) (k := k) I hw
  refine ⟨D', hF, ?_⟩
  have n2 := zIv_np6 I
  have hp6 : p < 6 := by omega
  have e119 := @c119 X D T O k p (sNp T) h (zIv_np I) n2 hp
  have loop : ∀ d i, 1 ≤ i → i + d = 100 → zev X 145 18 [.ref 0, .int (zi p), .int (zi i)] [] (zHP (zmt D' 20 T) O, k) = some (.inl (some (.int (zo (zfn (fun v => !sSell T p (zi v)) d i)))), (zHP (zmt D' 20 T) O, k)) := by
    intro d
    induction d with
    | zero =>
      intro i h0 hi
      have hi' : i = 100 := by omega
      subst hi'
      refine b145_18.trans ?_
      simp (disch := first | assumption | omega) only [↓zn_l, zl_0, zl_1, zl_2, zl_3, zl_4, zl_5, zl_6, zl_7, zl_8, zl_9, zl_10, zl_11, zl_12, zl_13, zl_14, zl_15, zl_16, zl_17, zl_18, zl_19, zl_20, zl_21, zl_22, zl_23, zl_24, zl_25, zl_26, zl_27, zl_28, zl_29, zl_30, zl_31, zl_32, zl_36, zl_46, zl_48, zl_50, zl_57, zl_63, zl_64, zl_72, zl_97, zl_99, zl_100, zl_101, zl_122, zl_127, zl_200, zl_255, zl_406, zl_534, zl_540, zl_600, zl_9999, zl_33, zl_34, zl_35, zl_37, zl_38, zl_39, zl_40, zl_41, zl_42, zl_43, zl_44, zl_45, zl_47, zl_49, zl_52, zl_53, zl_54, zl_55, zl_58, zl_59, zl_60, zl_61, zl_62, zl_65, zl_70, zl_71, zl_98, zl_102, zl_103, zl_104, zl_105, zl_110, zl_111, zl_115, zl_120, zl_123, zl_126, zl_128, zl_256, zl_1000, zl_1024, zcon_inl, zcon_inr, Option.toList_some, Option.toList_none, List.cons_append, List.nil_append, List.append_nil, Nat.add_zero, zbind_some, zi_toNat, zi_lt, zi_inj, zi_add, zi_mul, zi_ne_zn, zn_ne_zi, zn_lt_zi, zi_lt_zn, Nat.not_lt_zero, false_or, if_true, if_false, true_or, or_false, show 99 < 100 by omega, zo, zfn]
    | succ d ih =>
      intro i h0 hi
      have hi2 : ¬ 99 < i := by omega
      have e72 := @c72 X D' T O k p (zi i) I hO hL hp6 (fun r hr hq => hg i r h0 (by omega) hr hq)
      have m : zev X 145 18 [.ref 0, .int (zi p), .int (zi i)] [] (zHP (zmt D' 20 T) O, k) = if sSell T p (zi i) = false then some (.inl (some (.int (zi i))), (zHP (zmt D' 20 T) O, k)) else zev X 145 18 [.ref 0, .int (zi p), .int (zi (i + 1))] [] (zHP (zmt D' 20 T) O, k) := by
        refine b145_18.trans ?_
        simp (disch := first | assumption | omega) only [hi2, e72, b145_37, zb_0, ↓zn_l, zl_0, zl_1, zl_2, zl_3, zl_4, zl_5, zl_6, zl_7, zl_8, zl_9, zl_10, zl_11, zl_12, zl_13, zl_14, zl_15, zl_16, zl_17, zl_18, zl_19, zl_20, zl_21, zl_22, zl_23, zl_24, zl_25, zl_26, zl_27, zl_28, zl_29, zl_30, zl_31, zl_32, zl_36, zl_46, zl_48, zl_50, zl_57, zl_63, zl_64, zl_72, zl_97, zl_99, zl_100, zl_101, zl_122, zl_127, zl_200, zl_255, zl_406, zl_534, zl_540, zl_600, zl_9999, zl_33, zl_34, zl_35, zl_37, zl_38, zl_39, zl_40, zl_41, zl_42, zl_43, zl_44, zl_45, zl_47, zl_49, zl_52, zl_53, zl_54, zl_55, zl_58, zl_59, zl_60, zl_61, zl_62, zl_65, zl_70, zl_71, zl_98, zl_102, zl_103, zl_104, zl_105, zl_110, zl_111, zl_115, zl_120, zl_123, zl_126, zl_128, zl_256, zl_1000, zl_1024, zcon_inl, zcon_inr, Option.toList_some, Option.toList_none, List.cons_append, List.nil_append, List.append_nil, Nat.add_zero, zbind_some, zi_toNat, zi_lt, zi_inj, zi_add, zi_mul, zi_ne_zn, zn_ne_zi, zn_lt_zi, zi_lt_zn, Nat.not_lt_zero, false_or, if_true, if_false, true_or, or_false]
      refine m.trans ?_
      rw [zfn]
      cases hs : sSell T p (zi i)
      · rw [if_pos rfl, if_pos (by rfl)]
        rfl
      · rw [if_neg (by simp), if_neg (by simp)]
        exact ih (i + 1) (by omega) (by omega)
  simp (disch := first | assumption | omega) only [b145_0, e119, b145_5, e, b145_16, ↓zn_l, zl_0, zl_1, zl_2, zl_3, zl_4, zl_5, zl_6, zl_7, zl_8, zl_9, zl_10, zl_11, zl_12, zl_13, zl_14, zl_15, zl_16, zl_17, zl_18, zl_19, zl_20, zl_21, zl_22, zl_23, zl_24, zl_25, zl_26, zl_27, zl_28, zl_29, zl_30, zl_31, zl_32, zl_36, zl_46, zl_48, zl_50, zl_57, zl_63, zl_64, zl_72, zl_97, zl_99, zl_100, zl_101, zl_122, zl_127, zl_200, zl_255, zl_406, zl_534, zl_540, zl_600, zl_9999, zl_33, zl_34, zl_35, zl_37, zl_38, zl_39, zl_40, zl_41, zl_42, zl_43, zl_44, zl_45, zl_47, zl_49, zl_52, zl_53, zl_54, zl_55, zl_58, zl_59, zl_60, zl_61, zl_62, zl_65, zl_70, zl_71, zl_98, zl_102, zl_103, zl_104, zl_105, zl_110, zl_111, zl_115, zl_120, zl_123, zl_126, zl_128, zl_256, zl_1000, zl_1024, zcon_inl, zcon_inr, Option.toList_some, Option.toList_none, List.cons_append, List.nil_append, List.append_nil, Nat.add_zero, zbind_some]
  exact loop 99 1 (by omega) (by omega)
theorem c146 {p : Nat} (I : zIv T) (h : D 20 6 = zi 1) (hp : p < sNp T) : zev X 146 0 [.ref 0, .int (zi p)] [] (zHP (zmt D 20 T) O, k) = some (.inl (some (.int (zi (sTell1 T p).length))), (zHP (zmt (uTxs (zw D 18 1 (zi 0)) (sTell1 T p)) 20 T) O, k)) := by
  have n2 := zIv_np6 I
  have hp6 : p < 6 := by omega
  obtain ⟨g1, g2⟩ := zIv_pg I hp6
  have e119 := @c119 X D T O k p (sNp T) h (zIv_np I) n2 hp
  have e98 := @c98 X D T O k 20 p hm20 (by omega) hp6 g1 g2 (zIv_at I)
  have e : zmt (uTxs (zw D 18 1 (zi 0)) (sTell1 T p)) 20 T 18 1 = zi (sTell1 T p).length := by
    rw [zmt_o (by omega), uTxs_len (zw_self _ _ _ _), Nat.zero_add]
  simp (disch := first | assumption | omega) only [b146_0, e119, b146_5, e98, b146_17, c1t, b146_24, e, ↓zn_l, zl_0, zl_1, zl_2, zl_3, zl_4, zl_5, zl_6, zl_7, zl_8, zl_9, zl_10, zl_11, zl_12, zl_13, zl_14, zl_15, zl_16, zl_17, zl_18, zl_19, zl_20, zl_21, zl_22, zl_23, zl_24, zl_25, zl_26, zl_27, zl_28, zl_29, zl_30, zl_31, zl_32, zl_36, zl_46, zl_48, zl_50, zl_57, zl_63, zl_64, zl_72, zl_97, zl_99, zl_100, zl_101, zl_122, zl_127, zl_200, zl_255, zl_406, zl_534, zl_540, zl_600, zl_9999, zl_33, zl_34, zl_35, zl_37, zl_38, zl_39, zl_40, zl_41, zl_42, zl_43, zl_44, zl_45, zl_47, zl_49, zl_52, zl_53, zl_54, zl_55, zl_58, zl_59, zl_60, zl_61, zl_62, zl_65, zl_70, zl_71, zl_98, zl_102, zl_103, zl_104, zl_105, zl_110, zl_111, zl_115, zl_120, zl_123, zl_126, zl_128, zl_256, zl_1000, zl_1024, zcon_inl, zcon_inr, Option.toList_some, Option.toList_none, List.cons_append, List.nil_append, List.append_nil, Nat.add_zero, zbind_some]
theorem c147 (I : zIv T) (h : D 20 6 = zi 1) : zev X 147 0 [.ref 0] [] (zHP (zmt D 20 T) O, k) = some (.inl (some (.int (zi (sTell2 T).length))), (zHP (zmt (uTxs (zw D 18 1 (zi 0)) (sTell2 T)) 20 T) O, k)) := by
  have n4 := zIv_nf64 I
  have e102 := @c102 X D T O k 20 hm20 (by omega) (zIv_nf I) n4 (fun f hf => by
    have := I.2.2.2.2.1.1 f (by omega)
    have hc : sCnt T f ≤ 72 := by have := zct_le (fun r => decide (T 3 (5 * r) = zi f)) 72 0 0; unfold sCnt; omega
    have e : sIns T f = sCnt T f := by unfold sIns; rw [this, zi_toNat (by omega)]
    rw [e]
    exact ⟨this, hc⟩)
  have e : zmt (uTxs (zw D 18 1 (zi 0)) (sTell2 T)) 20 T 18 1 = zi (sTell2 T).length := by
    rw [zmt_o (by omega), uTxs_len (zw_self _ _ _ _), Nat.zero_add]
  simp (disch := first | assumption | omega) only [b147_0, c114, b147_4, e102, b147_15, c1t, b147_22, e, ↓zn_l, zl_0, zl_1, zl_2, zl_3, zl_4, zl_5, zl_6, zl_7, zl_8, zl_9, zl_10, zl_11, zl_12, zl_13, zl_14, zl_15, zl_16, zl_17, zl_18, zl_19, zl_20, zl_21, zl_22, zl_23, zl_24, zl_25, zl_26, zl_27, zl_28, zl_29, zl_30, zl_31, zl_32, zl_36, zl_46, zl_48, zl_50, zl_57, zl_63, zl_64, zl_72, zl_97, zl_99, zl_100, zl_101, zl_122, zl_127, zl_200, zl_255, zl_406, zl_534, zl_540, zl_600, zl_9999, zl_33, zl_34, zl_35, zl_37, zl_38, zl_39, zl_40, zl_41, zl_42, zl_43, zl_44, zl_45, zl_47, zl_49, zl_52, zl_53, zl_54, zl_55, zl_58, zl_59, zl_60, zl_61, zl_62, zl_65, zl_70, zl_71, zl_98, zl_102, zl_103, zl_104, zl_105, zl_110, zl_111, zl_115, zl_120, zl_123, zl_126, zl_128, zl_256, zl_1000, zl_1024, zcon_inl, zcon_inr, Option.toList_some, Option.toList_none, List.cons_append, List.nil_append, List.append_nil, Nat.add_zero, zbind_some]
theorem zIv_pr (I : zIv T) : ∀ r, r < 72 → sPrice T r = zi (sPr T r) ∧ sPr T r < 1000 := fun r hr => by
  obtain ⟨pr, tr, h1, h2, -⟩ := I.2.2.1.1 (r / 12) (by omega)
  have : ∃ q, q < 1000 ∧ sPrice T r = zi q := by
    unfold sPrice
    split
    · exact ⟨pr + 2, by omega, by rw [h1, zi_add]⟩
    · exact ⟨pr, by omega, h1⟩
  obtain ⟨q, hq, e⟩ := this
  have e2 : sPr T r = q := by unfold sPr; rw [e, zi_toNat (by omega)]
  rw [e2]
  exact ⟨e, hq⟩
theorem c148 (I : zIv T) (hw : zWok T) (h : D 20 6 = zi 1) : ∃ D', zFrO D D' ∧ zev X 148 0 [.ref 0] [] (zHP (zmt D 20 T) O, k) = some (.inl (some (.int (zi (sTell3 T 0 (sL T)).length))), (zHP (zmt (uTxs (zw D' 18 1 (zi 0)) (sTell3 T 0 (sL T))) 20 T) O, k)) := by
  obtain ⟨D', e, hO, hF, hL⟩ := c65i (X := X) (D := D) (O := O) (k := k) I hw
  refine ⟨D', hF, ?_⟩
  have e104 := @c104 X D' T O k 20 (sL T) hm20 (by omega) (by omega) hO hL (zIv_at I) (zIv_pr I)
  have e5 : zmt (uTxs (zw D' 18 1 (zi 0)) (sTell3 T 0 (sL T))) 20 T 18 1 = zi (sTell3 T 0 (sL T)).length := by
    rw [zmt_o (by omega), uTxs_len (zw_self _ _ _ _), Nat.zero_add]
  simp (disch := first | assumption | omega) only [b148_0, c114, b148_4, e, b148_15, e104, b148_30, c1t, b148_37, e5, ↓zn_l, zl_0, zl_1, zl_2, zl_3, zl_4, zl_5, zl_6, zl_7, zl_8, zl_9, zl_10, zl_11, zl_12, zl_13, zl_14, zl_15, zl_16, zl_17, zl_18, zl_19, zl_20, zl_21, zl_22, zl_23, zl_24, zl_25, zl_26, zl_27, zl_28, zl_29, zl_30, zl_31, zl_32, zl_36, zl_46, zl_48, zl_50, zl_57, zl_63, zl_64, zl_72, zl_97, zl_99, zl_100, zl_101, zl_122, zl_127, zl_200, zl_255, zl_406, zl_534, zl_540, zl_600, zl_9999, zl_33, zl_34, zl_35, zl_37, zl_38, zl_39, zl_40, zl_41, zl_42, zl_43, zl_44, zl_45, zl_47, zl_49, zl_52, zl_53, zl_54, zl_55, zl_58, zl_59, zl_60, zl_61, zl_62, zl_65, zl_70, zl_71, zl_98, zl_102, zl_103, zl_104, zl_105, zl_110, zl_111, zl_115, zl_120, zl_123, zl_126, zl_128, zl_256, zl_1000, zl_1024, zcon_inl, zcon_inr, Option.toList_some, Option.toList_none, List.cons_append, List.nil_append, List.append_nil, Nat.add_zero, zbind_some]
end
