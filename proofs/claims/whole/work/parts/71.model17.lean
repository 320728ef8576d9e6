/-! The model: what would be. -/
section
variable {X : ZX} {D T : ZD2} {s : Nat → Int32} {O : ZO2} {k : Nat × Nat × Nat}
theorem zFrS_aside {f : Nat → Int32} : zFrS D (zrow (zth D 0) 173 f) := ⟨fun a a1 a2 _ => by rw [zrow_ne a2, zth_a a1], fun j j1 _ _ => by rw [zrow_ne (by omega), zth_f j1]⟩
theorem m246 {p g : Nat} {w : Bool} (I : zIv T) (S : zRs D T) (R : zRd s T) (h : D 168 1 = zi 1) (hp : p < sNp T) (hg : g < sPgs T p) (he : sEnd T p = false) : ∃ D' s', zFrS D D' ∧ D' 168 0 = zi 0 ∧ (∀ j, j < 540 → s' j = s j) ∧ zev X 246 0 [.ref 168, .int (zi p), .int (zi g), .int (zb w), zJ] [] (zHP (zrow D 172 s) O, k) = some (.inl (some (.int (rTouch T p g w).1)), (zHP (zrow D' 172 s') O, k)) := by
  have e247 := m247 (X := X) (O := O) (k := k) I S R h hp hg he
  have e248 := m248 (X := X) (D := zth D 0) (s := s) (O := O) (k := k)
  have F := zFrS_aside (D := D) (f := fun j => if j < 540 then s j else zth D 0 173 j)
  obtain ⟨s1, e249, -⟩ := m249 (X := X) (O := O) (k := k) (w := w) I (zRs_frS F S) R hp hg
  refine ⟨_, fun j => if j < 540 then (zrow (zth D 0) 173 fun j => if j < 540 then s j else zth D 0 173 j) 173 j else s1 j, F, ?_, ?_, ?_⟩
  · rw [zrow_ne (by omega)]; exact zth_0 _ _
  · intro j hj
    simp only [hj, if_true, zrow_self]
  · have e262 := m262 (X := X) (D := zrow (zth D 0) 173 fun j => if j < 540 then s j else zth D 0 173 j) (s := s1) (O := O) (k := k)
    simp (disch := first | assumption | omega) only [b246_0, e247, b246_6, ↓zn_l, zl_0, zl_1, zl_2, zl_3, zl_4, zl_5, zl_6, zl_7, zl_8, zl_9, zl_10, zl_11, zl_12, zl_13, zl_14, zl_15, zl_16, zl_17, zl_18, zl_19, zl_20, zl_21, zl_22, zl_23, zl_24, zl_25, zl_26, zl_27, zl_28, zl_29, zl_30, zl_31, zl_32, zl_36, zl_46, zl_48, zl_50, zl_57, zl_63, zl_64, zl_72, zl_97, zl_99, zl_100, zl_101, zl_122, zl_127, zl_200, zl_255, zl_406, zl_534, zl_540, zl_600, zl_9999, zl_33, zl_34, zl_35, zl_37, zl_38, zl_39, zl_40, zl_41, zl_42, zl_43, zl_44, zl_45, zl_47, zl_49, zl_52, zl_53, zl_54, zl_55, zl_58, zl_59, zl_60, zl_61, zl_62, zl_65, zl_70, zl_71, zl_98, zl_102, zl_103, zl_104, zl_105, zl_110, zl_111, zl_115, zl_120, zl_123, zl_126, zl_128, zl_256, zl_1000, zl_1024, zcon_inl, zcon_inr, Option.toList_some, Option.toList_none, List.cons_append, List.nil_append, List.append_nil, Nat.add_zero, zbind_some, zi_toNat, zi_lt, zi_inj, zi_add, zi_mul, zi_ne_zn, zn_ne_zi, zn_lt_zi, zi_lt_zn, Nat.not_lt_zero, false_or, if_true, if_false, true_or, or_false, Nat.reduceEqDiff, eq_self, e248]
    refine b246_15.trans ?_
    rw [e249, zcon_inl]
    refine b246_22.trans ?_
    rw [e262, zcon_inl]
    exact b246_28
theorem m246n1 {a b c : Int32} (h : D 168 1 = zi 0) : zev X 246 0 [.ref 168, .int a, .int b, .int c, zJ] [] (zHP (zrow D 172 s) O, k) = some (.inl (some (.int (zi 0))), (zHP (zrow (zth D 1) 172 s) O, k)) := by
  have e := m247n1 (X := X) (s := s) (O := O) (k := k) (a := a) (b := b) h
  simp (disch := first | assumption | omega) only [b246_0, b246_6, ↓zn_l, zl_0, zl_1, zl_2, zl_3, zl_4, zl_5, zl_6, zl_7, zl_8, zl_9, zl_10, zl_11, zl_12, zl_13, zl_14, zl_15, zl_16, zl_17, zl_18, zl_19, zl_20, zl_21, zl_22, zl_23, zl_24, zl_25, zl_26, zl_27, zl_28, zl_29, zl_30, zl_31, zl_32, zl_36, zl_46, zl_48, zl_50, zl_57, zl_63, zl_64, zl_72, zl_97, zl_99, zl_100, zl_101, zl_122, zl_127, zl_200, zl_255, zl_406, zl_534, zl_540, zl_600, zl_9999, zl_33, zl_34, zl_35, zl_37, zl_38, zl_39, zl_40, zl_41, zl_42, zl_43, zl_44, zl_45, zl_47, zl_49, zl_52, zl_53, zl_54, zl_55, zl_58, zl_59, zl_60, zl_61, zl_62, zl_65, zl_70, zl_71, zl_98, zl_102, zl_103, zl_104, zl_105, zl_110, zl_111, zl_115, zl_120, zl_123, zl_126, zl_128, zl_256, zl_1000, zl_1024, zcon_inl, zcon_inr, Option.toList_some, Option.toList_none, List.cons_append, List.nil_append, List.append_nil, Nat.add_zero, zbind_some, zi_toNat, zi_lt, zi_inj, zi_add, zi_mul, zi_ne_zn, zn_ne_zi, zn_lt_zi, zi_lt_zn, Nat.not_lt_zero, false_or, if_true, if_false, true_or, or_false, Nat.reduceEqDiff, eq_self, e]
theorem m246n2 {a b c : Int32} (I : zIv T) (S : zRs D T) (h : D 168 1 = zi 1) (ha : a < zi 0 ∨ ¬ a < zi (sNp T)) : zev X 246 0 [.ref 168, .int a, .int b, .int c, zJ] [] (zHP (zrow D 172 s) O, k) = some (.inl (some (.int (zi 0))), (zHP (zrow (zth D 2) 172 s) O, k)) := by
  have e := m247n2 (X := X) (s := s) (O := O) (k := k) (b := b) I S h ha
  simp (disch := first | assumption | omega) only [b246_0, b246_6, ↓zn_l, zl_0, zl_1, zl_2, zl_3, zl_4, zl_5, zl_6, zl_7, zl_8, zl_9, zl_10, zl_11, zl_12, zl_13, zl_14, zl_15, zl_16, zl_17, zl_18, zl_19, zl_20, zl_21, zl_22, zl_23, zl_24, zl_25, zl_26, zl_27, zl_28, zl_29, zl_30, zl_31, zl_32, zl_36, zl_46, zl_48, zl_50, zl_57, zl_63, zl_64, zl_72, zl_97, zl_99, zl_100, zl_101, zl_122, zl_127, zl_200, zl_255, zl_406, zl_534, zl_540, zl_600, zl_9999, zl_33, zl_34, zl_35, zl_37, zl_38, zl_39, zl_40, zl_41, zl_42, zl_43, zl_44, zl_45, zl_47, zl_49, zl_52, zl_53, zl_54, zl_55, zl_58, zl_59, zl_60, zl_61, zl_62, zl_65, zl_70, zl_71, zl_98, zl_102, zl_103, zl_104, zl_105, zl_110, zl_111, zl_115, zl_120, zl_123, zl_126, zl_128, zl_256, zl_1000, zl_1024, zcon_inl, zcon_inr, Option.toList_some, Option.toList_none, List.cons_append, List.nil_append, List.append_nil, Nat.add_zero, zbind_some, zi_toNat, zi_lt, zi_inj, zi_add, zi_mul, zi_ne_zn, zn_ne_zi, zn_lt_zi, zi_lt_zn, Nat.not_lt_zero, false_or, if_true, if_false, true_or, or_false, Nat.reduceEqDiff, eq_self, e]
theorem m246n3 {p : Nat} {b c : Int32} (I : zIv T) (S : zRs D T) (h : D 168 1 = zi 1) (hp : p < sNp T) (hb : b < zi 0 ∨ ¬ b < zi (sPgs T p)) : zev X 246 0 [.ref 168, .int (zi p), .int b, .int c, zJ] [] (zHP (zrow D 172 s) O, k) = some (.inl (some (.int (zi 0))), (zHP (zrow (zth D 2) 172 s) O, k)) := by
  have e := m247n3 (X := X) (s := s) (O := O) (k := k) I S h hp hb
  simp (disch := first | assumption | omega) only [b246_0, b246_6, ↓zn_l, zl_0, zl_1, zl_2, zl_3, zl_4, zl_5, zl_6, zl_7, zl_8, zl_9, zl_10, zl_11, zl_12, zl_13, zl_14, zl_15, zl_16, zl_17, zl_18, zl_19, zl_20, zl_21, zl_22, zl_23, zl_24, zl_25, zl_26, zl_27, zl_28, zl_29, zl_30, zl_31, zl_32, zl_36, zl_46, zl_48, zl_50, zl_57, zl_63, zl_64, zl_72, zl_97, zl_99, zl_100, zl_101, zl_122, zl_127, zl_200, zl_255, zl_406, zl_534, zl_540, zl_600, zl_9999, zl_33, zl_34, zl_35, zl_37, zl_38, zl_39, zl_40, zl_41, zl_42, zl_43, zl_44, zl_45, zl_47, zl_49, zl_52, zl_53, zl_54, zl_55, zl_58, zl_59, zl_60, zl_61, zl_62, zl_65, zl_70, zl_71, zl_98, zl_102, zl_103, zl_104, zl_105, zl_110, zl_111, zl_115, zl_120, zl_123, zl_126, zl_128, zl_256, zl_1000, zl_1024, zcon_inl, zcon_inr, Option.toList_some, Option.toList_none, List.cons_append, List.nil_append, List.append_nil, Nat.add_zero, zbind_some, zi_toNat, zi_lt, zi_inj, zi_add, zi_mul, zi_ne_zn, zn_ne_zi, zn_lt_zi, zi_lt_zn, Nat.not_lt_zero, false_or, if_true, if_false, true_or, or_false, Nat.reduceEqDiff, eq_self, e]
theorem m246n4 {p g : Nat} {c : Int32} (I : zIv T) (S : zRs D T) (R : zRd s T) (h : D 168 1 = zi 1) (hp : p < sNp T) (hg : g < sPgs T p) (he : sEnd T p = true) : zev X 246 0 [.ref 168, .int (zi p), .int (zi g), .int c, zJ] [] (zHP (zrow D 172 s) O, k) = some (.inl (some (.int (zi 0))), (zHP (zrow (zth D 3) 172 s) O, k)) := by
  have e := m247n4 (X := X) (s := s) (O := O) (k := k) I S R h hp hg he
  simp (disch := first | assumption | omega) only [b246_0, b246_6, ↓zn_l, zl_0, zl_1, zl_2, zl_3, zl_4, zl_5, zl_6, zl_7, zl_8, zl_9, zl_10, zl_11, zl_12, zl_13, zl_14, zl_15, zl_16, zl_17, zl_18, zl_19, zl_20, zl_21, zl_22, zl_23, zl_24, zl_25, zl_26, zl_27, zl_28, zl_29, zl_30, zl_31, zl_32, zl_36, zl_46, zl_48, zl_50, zl_57, zl_63, zl_64, zl_72, zl_97, zl_99, zl_100, zl_101, zl_122, zl_127, zl_200, zl_255, zl_406, zl_534, zl_540, zl_600, zl_9999, zl_33, zl_34, zl_35, zl_37, zl_38, zl_39, zl_40, zl_41, zl_42, zl_43, zl_44, zl_45, zl_47, zl_49, zl_52, zl_53, zl_54, zl_55, zl_58, zl_59, zl_60, zl_61, zl_62, zl_65, zl_70, zl_71, zl_98, zl_102, zl_103, zl_104, zl_105, zl_110, zl_111, zl_115, zl_120, zl_123, zl_126, zl_128, zl_256, zl_1000, zl_1024, zcon_inl, zcon_inr, Option.toList_some, Option.toList_none, List.cons_append, List.nil_append, List.append_nil, Nat.add_zero, zbind_some, zi_toNat, zi_lt, zi_inj, zi_add, zi_mul, zi_ne_zn, zn_ne_zi, zn_lt_zi, zi_lt_zn, Nat.not_lt_zero, false_or, if_true, if_false, true_or, or_false, Nat.reduceEqDiff, eq_self, e]
theorem sOff_loose {r : Nat} {t : Int32} (h : sOff T r t = true) : sLoose T r = true := by
  unfold sOff at h
  simp only [Bool.and_eq_true] at h
  exact h.2
theorem sLoose_sh {r : Nat} (h : sLoose T r = true) : sSh T r = false := by
  unfold sLoose at h
  simp only [Bool.and_eq_true, Bool.not_eq_true'] at h
  exact h.1.1.2
/-- two in one frame share it -/
theorem sCnt_two {r q f : Nat} (hr : r < 72) (hq : q < 72) (hne : r ≠ q) (h1 : T 3 (5 * r) = zi f) (h2 : T 3 (5 * q) = zi f) : 1 < sCnt T f := by
  have e1 := zct_one (p := fun r' => decide (T 3 (5 * r') = zi f)) (q := fun r' => decide (T 3 (5 * r') = zi f) && !decide (r' = r)) (r := r) (by rw [h1]; simp) (by simp) (fun j hj => by simp [hj]) 72 0 0 (by omega) (by omega)
  have e2 := zct_one (p := fun r' => decide (T 3 (5 * r') = zi f) && !decide (r' = r)) (q := fun r' => (decide (T 3 (5 * r') = zi f) && !decide (r' = r)) && !decide (r' = q)) (r := q) (by rw [h2]; simp; exact fun e => hne e.symm) (by simp) (fun j hj => by simp [hj]) 72 0 0 (by omega) (by omega)
  unfold sCnt
  omega
theorem sL_far {i j : Nat} (I : zIv T) (hi : i < (sL T).length) (hj : j < (sL T).length) (hne : i ≠ j) : sFr T ((sL T).getD i 0) ≠ sFr T ((sL T).getD j 0) := by
  obtain ⟨r1, r2⟩ := sL_in (T := T) sL_all hi
  obtain ⟨q1, q2⟩ := sL_in (T := T) sL_all hj
  obtain ⟨a1, a2⟩ := sFr_of (zIv_at I _ r1) r2
  obtain ⟨b1, b2⟩ := sFr_of (zIv_at I _ q1) q2
  have hd : (sL T).getD i 0 ≠ (sL T).getD j 0 := fun e => hne (sL_at hi hj e)
  have hsh := sLoose_sh (sOff_loose (sL_iff.mp (List.mem_of_getElem? (zget_D hi))).2)
  intro e
  rw [← e] at b2
  have h2 := sCnt_two r1 q1 hd a2 b2
  have hle := sCnt_le T (sFr T ((sL T).getD i 0))
  unfold sSh at hsh
  rw [r2, Bool.true_and, I.2.2.2.2.1.1 _ a1] at hsh
  have hsh := of_decide_eq_false hsh
  rw [zi_lt (by omega) (by omega)] at hsh
  exact hsh h2
/-- the prices while offers are bought -/
def zBq (T V : ZD2) (i : Nat) : Prop := zBg T V i ∧ (∀ p, V 2 (12 * p) = T 2 (12 * p)) ∧ ∀ j, i ≤ j → j < (sL T).length → V 4 (3 * sFr T ((sL T).getD j 0) + 1) = T 4 (3 * sFr T ((sL T).getD j 0) + 1)
theorem zBq_price {V : ZD2} {i : Nat} (Q : zBq T V i) (hi : i < (sL T).length) : sPrice V ((sL T).getD i 0) = sPrice T ((sL T).getD i 0) := by
  obtain ⟨B, h2, h4⟩ := Q
  have h3 := B.2.2.2.2 i (Nat.le_refl _) hi
  have h4 := h4 i (Nat.le_refl _) hi
  have e1 : sIn V ((sL T).getD i 0) = sIn T ((sL T).getD i 0) := by unfold sIn; rw [h3]
  have e2 : sFr V ((sL T).getD i 0) = sFr T ((sL T).getD i 0) := by unfold sFr; rw [h3]
  have e3 : sDirty V (sFr T ((sL T).getD i 0)) = sDirty T (sFr T ((sL T).getD i 0)) := by unfold sDirty; rw [h4]
  unfold sPrice
  rw [e1, e2, e3, h2]
theorem zBq_step {V : ZD2} {i : Nat} (I : zIv T) (Q : zBq T V i) (hi : i < (sL T).length) : zBq T (sBuyX (sL T) i V) (i + 1) := by
  have Q' := Q
  obtain ⟨B, h2, h4⟩ := Q
  obtain ⟨hin, B2⟩ := zBg_step B hi
  obtain ⟨r1, r2⟩ := sL_in (T := T) sL_all hi
  have h3 := B.2.2.2.2 i (Nat.le_refl _) hi
  have e2 : sFr V ((sL T).getD i 0) = sFr T ((sL T).getD i 0) := by unfold sFr; rw [h3]
  refine ⟨B2, fun p => ?_, fun j h5 hj => ?_⟩
  · unfold sBuyX uBuyX
    rw [uLeave_o (by omega) (by omega), zw_row (by omega), zw_row (by omega), zw_ne (by omega)]
    exact h2 p
  · have hfar := sL_far I hi hj (by omega)
    obtain ⟨f1, f2⟩ := sFr_of (zIv_at B.1 _ r1) hin
    have IV := zIv_sell B.1 r1 hin
    obtain ⟨g4, -⟩ := uLeave_4 (w := true) IV r1 f1 (by rw [zw_ne (by omega), zw_ne (by omega), zw_row (by omega)]; exact f2)
    unfold sBuyX uBuyX
    rw [g4, e2, if_neg (by omega), if_neg (by omega : ¬ 3 * sFr T ((sL T).getD j 0) + 1 = 3 * sFr T ((sL T).getD i 0) + 1), if_neg (by omega : ¬ (3 * sFr T ((sL T).getD j 0) + 1 = 3 * sFr T ((sL T).getD i 0) + 2 ∧ _)), zw_row (by omega), zw_row (by omega), zw_row (by omega)]
    have := h4 j (by omega) hj
    split <;> exact this
theorem zBq_credit {p : Nat} (I : zIv T) : ∀ d i V, i + d ≤ (sL T).length → zBq T V i → zfo (sBuyX (sL T)) d i V 2 (12 * p + 3) = zfo (fun i s => s + (if (sL T).getD i 0 / 12 = p then sPrice T ((sL T).getD i 0) else zi 0)) d i (V 2 (12 * p + 3)) := by
  intro d
  induction d with
  | zero => intro i V _ _; rw [zfo, zfo]
  | succ d ih =>
    intro i V hi Q
    have hi2 : i < (sL T).length := by omega
    rw [zfo, zfo, ih (i + 1) _ (by omega) (zBq_step I Q hi2)]
    have e := zBq_price Q hi2
    have e2 : sBuyX (sL T) i V 2 (12 * p + 3) = V 2 (12 * p + 3) + (if (sL T).getD i 0 / 12 = p then sPrice T ((sL T).getD i 0) else zi 0) := by
      unfold sBuyX uBuyX
      rw [uLeave_o (by omega) (by omega), zw_row (by omega), zw_row (by omega), e]
      by_cases hp : (sL T).getD i 0 / 12 = p
      · rw [if_pos hp, hp, zw_self]
      · rw [if_neg hp, zw_ne (by omega), zaddz]
    rw [e2]
theorem rAsk_credit {p n : Nat} (I : zIv T) (E : zEx T) : rAsk T n 2 (12 * p + 3) = sCrd T p n := by
  have e0 : zw T 1 10 (T 1 10) = T := zw_same rfl
  have ask : rAsk T n = zw (zfo (sBuyX (sL T)) (min n (sL T).length) 0 T) 1 10 (T 1 10 + zi (min n (sL T).length)) := by
    unfold rAsk
    rw [← sBuyX_eq, e0]
  rw [ask, zw_row (by omega), zBq_credit I _ _ _ (by rw [Nat.zero_add]; exact Nat.min_le_right _ _) ⟨⟨I, E, zIm_rfl, rfl, fun _ _ _ => rfl⟩, fun _ => rfl, fun _ _ _ => rfl⟩]
  rfl
theorem m267 {p n : Nat} (I : zIv T) (E : zEx T) (S : zRs D T) (R : zRd s T) (h : D 168 1 = zi 1) (hp : p < sNp T) (h1 : 1 ≤ n) (h2 : n ≤ 72) : ∃ D' s', zFrS D D' ∧ D' 168 0 = zi 0 ∧ (∀ j, j < 540 → s' j = s j) ∧ zev X 267 0 [.ref 168, .int (zi p), .int (zi n), zJ, zJ] [] (zHP (zrow D 172 s) O, k) = some (.inl (some (.int (sCrd T p n))), (zHP (zrow D' 172 s') O, k)) := by
  have n2 := zIv_np6 I
  have e223 := m223 (X := X) (s := s) (O := O) (k := k) I S h hp
  have e175 := m175z (X := X) (D := zrow (zth D 0) 172 s) (O := O) (k := k) (q := n) (l := 1) (n := 72) h1 h2 (by omega)
  have e248 := m248 (X := X) (D := zth D 0) (s := s) (O := O) (k := k)
  have F := zFrS_aside (D := D) (f := fun j => if j < 540 then s j else zth D 0 173 j)
  obtain ⟨D1, s1, e268, F1, R1, -, -, M1⟩ := m268 (X := X) (O := O) (k := k) I E (zRs_frS F S) R h2
  have hm := Nat.min_le_right n (sL T).length
  have e203 := @m203 X D1 s1 O k p 1 (by omega) (by omega)
  rw [(R1.2.1 p (by rw [zRd_np M1.2.1]; exact hp)).2.1, rAsk_credit I E] at e203
  have e262 := m262 (X := X) (D := D1) (s := s1) (O := O) (k := k)
  refine ⟨D1, fun j => if j < 540 then D1 173 j else s1 j, zFrS_tr F (zFrS_M F1), ?_, ?_, ?_⟩
  · rw [F1.2 0 (by omega), zrow_ne (by omega)]; exact zth_0 _ _
  · intro j hj
    rw [F1.1 173 (by omega) (by omega)]
    simp only [hj, if_true, zrow_self]
  · simp (disch := first | assumption | omega) only [b267_0, e223, b267_5, e175, b267_16, m176f0, b267_28, ↓zn_l, zl_0, zl_1, zl_2, zl_3, zl_4, zl_5, zl_6, zl_7, zl_8, zl_9, zl_10, zl_11, zl_12, zl_13, zl_14, zl_15, zl_16, zl_17, zl_18, zl_19, zl_20, zl_21, zl_22, zl_23, zl_24, zl_25, zl_26, zl_27, zl_28, zl_29, zl_30, zl_31, zl_32, zl_36, zl_46, zl_48, zl_50, zl_57, zl_63, zl_64, zl_72, zl_97, zl_99, zl_100, zl_101, zl_122, zl_127, zl_200, zl_255, zl_406, zl_534, zl_540, zl_600, zl_9999, zl_33, zl_34, zl_35, zl_37, zl_38, zl_39, zl_40, zl_41, zl_42, zl_43, zl_44, zl_45, zl_47, zl_49, zl_52, zl_53, zl_54, zl_55, zl_58, zl_59, zl_60, zl_61, zl_62, zl_65, zl_70, zl_71, zl_98, zl_102, zl_103, zl_104, zl_105, zl_110, zl_111, zl_115, zl_120, zl_123, zl_126, zl_128, zl_256, zl_1000, zl_1024, zcon_inl, zcon_inr, Option.toList_some, Option.toList_none, List.cons_append, List.nil_append, List.append_nil, Nat.add_zero, zbind_some, zi_toNat, zi_lt, zi_inj, zi_add, zi_mul, zi_ne_zn, zn_ne_zi, zn_lt_zi, zi_lt_zn, Nat.not_lt_zero, false_or, if_true, if_false, true_or, or_false, Nat.reduceEqDiff, eq_self, e248]
    refine b267_37.trans ?_
    rw [e268, zcon_inl]
    refine b267_42.trans ?_
    rw [zl_1, e203, zcon_inl]
    refine b267_49.trans ?_
    rw [e262, zcon_inl]
    exact b267_55
theorem m267n1 {a b : Int32} (h : D 168 1 = zi 0) : zev X 267 0 [.ref 168, .int a, .int b, zJ, zJ] [] (zHP (zrow D 172 s) O, k) = some (.inl (some (.int (zi 0))), (zHP (zrow (zth D 1) 172 s) O, k)) := by
  have e := m223n1 (X := X) (s := s) (O := O) (k := k) (a := a) h
  simp (disch := first | assumption | omega) only [b267_0, b267_5, ↓zn_l, zl_0, zl_1, zl_2, zl_3, zl_4, zl_5, zl_6, zl_7, zl_8, zl_9, zl_10, zl_11, zl_12, zl_13, zl_14, zl_15, zl_16, zl_17, zl_18, zl_19, zl_20, zl_21, zl_22, zl_23, zl_24, zl_25, zl_26, zl_27, zl_28, zl_29, zl_30, zl_31, zl_32, zl_36, zl_46, zl_48, zl_50, zl_57, zl_63, zl_64, zl_72, zl_97, zl_99, zl_100, zl_101, zl_122, zl_127, zl_200, zl_255, zl_406, zl_534, zl_540, zl_600, zl_9999, zl_33, zl_34, zl_35, zl_37, zl_38, zl_39, zl_40, zl_41, zl_42, zl_43, zl_44, zl_45, zl_47, zl_49, zl_52, zl_53, zl_54, zl_55, zl_58, zl_59, zl_60, zl_61, zl_62, zl_65, zl_70, zl_71, zl_98, zl_102, zl_103, zl_104, zl_105, zl_110, zl_111, zl_115, zl_120, zl_123, zl_126, zl_128, zl_256, zl_1000, zl_1024, zcon_inl, zcon_inr, Option.toList_some, Option.toList_none, List.cons_append, List.nil_append, List.append_nil, Nat.add_zero, zbind_some, zi_toNat, zi_lt, zi_inj, zi_add, zi_mul, zi_ne_zn, zn_ne_zi, zn_lt_zi, zi_lt_zn, Nat.not_lt_zero, false_or, if_true, if_false, true_or, or_false, Nat.reduceEqDiff, eq_self, e]
theorem m267n2 {a b : Int32} (I : zIv T) (S : zRs D T) (h : D 168 1 = zi 1) (ha : a < zi 0 ∨ ¬ a < zi (sNp T)) : zev X 267 0 [.ref 168, .int a, .int b, zJ, zJ] [] (zHP (zrow D 172 s) O, k) = some (.inl (some (.int (zi 0))), (zHP (zrow (zth D 2) 172 s) O, k)) := by
  have e := m223n2 (X := X) (s := s) (O := O) (k := k) I S h ha
  simp (disch := first | assumption | omega) only [b267_0, b267_5, ↓zn_l, zl_0, zl_1, zl_2, zl_3, zl_4, zl_5, zl_6, zl_7, zl_8, zl_9, zl_10, zl_11, zl_12, zl_13, zl_14, zl_15, zl_16, zl_17, zl_18, zl_19, zl_20, zl_21, zl_22, zl_23, zl_24, zl_25, zl_26, zl_27, zl_28, zl_29, zl_30, zl_31, zl_32, zl_36, zl_46, zl_48, zl_50, zl_57, zl_63, zl_64, zl_72, zl_97, zl_99, zl_100, zl_101, zl_122, zl_127, zl_200, zl_255, zl_406, zl_534, zl_540, zl_600, zl_9999, zl_33, zl_34, zl_35, zl_37, zl_38, zl_39, zl_40, zl_41, zl_42, zl_43, zl_44, zl_45, zl_47, zl_49, zl_52, zl_53, zl_54, zl_55, zl_58, zl_59, zl_60, zl_61, zl_62, zl_65, zl_70, zl_71, zl_98, zl_102, zl_103, zl_104, zl_105, zl_110, zl_111, zl_115, zl_120, zl_123, zl_126, zl_128, zl_256, zl_1000, zl_1024, zcon_inl, zcon_inr, Option.toList_some, Option.toList_none, List.cons_append, List.nil_append, List.append_nil, Nat.add_zero, zbind_some, zi_toNat, zi_lt, zi_inj, zi_add, zi_mul, zi_ne_zn, zn_ne_zi, zn_lt_zi, zi_lt_zn, Nat.not_lt_zero, false_or, if_true, if_false, true_or, or_false, Nat.reduceEqDiff, eq_self, e]
theorem m267n3 {p : Nat} {b : Int32} (I : zIv T) (S : zRs D T) (h : D 168 1 = zi 1) (hp : p < sNp T) (hb : b < zi 1 ∨ zi 72 < b) : zev X 267 0 [.ref 168, .int (zi p), .int b, zJ, zJ] [] (zHP (zrow D 172 s) O, k) = some (.inl (some (.int (zi 0))), (zHP (zrow (zth D 3) 172 s) O, k)) := by
  have e := m223 (X := X) (s := s) (O := O) (k := k) I S h hp
  simp (disch := first | assumption | omega) only [b267_0, b267_5, b267_16, b267_28, ↓zn_l, zl_0, zl_1, zl_2, zl_3, zl_4, zl_5, zl_6, zl_7, zl_8, zl_9, zl_10, zl_11, zl_12, zl_13, zl_14, zl_15, zl_16, zl_17, zl_18, zl_19, zl_20, zl_21, zl_22, zl_23, zl_24, zl_25, zl_26, zl_27, zl_28, zl_29, zl_30, zl_31, zl_32, zl_36, zl_46, zl_48, zl_50, zl_57, zl_63, zl_64, zl_72, zl_97, zl_99, zl_100, zl_101, zl_122, zl_127, zl_200, zl_255, zl_406, zl_534, zl_540, zl_600, zl_9999, zl_33, zl_34, zl_35, zl_37, zl_38, zl_39, zl_40, zl_41, zl_42, zl_43, zl_44, zl_45, zl_47, zl_49, zl_52, zl_53, zl_54, zl_55, zl_58, zl_59, zl_60, zl_61, zl_62, zl_65, zl_70, zl_71, zl_98, zl_102, zl_103, zl_104, zl_105, zl_110, zl_111, zl_115, zl_120, zl_123, zl_126, zl_128, zl_256, zl_1000, zl_1024, zcon_inl, zcon_inr, Option.toList_some, Option.toList_none, List.cons_append, List.nil_append, List.append_nil, Nat.add_zero, zbind_some, zi_toNat, zi_lt, zi_inj, zi_add, zi_mul, zi_ne_zn, zn_ne_zi, zn_lt_zi, zi_lt_zn, Nat.not_lt_zero, false_or, if_true, if_false, true_or, or_false, Nat.reduceEqDiff, eq_self, e, m175w, m176t0]
theorem m269 {n : Nat} (I : zIv T) (E : zEx T) (S : zRs D T) (R : zRd s T) (h : D 168 1 = zi 1) (h1 : 1 ≤ n) (h2 : n ≤ 72) : ∃ D' s', zFrS D D' ∧ D' 168 0 = zi 0 ∧ (∀ j, j < 540 → s' j = s j) ∧ zev X 269 0 [.ref 168, .int (zi n), zJ] [] (zHP (zrow D 172 s) O, k) = some (.inl (some (.int (zo (rVict n T none).1))), (zHP (zrow D' 172 s') O, k)) := by
  have e236 := m236 (X := X) (s := s) (O := O) (k := k) h h1 h2
  have e248 := m248 (X := X) (D := zth D 0) (s := s) (O := O) (k := k)
  have F := zFrS_aside (D := D) (f := fun j => if j < 540 then s j else zth D 0 173 j)
  obtain ⟨D1, s1, e270, F1, R1, -, -, M1, C1, L1⟩ := m270 (X := X) (O := O) (k := k) I E (zRs_frS F S) R h2
  have e262 := m262 (X := X) (D := D1) (s := s1) (O := O) (k := k)
  have hv : (rVict n T none).1 = if (rTkX n T none).1 < n then none else (rTkX n T none).2.2 := by
    have e0 : zw T 1 11 (T 1 11) = T := zw_same rfl
    have := rVict_eq n T (T 1 11) none
    rw [e0] at this
    exact this
  have hle := rTkX_le (d := n) (V := T) (o := none)
  refine ⟨D1, fun j => if j < 540 then D1 173 j else s1 j, zFrS_tr F ⟨fun a a1 _ _ => F1.1 a a1, fun j _ _ j3 => F1.2 j j3⟩, ?_, ?_, ?_⟩
  · rw [F1.2 0 (by omega), zrow_ne (by omega)]; exact zth_0 _ _
  · intro j hj
    rw [F1.1 173 (by omega)]
    simp only [hj, if_true, zrow_self]
  · simp (disch := first | assumption | omega) only [b269_0, e236, b269_5, ↓zn_l, zl_0, zl_1, zl_2, zl_3, zl_4, zl_5, zl_6, zl_7, zl_8, zl_9, zl_10, zl_11, zl_12, zl_13, zl_14, zl_15, zl_16, zl_17, zl_18, zl_19, zl_20, zl_21, zl_22, zl_23, zl_24, zl_25, zl_26, zl_27, zl_28, zl_29, zl_30, zl_31, zl_32, zl_36, zl_46, zl_48, zl_50, zl_57, zl_63, zl_64, zl_72, zl_97, zl_99, zl_100, zl_101, zl_122, zl_127, zl_200, zl_255, zl_406, zl_534, zl_540, zl_600, zl_9999, zl_33, zl_34, zl_35, zl_37, zl_38, zl_39, zl_40, zl_41, zl_42, zl_43, zl_44, zl_45, zl_47, zl_49, zl_52, zl_53, zl_54, zl_55, zl_58, zl_59, zl_60, zl_61, zl_62, zl_65, zl_70, zl_71, zl_98, zl_102, zl_103, zl_104, zl_105, zl_110, zl_111, zl_115, zl_120, zl_123, zl_126, zl_128, zl_256, zl_1000, zl_1024, zcon_inl, zcon_inr, Option.toList_some, Option.toList_none, List.cons_append, List.nil_append, List.append_nil, Nat.add_zero, zbind_some, zi_toNat, zi_lt, zi_inj, zi_add, zi_mul, zi_ne_zn, zn_ne_zi, zn_lt_zi, zi_lt_zn, Nat.not_lt_zero, false_or, if_true, if_false, true_or, or_false, Nat.reduceEqDiff, eq_self, e248]
    refine b269_14.trans ?_
    rw [e270, zcon_inl]
    refine b269_19.trans ?_
    rw [e262, zcon_inl]
    refine b269_24.trans ?_
    rw [hv, C1]
    by_cases hc : (rTkX n T none).1 < n
    · rw [if_pos (by rw [zi_lt (by omega) (by omega)]; exact hc), if_pos hc]
      rfl
    · rw [if_neg (by rw [zi_lt (by omega) (by omega)]; exact hc), if_neg hc]
      obtain ⟨q, hq⟩ := rTkX_is0 (d := n) (V := T) (by omega)
      rw [hq, e168s, L1 q hq]
      rfl
theorem m269n1 {a : Int32} (h : D 168 1 = zi 0) : zev X 269 0 [.ref 168, .int a, zJ] [] (zHP (zrow D 172 s) O, k) = some (.inl (some (.int (zi 0))), (zHP (zrow (zth D 1) 172 s) O, k)) := by
  have e := m236n1 (X := X) (s := s) (O := O) (k := k) (a := a) h
  simp (disch := first | assumption | omega) only [b269_0, b269_5, ↓zn_l, zl_0, zl_1, zl_2, zl_3, zl_4, zl_5, zl_6, zl_7, zl_8, zl_9, zl_10, zl_11, zl_12, zl_13, zl_14, zl_15, zl_16, zl_17, zl_18, zl_19, zl_20, zl_21, zl_22, zl_23, zl_24, zl_25, zl_26, zl_27, zl_28, zl_29, zl_30, zl_31, zl_32, zl_36, zl_46, zl_48, zl_50, zl_57, zl_63, zl_64, zl_72, zl_97, zl_99, zl_100, zl_101, zl_122, zl_127, zl_200, zl_255, zl_406, zl_534, zl_540, zl_600, zl_9999, zl_33, zl_34, zl_35, zl_37, zl_38, zl_39, zl_40, zl_41, zl_42, zl_43, zl_44, zl_45, zl_47, zl_49, zl_52, zl_53, zl_54, zl_55, zl_58, zl_59, zl_60, zl_61, zl_62, zl_65, zl_70, zl_71, zl_98, zl_102, zl_103, zl_104, zl_105, zl_110, zl_111, zl_115, zl_120, zl_123, zl_126, zl_128, zl_256, zl_1000, zl_1024, zcon_inl, zcon_inr, Option.toList_some, Option.toList_none, List.cons_append, List.nil_append, List.append_nil, Nat.add_zero, zbind_some, zi_toNat, zi_lt, zi_inj, zi_add, zi_mul, zi_ne_zn, zn_ne_zi, zn_lt_zi, zi_lt_zn, Nat.not_lt_zero, false_or, if_true, if_false, true_or, or_false, Nat.reduceEqDiff, eq_self, e]
theorem m269n2 {a : Int32} (h : D 168 1 = zi 1) (ha : a < zi 1 ∨ zi 72 < a) : zev X 269 0 [.ref 168, .int a, zJ] [] (zHP (zrow D 172 s) O, k) = some (.inl (some (.int (zi 0))), (zHP (zrow (zth D 2) 172 s) O, k)) := by
  have e := m236n2 (X := X) (s := s) (O := O) (k := k) h ha
  simp (disch := first | assumption | omega) only [b269_0, b269_5, ↓zn_l, zl_0, zl_1, zl_2, zl_3, zl_4, zl_5, zl_6, zl_7, zl_8, zl_9, zl_10, zl_11, zl_12, zl_13, zl_14, zl_15, zl_16, zl_17, zl_18, zl_19, zl_20, zl_21, zl_22, zl_23, zl_24, zl_25, zl_26, zl_27, zl_28, zl_29, zl_30, zl_31, zl_32, zl_36, zl_46, zl_48, zl_50, zl_57, zl_63, zl_64, zl_72, zl_97, zl_99, zl_100, zl_101, zl_122, zl_127, zl_200, zl_255, zl_406, zl_534, zl_540, zl_600, zl_9999, zl_33, zl_34, zl_35, zl_37, zl_38, zl_39, zl_40, zl_41, zl_42, zl_43, zl_44, zl_45, zl_47, zl_49, zl_52, zl_53, zl_54, zl_55, zl_58, zl_59, zl_60, zl_61, zl_62, zl_65, zl_70, zl_71, zl_98, zl_102, zl_103, zl_104, zl_105, zl_110, zl_111, zl_115, zl_120, zl_123, zl_126, zl_128, zl_256, zl_1000, zl_1024, zcon_inl, zcon_inr, Option.toList_some, Option.toList_none, List.cons_append, List.nil_append, List.append_nil, Nat.add_zero, zbind_some, zi_toNat, zi_lt, zi_inj, zi_add, zi_mul, zi_ne_zn, zn_ne_zi, zn_lt_zi, zi_lt_zn, Nat.not_lt_zero, false_or, if_true, if_false, true_or, or_false, Nat.reduceEqDiff, eq_self, e]
end
