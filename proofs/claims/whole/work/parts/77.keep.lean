/-! The model keeps and fetches; pins stay. -/
/-- pins stay -/
def zPn (T U : ZD2) : Prop := ∀ q, U 3 (5 * q + 2) = T 3 (5 * q + 2)
theorem zPn_rfl {T : ZD2} : zPn T T := fun _ => rfl
theorem zPn_tr {T U V : ZD2} (h1 : zPn T U) (h2 : zPn U V) : zPn T V := fun q => (h2 q).trans (h1 q)
theorem zPn_w {T U : ZD2} {t j : Nat} {v : Int32} (h : zPn T U) (h3 : t = 3 → j % 5 ≠ 2) : zPn T (zw U t j v) := zPn_tr h fun q => zw_ne (by
  rintro ⟨e1, e2⟩
  have := h3 e1.symm
  omega)
theorem zPn_leave {T U : ZD2} {r f : Nat} {w : Bool} (h : zPn T U) : zPn T (uLeave U r f w) := zPn_tr h fun q => by rw [uLeave_3, zw_ne (by omega)]
theorem zPn_enter {T U : ZD2} {r f : Nat} (h : zPn T U) : zPn T (uEnter U r f) := zPn_w (zPn_w h (fun _ => by omega)) (by omega)
theorem zPn_use {T U : ZD2} {r f : Nat} {w : Bool} (h : zPn T U) : zPn T (uUse U r f w) := by
  have h2 : zPn T (uUsed U r) := zPn_w (zPn_w h (fun _ => by omega)) (by omega)
  unfold uUse
  split
  · exact zPn_w h2 (by omega)
  · exact h2
theorem zPn_forget {T U : ZD2} {r : Nat} (h : zPn T U) : zPn T (uForget U r) := zPn_w (zPn_w h (fun _ => by omega)) (fun _ => by omega)
theorem zPn_judge {T U : ZD2} {p r : Nat} (h : zPn T U) : zPn T (rJudge U p r).2 := by
  have h1 := zPn_forget (r := r) h
  unfold rJudge
  split
  · split
    · exact zPn_w (zPn_w (zPn_w (zPn_w (zPn_w h1 (by omega)) (by omega)) (by omega)) (by omega)) (by omega)
    · exact zPn_w (zPn_w h1 (by omega)) (by omega)
  · exact zPn_w h1 (by omega)
theorem zPn_touch {T : ZD2} {p g : Nat} {w : Bool} : zPn T (rTouch T p g w).2 := by
  unfold rTouch
  split
  · split
    · unfold rCopy
      cases sFree T with
      | none => exact zPn_w zPn_rfl (by omega)
      | some f' => exact zPn_w (zPn_use (zPn_enter (zPn_leave zPn_rfl))) (by omega)
    · exact zPn_use zPn_rfl
  · unfold rFetch
    have E1 : zPn T (uFault T p) := zPn_w (zPn_w zPn_rfl (by omega)) (by omega)
    cases sFree T with
    | none => exact zPn_w E1 (by omega)
    | some f =>
      have E2 : zPn T (uFetch (uFault T p) (12 * p + g) f w) := zPn_use (zPn_enter (zPn_w E1 (by omega)))
      show zPn T (if sSold T (12 * p + g) = true then _ else _ : Int32 × ZD2).2
      split
      · exact zPn_judge E2
      · exact E2
theorem zPn_buy {T U : ZD2} {r f : Nat} (h : zPn T U) : zPn T (uBuy U r f) := zPn_w (zPn_leave (zPn_w (zPn_w (zPn_w h (by omega)) (fun _ => by omega)) (fun _ => by omega))) (by omega)
theorem zPn_buys {T : ZD2} (l : List Nat) : ∀ d i U, zPn T U → zPn T (zfo (sBuyF l) d i U)
  | 0, _, _, h => h
  | d + 1, i, U, h => by
    rw [zfo]
    refine zPn_buys l d (i + 1) _ ?_
    unfold sBuyF
    exact zPn_buy h
theorem zPn_ask {T : ZD2} {n : Nat} : zPn T (rAsk T n) := by
  unfold rAsk
  exact zPn_buys _ _ _ _ zPn_rfl
theorem zPn_takes {T : ZD2} : ∀ d U, zPn T U → zPn T (rTakes d U).2
  | 0, U, h => by rw [rTakes]; exact h
  | d + 1, U, h => by
    rw [rTakes]
    cases ht : sTaken U with
    | none => exact h
    | some r =>
      refine zPn_takes d _ ?_
      unfold rTake
      rw [ht]
      exact zPn_w (zPn_w (zPn_leave h) (by omega)) (by omega)
/-- pages that are not there are not pinned -/
def zPz (T : ZD2) : Prop := ∀ p g, p < 6 → g < 12 → (sNp T ≤ p ∨ sPgs T p ≤ g) → T 3 (5 * (12 * p + g) + 2) = zi 0
theorem zPz_im {T U : ZD2} (Z : zPz T) (M : zIm T U) (h : zPn T U) : zPz U := by
  intro p g hp hg hb
  rw [zRd_np M.2.1] at hb
  have e : sPgs U p = sPgs T p := by unfold sPgs; rw [(M.2.2 p hp).1]
  rw [e] at hb
  rw [h]
  exact Z p g hp hg hb
/-- the rows kept once one more is -/
def zShf (D : ZD2) (s : Nat → Int32) (h j : Nat) : Int32 := if h < 8 then (if 540 * h ≤ j ∧ j < 540 * h + 540 then s (j - 540 * h) else D 174 j) else if j < 3780 then D 174 (j + 540) else if j < 4320 then s (j - 3780) else D 174 j
def zKp (D : ZD2) (s : Nat → Int32) (h : Nat) (D' : ZD2) : Prop := ((∀ a, a ≠ 168 → a ≠ 174 → a ≠ 181 → D' a = D a) ∧ ∀ j, j ≠ 0 → j ≠ 14 → j ≠ 39 → j ≠ 40 → D' 168 j = D 168 j) ∧ D' 168 0 = zi 0 ∧ D' 168 14 = zi (min 8 (h + 1)) ∧ ∀ j, D' 174 j = zShf D s h j
theorem zKp_fr {D D' D'' : ZD2} {s : Nat → Int32} {h : Nat} (K : zKp D s h D') (F : (∀ a, a ≠ 168 → a ≠ 181 → D'' a = D' a) ∧ ∀ j, j ≠ 39 → j ≠ 40 → D'' 168 j = D' 168 j) : zKp D s h D'' := by
  obtain ⟨⟨k1, k2⟩, k3, k4, k5⟩ := K
  exact ⟨⟨fun a a1 a2 a3 => (F.1 a a1 a3).trans (k1 a a1 a2 a3), fun j j1 j2 j3 j4 => (F.2 j j3 j4).trans (k2 j j1 j2 j3 j4)⟩, (F.2 0 (by omega) (by omega)).trans k3, (F.2 14 (by omega) (by omega)).trans k4, fun j => by rw [F.1 174 (by omega) (by omega)]; exact k5 j⟩
theorem zKp_M {D D' D'' : ZD2} {s : Nat → Int32} {h : Nat} (K : zKp D s h D') (F : zFrM D' D'') : zKp D s h D'' := zKp_fr K ⟨F.1, fun j j1 _ => F.2 j j1⟩
theorem zRs_kp {D D' T : ZD2} {s : Nat → Int32} {h : Nat} (K : zKp D s h D') (S : zRs D T) : zRs D' T := by
  obtain ⟨⟨s1, s2, s3, s4, s5, s6⟩, s7, s8⟩ := S
  obtain ⟨⟨k1, k2⟩, -⟩ := K
  refine ⟨⟨?_, ?_, ?_, ?_, ?_, ?_⟩, fun p hp => ?_, fun p hp => ?_⟩
  · rw [k2 7 (by omega) (by omega) (by omega) (by omega)]; exact s1
  · rw [k2 2 (by omega) (by omega) (by omega) (by omega)]; exact s2
  · rw [k2 3 (by omega) (by omega) (by omega) (by omega)]; exact s3
  · rw [k2 4 (by omega) (by omega) (by omega) (by omega)]; exact s4
  · rw [k2 5 (by omega) (by omega) (by omega) (by omega)]; exact s5
  · rw [k2 6 (by omega) (by omega) (by omega) (by omega)]; exact s6
  · rw [k1 170 (by omega) (by omega) (by omega)]; exact s7 p hp
  · rw [k1 171 (by omega) (by omega) (by omega)]; exact s8 p hp
section
variable {X : ZX} {D T : ZD2} {s : Nat → Int32} {O : ZO2} {k : Nat × Nat × Nat}
theorem m284 {st : Nat} (hst : st < 10) : ∃ D', zev X 284 0 [.ref 168, .int (zi st), zJ] [] (zHP (zrow D 172 s) O, k) = some (.inl none, (zHP (zrow D' 172 s) O, k)) ∧ (∀ a, a ≠ 174 → D' a = D a) ∧ ∀ j, D' 174 j = if 540 * st ≤ j ∧ j < 540 * st + 540 then s (j - 540 * st) else D 174 j := by
  have key : ∀ d i (D' : ZD2), i + d = 540 → (∀ a, a ≠ 174 → D' a = D a) → (∀ j, D' 174 j = if 540 * st ≤ j ∧ j < 540 * st + i then s (j - 540 * st) else D 174 j) → ∃ D'', zev X 284 2 [.ref 168, .int (zi st), .int (zi i)] [] (zHP (zrow D' 172 s) O, k) = some (.inl none, (zHP (zrow D'' 172 s) O, k)) ∧ (∀ a, a ≠ 174 → D'' a = D a) ∧ ∀ j, D'' 174 j = if 540 * st ≤ j ∧ j < 540 * st + 540 then s (j - 540 * st) else D 174 j := by
    intro d
    induction d with
    | zero =>
      intro i D' hi h1 h2
      have e : i = 540 := by omega
      subst e
      refine ⟨D', b284_2.trans ?_, h1, h2⟩
      simp (disch := first | assumption | omega) only [↓zn_l, zl_0, zl_1, zl_2, zl_3, zl_4, zl_5, zl_6, zl_7, zl_8, zl_9, zl_10, zl_11, zl_12, zl_13, zl_14, zl_15, zl_16, zl_17, zl_18, zl_19, zl_20, zl_21, zl_22, zl_23, zl_24, zl_25, zl_26, zl_27, zl_28, zl_29, zl_30, zl_31, zl_32, zl_36, zl_46, zl_48, zl_50, zl_57, zl_63, zl_64, zl_72, zl_97, zl_99, zl_100, zl_101, zl_122, zl_127, zl_200, zl_255, zl_406, zl_534, zl_540, zl_600, zl_9999, zl_33, zl_34, zl_35, zl_37, zl_38, zl_39, zl_40, zl_41, zl_42, zl_43, zl_44, zl_45, zl_47, zl_49, zl_52, zl_53, zl_54, zl_55, zl_58, zl_59, zl_60, zl_61, zl_62, zl_65, zl_70, zl_71, zl_98, zl_102, zl_103, zl_104, zl_105, zl_110, zl_111, zl_115, zl_120, zl_123, zl_126, zl_128, zl_256, zl_1000, zl_1024, zcon_inl, zcon_inr, Option.toList_some, Option.toList_none, List.cons_append, List.nil_append, List.append_nil, Nat.add_zero, zbind_some, zi_toNat, zi_lt, zi_inj, zi_add, zi_mul, zi_ne_zn, zn_ne_zi, zn_lt_zi, zi_lt_zn, Nat.not_lt_zero, false_or, if_true, if_false, true_or, or_false, Nat.reduceEqDiff, eq_self, Nat.lt_irrefl]
    | succ d ih =>
      intro i D' hi h1 h2
      have hi2 : i < 540 := by omega
      have hn : ¬ 540 ≤ i := by omega
      have hn2 : ¬ 5400 ≤ 540 * st + i := by omega
      obtain ⟨D'', e, r⟩ := ih (i + 1) (zw D' 174 (540 * st + i) (s i)) (by omega) (fun a a1 => by rw [zw_row a1]; exact h1 a a1) (fun j => by
        by_cases ej : j = 540 * st + i
        · subst ej
          rw [zw_self, if_pos (by omega), show 540 * st + i - 540 * st = i by omega]
        · rw [zw_ne (by omega), h2 j]
          exact zif_congr (by omega))
      refine ⟨D'', ?_, r⟩
      rw [← e]
      refine b284_2.trans ?_
      simp (disch := first | assumption | omega) only [↓zn_l, zl_0, zl_1, zl_2, zl_3, zl_4, zl_5, zl_6, zl_7, zl_8, zl_9, zl_10, zl_11, zl_12, zl_13, zl_14, zl_15, zl_16, zl_17, zl_18, zl_19, zl_20, zl_21, zl_22, zl_23, zl_24, zl_25, zl_26, zl_27, zl_28, zl_29, zl_30, zl_31, zl_32, zl_36, zl_46, zl_48, zl_50, zl_57, zl_63, zl_64, zl_72, zl_97, zl_99, zl_100, zl_101, zl_122, zl_127, zl_200, zl_255, zl_406, zl_534, zl_540, zl_600, zl_9999, zl_33, zl_34, zl_35, zl_37, zl_38, zl_39, zl_40, zl_41, zl_42, zl_43, zl_44, zl_45, zl_47, zl_49, zl_52, zl_53, zl_54, zl_55, zl_58, zl_59, zl_60, zl_61, zl_62, zl_65, zl_70, zl_71, zl_98, zl_102, zl_103, zl_104, zl_105, zl_110, zl_111, zl_115, zl_120, zl_123, zl_126, zl_128, zl_256, zl_1000, zl_1024, zcon_inl, zcon_inr, Option.toList_some, Option.toList_none, List.cons_append, List.nil_append, List.append_nil, Nat.add_zero, zbind_some, zi_toNat, zi_lt, zi_inj, zi_add, zi_mul, zi_ne_zn, zn_ne_zi, zn_lt_zi, zi_lt_zn, Nat.not_lt_zero, false_or, if_true, if_false, true_or, or_false, Nat.reduceEqDiff, eq_self, hi2, hn, hn2, zrow_self, zw_so]
  rw [b284_0, zl_0]
  exact key 540 0 D (by omega) (fun _ _ => rfl) (fun j => by rw [if_neg (by omega)])
theorem m298 {st : Nat} (hst : st < 10) : ∃ s', zev X 298 0 [.ref 168, .int (zi st), zJ] [] (zHP (zrow D 172 s) O, k) = some (.inl none, (zHP (zrow D 172 s') O, k)) ∧ ∀ j, j < 540 → s' j = D 174 (540 * st + j) := by
  have e174 : ∀ s' : Nat → Int32, zrow D 172 s' 174 = D 174 := fun s' => zrow_ne (by omega)
  have key : ∀ d i (s1 : Nat → Int32), i + d = 540 → (∀ j, j < i → s1 j = D 174 (540 * st + j)) → ∃ s', zev X 298 2 [.ref 168, .int (zi st), .int (zi i)] [] (zHP (zrow D 172 s1) O, k) = some (.inl none, (zHP (zrow D 172 s') O, k)) ∧ ∀ j, j < 540 → s' j = D 174 (540 * st + j) := by
    intro d
    induction d with
    | zero =>
      intro i s1 hi h2
      have e : i = 540 := by omega
      subst e
      refine ⟨s1, b298_2.trans ?_, h2⟩
      simp (disch := first | assumption | omega) only [↓zn_l, zl_0, zl_1, zl_2, zl_3, zl_4, zl_5, zl_6, zl_7, zl_8, zl_9, zl_10, zl_11, zl_12, zl_13, zl_14, zl_15, zl_16, zl_17, zl_18, zl_19, zl_20, zl_21, zl_22, zl_23, zl_24, zl_25, zl_26, zl_27, zl_28, zl_29, zl_30, zl_31, zl_32, zl_36, zl_46, zl_48, zl_50, zl_57, zl_63, zl_64, zl_72, zl_97, zl_99, zl_100, zl_101, zl_122, zl_127, zl_200, zl_255, zl_406, zl_534, zl_540, zl_600, zl_9999, zl_33, zl_34, zl_35, zl_37, zl_38, zl_39, zl_40, zl_41, zl_42, zl_43, zl_44, zl_45, zl_47, zl_49, zl_52, zl_53, zl_54, zl_55, zl_58, zl_59, zl_60, zl_61, zl_62, zl_65, zl_70, zl_71, zl_98, zl_102, zl_103, zl_104, zl_105, zl_110, zl_111, zl_115, zl_120, zl_123, zl_126, zl_128, zl_256, zl_1000, zl_1024, zcon_inl, zcon_inr, Option.toList_some, Option.toList_none, List.cons_append, List.nil_append, List.append_nil, Nat.add_zero, zbind_some, zi_toNat, zi_lt, zi_inj, zi_add, zi_mul, zi_ne_zn, zn_ne_zi, zn_lt_zi, zi_lt_zn, Nat.not_lt_zero, false_or, if_true, if_false, true_or, or_false, Nat.reduceEqDiff, eq_self, Nat.lt_irrefl]
    | succ d ih =>
      intro i s1 hi h2
      have hi2 : i < 540 := by omega
      have hn : ¬ 540 ≤ i := by omega
      have hn2 : ¬ 5400 ≤ 540 * st + i := by omega
      obtain ⟨s', e, r⟩ := ih (i + 1) (zu s1 i (D 174 (540 * st + i))) (by omega) (fun j hj => by
        by_cases ej : j = i
        · rw [ej, zu_self]
        · rw [zu_ne ej]; exact h2 j (by omega))
      refine ⟨s', ?_, r⟩
      rw [← e]
      refine b298_2.trans ?_
      simp (disch := first | assumption | omega) only [↓zn_l, zl_0, zl_1, zl_2, zl_3, zl_4, zl_5, zl_6, zl_7, zl_8, zl_9, zl_10, zl_11, zl_12, zl_13, zl_14, zl_15, zl_16, zl_17, zl_18, zl_19, zl_20, zl_21, zl_22, zl_23, zl_24, zl_25, zl_26, zl_27, zl_28, zl_29, zl_30, zl_31, zl_32, zl_36, zl_46, zl_48, zl_50, zl_57, zl_63, zl_64, zl_72, zl_97, zl_99, zl_100, zl_101, zl_122, zl_127, zl_200, zl_255, zl_406, zl_534, zl_540, zl_600, zl_9999, zl_33, zl_34, zl_35, zl_37, zl_38, zl_39, zl_40, zl_41, zl_42, zl_43, zl_44, zl_45, zl_47, zl_49, zl_52, zl_53, zl_54, zl_55, zl_58, zl_59, zl_60, zl_61, zl_62, zl_65, zl_70, zl_71, zl_98, zl_102, zl_103, zl_104, zl_105, zl_110, zl_111, zl_115, zl_120, zl_123, zl_126, zl_128, zl_256, zl_1000, zl_1024, zcon_inl, zcon_inr, Option.toList_some, Option.toList_none, List.cons_append, List.nil_append, List.append_nil, Nat.add_zero, zbind_some, zi_toNat, zi_lt, zi_inj, zi_add, zi_mul, zi_ne_zn, zn_ne_zi, zn_lt_zi, zi_lt_zn, Nat.not_lt_zero, false_or, if_true, if_false, true_or, or_false, Nat.reduceEqDiff, eq_self, hi2, hn, hn2, e174, zw_s]
  rw [b298_0, zl_0]
  exact key 540 0 s (by omega) (fun j hj => by omega)
theorem zl_3780 : (3780 : Int32) = zi 3780 := rfl
theorem m283 {h : Nat} (hD : D 168 14 = zi h) (h8 : h ≤ 8) : ∃ D', zev X 283 0 [.ref 168, zJ] [] (zHP (zrow (zth D 0) 172 s) O, k) = some (.inl none, (zHP (zrow D' 172 s) O, k)) ∧ zKp D s h D' := by
  have fin : ∀ (D1 : ZD2) q v, D1 168 14 = zi q → q < 10 → zev X 283 60 [.ref 168, v] [] (zHP (zrow D1 172 s) O, k) = some (.inl none, (zHP (zrow (zw D1 168 14 (zi (q + 1))) 172 s) O, k)) := by
    intro D1 q v h1 hq
    refine b283_60.trans ?_
    simp (disch := first | assumption | omega) only [↓zn_l, zl_0, zl_1, zl_2, zl_3, zl_4, zl_5, zl_6, zl_7, zl_8, zl_9, zl_10, zl_11, zl_12, zl_13, zl_14, zl_15, zl_16, zl_17, zl_18, zl_19, zl_20, zl_21, zl_22, zl_23, zl_24, zl_25, zl_26, zl_27, zl_28, zl_29, zl_30, zl_31, zl_32, zl_36, zl_46, zl_48, zl_50, zl_57, zl_63, zl_64, zl_72, zl_97, zl_99, zl_100, zl_101, zl_122, zl_127, zl_200, zl_255, zl_406, zl_534, zl_540, zl_600, zl_9999, zl_33, zl_34, zl_35, zl_37, zl_38, zl_39, zl_40, zl_41, zl_42, zl_43, zl_44, zl_45, zl_47, zl_49, zl_52, zl_53, zl_54, zl_55, zl_58, zl_59, zl_60, zl_61, zl_62, zl_65, zl_70, zl_71, zl_98, zl_102, zl_103, zl_104, zl_105, zl_110, zl_111, zl_115, zl_120, zl_123, zl_126, zl_128, zl_256, zl_1000, zl_1024, zcon_inl, zcon_inr, Option.toList_some, Option.toList_none, List.cons_append, List.nil_append, List.append_nil, Nat.add_zero, zbind_some, zi_toNat, zi_lt, zi_inj, zi_add, zi_mul, zi_ne_zn, zn_ne_zi, zn_lt_zi, zi_lt_zn, Nat.not_lt_zero, false_or, if_true, if_false, true_or, or_false, Nat.reduceEqDiff, eq_self, e168s, h1, zw_so]
  by_cases he : h = 8
  · subst he
    have loop : ∀ d i (D1 : ZD2), i + d = 3780 → (∀ a, a ≠ 174 → D1 a = zth D 0 a) → (∀ j, D1 174 j = if j < i then D 174 (j + 540) else D 174 j) → ∃ D', zev X 283 11 [.ref 168, .int (zi i)] [] (zHP (zrow D1 172 s) O, k) = some (.inl none, (zHP (zrow D' 172 s) O, k)) ∧ zKp D s 8 D' := by
      intro d
      induction d with
      | zero =>
        intro i D1 hi h1 h2
        have e : i = 3780 := by omega
        subst e
        have e14 : D1 168 14 = zi 8 := by rw [h1 168 (by omega), zth_f (by omega)]; exact hD
        obtain ⟨D2, e2, F2, G2⟩ := m284 (X := X) (D := zw D1 168 14 (zi 7)) (s := s) (O := O) (k := k) (st := 7) (by omega)
        have e214 : D2 168 14 = zi 7 := by rw [F2 168 (by omega), zw_self]
        refine ⟨zw D2 168 14 (zi (7 + 1)), ?_, ?_⟩
        · rw [← fin D2 7 (.int (zi 3780)) e214 (by omega)]
          refine b283_11.trans ?_
          have e87 : zi 8 - zi 1 = zi 7 := by decide
          have ew : zw (zrow D1 172 s) 168 14 (zi 7) = zrow (zw D1 168 14 (zi 7)) 172 s := zw_so (by omega)
          have e07 : zi 0 + zi 7 = zi 7 := by decide
          simp (disch := first | assumption | omega) only [↓zn_l, zl_0, zl_1, zl_2, zl_3, zl_4, zl_5, zl_6, zl_7, zl_8, zl_9, zl_10, zl_11, zl_12, zl_13, zl_14, zl_15, zl_16, zl_17, zl_18, zl_19, zl_20, zl_21, zl_22, zl_23, zl_24, zl_25, zl_26, zl_27, zl_28, zl_29, zl_30, zl_31, zl_32, zl_36, zl_46, zl_48, zl_50, zl_57, zl_63, zl_64, zl_72, zl_97, zl_99, zl_100, zl_101, zl_122, zl_127, zl_200, zl_255, zl_406, zl_534, zl_540, zl_600, zl_9999, zl_33, zl_34, zl_35, zl_37, zl_38, zl_39, zl_40, zl_41, zl_42, zl_43, zl_44, zl_45, zl_47, zl_49, zl_52, zl_53, zl_54, zl_55, zl_58, zl_59, zl_60, zl_61, zl_62, zl_65, zl_70, zl_71, zl_98, zl_102, zl_103, zl_104, zl_105, zl_110, zl_111, zl_115, zl_120, zl_123, zl_126, zl_128, zl_256, zl_1000, zl_1024, zcon_inl, zcon_inr, Option.toList_some, Option.toList_none, List.cons_append, List.nil_append, List.append_nil, Nat.add_zero, zbind_some, zi_toNat, zi_lt, zi_inj, zi_add, zi_mul, zi_ne_zn, zn_ne_zi, zn_lt_zi, zi_lt_zn, Nat.not_lt_zero, false_or, if_true, if_false, true_or, or_false, Nat.reduceEqDiff, eq_self, zl_3780, Nat.lt_irrefl, e168s, e14, e87, ew, zw_self, Nat.zero_add, e2]
        · refine ⟨⟨fun a a1 a2 _ => by rw [zw_row a1, F2 a a2, zw_row a1, h1 a a2, zth_a a1], fun j j1 j2 _ _ => by rw [zw_ne (by omega), F2 168 (by omega), zw_ne (by omega), h1 168 (by omega), zth_f j1]⟩, by rw [zw_ne (by omega), F2 168 (by omega), zw_ne (by omega), h1 168 (by omega)]; exact zth_0 _ _, by rw [zw_self]; rfl, fun j => ?_⟩
          rw [zw_row (by omega), G2 j, zw_row (by omega), h2 j]
          unfold zShf
          rw [if_neg (show ¬ (8 : Nat) < 8 by omega)]
          by_cases c1 : j < 3780
          · rw [if_neg (by omega), if_pos c1, if_pos c1]
          · by_cases c2 : j < 4320
            · rw [if_pos (by omega), if_neg c1, if_pos c2]
            · rw [if_neg (by omega), if_neg c1, if_neg c1, if_neg c2]
      | succ d ih =>
        intro i D1 hi h1 h2
        have hi2 : i < 3780 := by omega
        have hn : ¬ 5400 ≤ i + 540 := by omega
        have hn2 : ¬ 5400 ≤ i := by omega
        have ev : D1 174 (i + 540) = D 174 (i + 540) := by rw [h2, if_neg (by omega)]
        obtain ⟨D', e, r⟩ := ih (i + 1) (zw D1 174 i (D 174 (i + 540))) (by omega) (fun a a1 => by rw [zw_row a1]; exact h1 a a1) (fun j => by
          by_cases ej : j = i
          · rw [ej, zw_self, if_pos (by omega)]
          · rw [zw_ne (by omega), h2 j]
            exact zif_congr (by omega))
        refine ⟨D', ?_, r⟩
        rw [← e]
        refine b283_11.trans ?_
        have e174 : zrow D1 172 s 174 = D1 174 := zrow_ne (by omega)
        simp (disch := first | assumption | omega) only [↓zn_l, zl_0, zl_1, zl_2, zl_3, zl_4, zl_5, zl_6, zl_7, zl_8, zl_9, zl_10, zl_11, zl_12, zl_13, zl_14, zl_15, zl_16, zl_17, zl_18, zl_19, zl_20, zl_21, zl_22, zl_23, zl_24, zl_25, zl_26, zl_27, zl_28, zl_29, zl_30, zl_31, zl_32, zl_36, zl_46, zl_48, zl_50, zl_57, zl_63, zl_64, zl_72, zl_97, zl_99, zl_100, zl_101, zl_122, zl_127, zl_200, zl_255, zl_406, zl_534, zl_540, zl_600, zl_9999, zl_33, zl_34, zl_35, zl_37, zl_38, zl_39, zl_40, zl_41, zl_42, zl_43, zl_44, zl_45, zl_47, zl_49, zl_52, zl_53, zl_54, zl_55, zl_58, zl_59, zl_60, zl_61, zl_62, zl_65, zl_70, zl_71, zl_98, zl_102, zl_103, zl_104, zl_105, zl_110, zl_111, zl_115, zl_120, zl_123, zl_126, zl_128, zl_256, zl_1000, zl_1024, zcon_inl, zcon_inr, Option.toList_some, Option.toList_none, List.cons_append, List.nil_append, List.append_nil, Nat.add_zero, zbind_some, zi_toNat, zi_lt, zi_inj, zi_add, zi_mul, zi_ne_zn, zn_ne_zi, zn_lt_zi, zi_lt_zn, Nat.not_lt_zero, false_or, if_true, if_false, true_or, or_false, Nat.reduceEqDiff, eq_self, zl_3780, hi2, hn, hn2, e174, ev, zw_so]
    obtain ⟨D', e, r⟩ := loop 3780 0 (zth D 0) (by omega) (fun _ _ => rfl) (fun j => by rw [zth_a (by omega), if_neg (by omega)])
    refine ⟨D', ?_, r⟩
    rw [← e]
    refine b283_0.trans ?_
    have e14 : zrow (zth D 0) 172 s 168 14 = zi 8 := by rw [e168s, zth_f (by omega)]; exact hD
    simp (disch := first | assumption | omega) only [↓zn_l, zl_0, zl_1, zl_2, zl_3, zl_4, zl_5, zl_6, zl_7, zl_8, zl_9, zl_10, zl_11, zl_12, zl_13, zl_14, zl_15, zl_16, zl_17, zl_18, zl_19, zl_20, zl_21, zl_22, zl_23, zl_24, zl_25, zl_26, zl_27, zl_28, zl_29, zl_30, zl_31, zl_32, zl_36, zl_46, zl_48, zl_50, zl_57, zl_63, zl_64, zl_72, zl_97, zl_99, zl_100, zl_101, zl_122, zl_127, zl_200, zl_255, zl_406, zl_534, zl_540, zl_600, zl_9999, zl_33, zl_34, zl_35, zl_37, zl_38, zl_39, zl_40, zl_41, zl_42, zl_43, zl_44, zl_45, zl_47, zl_49, zl_52, zl_53, zl_54, zl_55, zl_58, zl_59, zl_60, zl_61, zl_62, zl_65, zl_70, zl_71, zl_98, zl_102, zl_103, zl_104, zl_105, zl_110, zl_111, zl_115, zl_120, zl_123, zl_126, zl_128, zl_256, zl_1000, zl_1024, zcon_inl, zcon_inr, Option.toList_some, Option.toList_none, List.cons_append, List.nil_append, List.append_nil, Nat.add_zero, zbind_some, zi_toNat, zi_lt, zi_inj, zi_add, zi_mul, zi_ne_zn, zn_ne_zi, zn_lt_zi, zi_lt_zn, Nat.not_lt_zero, false_or, if_true, if_false, true_or, or_false, Nat.reduceEqDiff, eq_self, e14]
  · obtain ⟨D2, e2, F2, G2⟩ := m284 (X := X) (D := zth D 0) (s := s) (O := O) (k := k) (st := h) (by omega)
    have e14 : zrow (zth D 0) 172 s 168 14 = zi h := by rw [e168s, zth_f (by omega)]; exact hD
    have e214 : D2 168 14 = zi h := by rw [F2 168 (by omega), zth_f (by omega)]; exact hD
    refine ⟨zw D2 168 14 (zi (h + 1)), ?_, ?_⟩
    · rw [← fin D2 h zJ e214 (by omega)]
      refine b283_0.trans ?_
      simp (disch := first | assumption | omega) only [↓zn_l, zl_0, zl_1, zl_2, zl_3, zl_4, zl_5, zl_6, zl_7, zl_8, zl_9, zl_10, zl_11, zl_12, zl_13, zl_14, zl_15, zl_16, zl_17, zl_18, zl_19, zl_20, zl_21, zl_22, zl_23, zl_24, zl_25, zl_26, zl_27, zl_28, zl_29, zl_30, zl_31, zl_32, zl_36, zl_46, zl_48, zl_50, zl_57, zl_63, zl_64, zl_72, zl_97, zl_99, zl_100, zl_101, zl_122, zl_127, zl_200, zl_255, zl_406, zl_534, zl_540, zl_600, zl_9999, zl_33, zl_34, zl_35, zl_37, zl_38, zl_39, zl_40, zl_41, zl_42, zl_43, zl_44, zl_45, zl_47, zl_49, zl_52, zl_53, zl_54, zl_55, zl_58, zl_59, zl_60, zl_61, zl_62, zl_65, zl_70, zl_71, zl_98, zl_102, zl_103, zl_104, zl_105, zl_110, zl_111, zl_115, zl_120, zl_123, zl_126, zl_128, zl_256, zl_1000, zl_1024, zcon_inl, zcon_inr, Option.toList_some, Option.toList_none, List.cons_append, List.nil_append, List.append_nil, Nat.add_zero, zbind_some, zi_toNat, zi_lt, zi_inj, zi_add, zi_mul, zi_ne_zn, zn_ne_zi, zn_lt_zi, zi_lt_zn, Nat.not_lt_zero, false_or, if_true, if_false, true_or, or_false, Nat.reduceEqDiff, eq_self, e14, he, Nat.zero_add, e2]
    · refine ⟨⟨fun a a1 a2 _ => by rw [zw_row a1, F2 a a2, zth_a a1], fun j j1 j2 _ _ => by rw [zw_ne (by omega), F2 168 (by omega), zth_f j1]⟩, by rw [zw_ne (by omega), F2 168 (by omega)]; exact zth_0 _ _, by rw [zw_self]; congr 1; omega, fun j => ?_⟩
      rw [zw_row (by omega), G2 j, zth_a (by omega)]
      unfold zShf
      rw [if_pos (show h < 8 by omega)]
end
