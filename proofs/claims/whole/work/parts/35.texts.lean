/-! What the writer writes. -/
def uTx1 (D : ZD2) (v : Int32) : ZD2 := zw (zw D 19 (D 18 1).toNatClampNeg (v &&& zi 255)) 18 1 (D 18 1 + zi 1)
def uTxs (D : ZD2) : List Int32 → ZD2
  | [] => D
  | v :: w => uTxs (uTx1 D v) w
theorem uTxs_app (D : ZD2) : ∀ (w w' : List Int32), uTxs D (w ++ w') = uTxs (uTxs D w) w'
  | [], _ => rfl
  | v :: w, w' => uTxs_app (uTx1 D v) w w'
theorem uTx1_len {D : ZD2} {n : Nat} {v : Int32} (h : D 18 1 = zi n) : uTx1 D v 18 1 = zi (n + 1) := by
  unfold uTx1
  rw [zw_self, h, zi_add]
theorem uTxs_len {D : ZD2} {n : Nat} : ∀ {w : List Int32}, D 18 1 = zi n → uTxs D w 18 1 = zi (n + w.length)
  | [], h => h
  | v :: w, h => by
    rw [uTxs, uTxs_len (uTx1_len h), List.length_cons]
    congr 1
    omega
theorem uTxs_o {a : Nat} (h8 : a ≠ 18) (h9 : a ≠ 19) : ∀ (w : List Int32) (D : ZD2), uTxs D w a = D a
  | [], _ => rfl
  | v :: w, D => by
    rw [uTxs, uTxs_o h8 h9 w]
    unfold uTx1
    rw [zw_row h8, zw_row h9]
/-- the text in the class's hands -/
def zTX (D : ZD2) (t : List Int32) : Prop := D 18 1 = zi t.length ∧ ∀ i v, t[i]? = some v → D 19 i = v &&& zi 255
theorem zTX_1 {D : ZD2} {t : List Int32} {v : Int32} (hn : t.length < 2147483648) (h : zTX D t) : zTX (uTx1 D v) (t ++ [v]) := by
  refine ⟨?_, fun i x hx => ?_⟩
  · rw [uTx1_len h.1, List.length_append]
    rfl
  · unfold uTx1
    rw [zw_row (by omega), h.1, zi_toNat hn]
    by_cases hi : i < t.length
    · rw [List.getElem?_append_left hi] at hx
      rw [zw_ne (by omega)]
      exact h.2 i x hx
    · rw [List.getElem?_append_right (by omega)] at hx
      by_cases e : i = t.length
      · subst e
        rw [Nat.sub_self] at hx
        rw [zw_self]
        have : v = x := by simpa using hx
        rw [this]
      · obtain ⟨d, hd⟩ : ∃ d, i - t.length = d + 1 := ⟨i - t.length - 1, by omega⟩
        rw [hd] at hx
        simp at hx
theorem zTX_s : ∀ {w t : List Int32} {D : ZD2}, t.length + w.length < 2147483648 → zTX D t → zTX (uTxs D w) (t ++ w)
  | [], t, D, _, h => by rw [List.append_nil]; exact h
  | v :: w, t, D, hn, h => by
    rw [List.length_cons] at hn
    have := zTX_s (w := w) (t := t ++ [v]) (D := uTx1 D v) (by rw [List.length_append]; show t.length + 1 + w.length < _; omega) (zTX_1 (by omega) h)
    rw [List.append_assoc] at this
    exact this
def sLet (name : Int32) (s : Nat) : List Int32 := if 0 < (name >>> (zi s &&& 31)) &&& 31 then [97 + ((name >>> (zi s &&& 31)) &&& 31) - 1] else []
def sName (name : Int32) : List Int32 := sLet name 25 ++ (sLet name 20 ++ (sLet name 15 ++ (sLet name 10 ++ (sLet name 5 ++ sLet name 0))))
theorem sLet_len (name : Int32) (s : Nat) : (sLet name s).length ≤ 1 := by
  unfold sLet
  split <;> simp
theorem sName_len (name : Int32) : (sName name).length ≤ 6 := by
  have h1 := sLet_len name 25
  have h2 := sLet_len name 20
  have h3 := sLet_len name 15
  have h4 := sLet_len name 10
  have h5 := sLet_len name 5
  have h6 := sLet_len name 0
  simp only [sName, List.length_append]
  omega
def sNum (q : Nat) : List Int32 := (if q < 100 then [] else [zi (48 + q / 100)]) ++ ((if q < 10 then [] else [zi (48 + (q / 10 - q / 10 / 10 * 10))]) ++ [zi (48 + (q - q / 10 * 10))])
theorem sNum_len (q : Nat) : (sNum q).length ≤ 3 := by
  unfold sNum
  (repeat' split) <;> simp
def sLetter (T : ZD2) (r : Nat) : Int32 := if sIn T r then (if sSh T r then zi 115 else if sDirty T (sFr T r) then zi 100 else zi 105) else zi 111
def sPage (T : ZD2) (r : Nat) : List Int32 := [sLetter T r] ++ ((if sPin T r then [zi 33] else []) ++ (if sSold T r then [zi 42] else []))
theorem sPage_len (T : ZD2) (r : Nat) : (sPage T r).length ≤ 3 := by
  unfold sPage
  cases sPin T r <;> cases sSold T r <;> simp
section
variable {X : ZX} {D T : ZD2} {O : ZO2} {k : Nat × Nat × Nat} {m n : Nat}
theorem uTx1_M {v : Int32} (hm : 20 ≤ m) : uTx1 (zmt D m T) v = zmt (uTx1 D v) m T := by
  unfold uTx1
  rw [show zmt D m T 18 = D 18 from zmt_o (by omega), zw_Mo (by omega), zw_Mo (by omega)]
theorem c3 {v : Int32} (hn : D 18 1 = zi n) (h : n < 1024) : zev X 3 0 [.ref 18, .int v] [] (zHP D O, k) = some (.inl none, (zHP (uTx1 D v) O, k)) := by
  have h2 : ¬ 1024 ≤ n := by omega
  rw [b3_0 zisB_18]
  have e : Int32.ofNat 1024 = zi 1024 := rfl
  simp (disch := first | assumption | omega) only [hn, e, ↓zn_l, zl_0, zl_1, zl_2, zl_3, zl_4, zl_5, zl_6, zl_7, zl_8, zl_9, zl_10, zl_11, zl_12, zl_13, zl_14, zl_15, zl_16, zl_17, zl_18, zl_19, zl_20, zl_21, zl_22, zl_23, zl_24, zl_25, zl_26, zl_27, zl_28, zl_29, zl_30, zl_31, zl_32, zl_36, zl_46, zl_48, zl_50, zl_57, zl_63, zl_64, zl_72, zl_97, zl_99, zl_100, zl_101, zl_122, zl_127, zl_200, zl_255, zl_406, zl_534, zl_540, zl_600, zl_9999, zl_33, zl_34, zl_35, zl_37, zl_38, zl_39, zl_40, zl_41, zl_42, zl_43, zl_44, zl_45, zl_47, zl_49, zl_52, zl_53, zl_54, zl_55, zl_58, zl_59, zl_60, zl_61, zl_62, zl_65, zl_70, zl_71, zl_98, zl_102, zl_103, zl_104, zl_105, zl_110, zl_111, zl_115, zl_120, zl_123, zl_126, zl_128, zl_256, zl_1000, zl_1024, zcon_inl, zcon_inr, Option.toList_some, Option.toList_none, List.cons_append, List.nil_append, List.append_nil, Nat.add_zero, zbind_some, zi_toNat, zi_lt, zi_inj, zi_add, zi_mul, zi_ne_zn, zn_ne_zi, zn_lt_zi, zi_lt_zn, Nat.not_lt_zero, false_or, if_true, if_false, true_or, or_false, h, h2]
  unfold uTx1
  rw [hn, zi_toNat (by omega)]
  simp (disch := first | assumption | omega) only [zw_ne, hn, zi_add]
theorem c3M {v : Int32} (hm : 20 ≤ m) (hn : D 18 1 = zi n) (h : n < 1024) : zev X 3 0 [.ref 18, .int v] [] (zHP (zmt D m T) O, k) = some (.inl none, (zHP (zmt (uTx1 D v) m T) O, k)) := by
  rw [c3 (n := n) (by rw [zmt_o (by omega)]; exact hn) h, uTx1_M hm]
theorem c8 (hm : 20 ≤ m) : zev X 8 0 [.ref 18] [] (zHP (zmt D m T) O, k) = some (.inl none, (zHP (zmt (zw D 18 1 (zi 0)) m T) O, k)) := by
  rw [b8_0 zisB_18, zl_0, zw_Mo (by omega)]
theorem c99s {w s5 : Int32} {s : Nat} {v : Value} (hm : 20 ≤ m) (hs : s < 2147483648) (h5 : zi s + -5 = s5) (hn : D 18 1 = zi n) (h : n < 1024) : ∃ v', zev X 99 3 [.ref 17, .int w, .int (zi s), v] [] (zHP (zmt D m T) O, k) = zev X 99 3 [.ref 17, .int w, .int s5, v'] [] (zHP (zmt (uTxs D (sLet w s)) m T) O, k) := by
  refine ⟨.int ((w >>> (zi s &&& 31)) &&& 31), ?_⟩
  rw [← h5]
  refine b99_3.trans ?_
  rw [if_neg (by rw [zl_0, zi_lt hs (by omega)]; omega)]
  unfold sLet
  by_cases h1 : 0 < (w >>> (zi s &&& 31)) &&& 31
  · rw [if_pos h1, if_pos h1]
    rw [c3M hm hn h, zcon_inl]
    exact b99_31
  · rw [if_neg h1, if_neg h1]
    exact b99_31
theorem c99 {w : Int32} (hm : 20 ≤ m) (hn : D 18 1 = zi n) (h : n + 6 ≤ 1024) : zev X 99 0 [.ref 17, .int w, zJ, zJ] [] (zHP (zmt D m T) O, k) = some (.inl none, (zHP (zmt (uTxs D (sName w)) m T) O, k)) := by
  have h1 := sLet_len w 25
  have h2 := sLet_len w 20
  have h3 := sLet_len w 15
  have h4 := sLet_len w 10
  have h5 := sLet_len w 5
  have h6 := sLet_len w 0
  have g1 := uTxs_len (w := sLet w 25) hn
  have g2 := uTxs_len (w := sLet w 20) g1
  have g3 := uTxs_len (w := sLet w 15) g2
  have g4 := uTxs_len (w := sLet w 10) g3
  have g5 := uTxs_len (w := sLet w 5) g4
  obtain ⟨v1, e1⟩ := c99s (X := X) (O := O) (k := k) (T := T) (w := w) (s5 := zi 20) (s := 25) (v := zJ) hm (by omega) rfl hn (by omega)
  obtain ⟨v2, e2⟩ := c99s (X := X) (O := O) (k := k) (T := T) (w := w) (s5 := zi 15) (s := 20) (v := v1) hm (by omega) rfl g1 (by omega)
  obtain ⟨v3, e3⟩ := c99s (X := X) (O := O) (k := k) (T := T) (w := w) (s5 := zi 10) (s := 15) (v := v2) hm (by omega) rfl g2 (by omega)
  obtain ⟨v4, e4⟩ := c99s (X := X) (O := O) (k := k) (T := T) (w := w) (s5 := zi 5) (s := 10) (v := v3) hm (by omega) rfl g3 (by omega)
  obtain ⟨v5, e5⟩ := c99s (X := X) (O := O) (k := k) (T := T) (w := w) (s5 := zi 0) (s := 5) (v := v4) hm (by omega) rfl g4 (by omega)
  obtain ⟨v6, e6⟩ := c99s (X := X) (O := O) (k := k) (T := T) (w := w) (s5 := -5) (s := 0) (v := v5) hm (by omega) rfl g5 (by omega)
  rw [b99_0, zl_25, e1, e2, e3, e4, e5, e6]
  refine b99_3.trans ?_
  rw [if_pos (by decide)]
  simp only [sName, uTxs_app]
theorem c103 {q : Nat} (hm : 20 ≤ m) (hq : q < 2147483600) (hn : D 18 1 = zi n) (h : n + 3 ≤ 1024) : zev X 103 0 [.ref 17, .int (zi q)] [] (zHP (zmt D m T) O, k) = some (.inl none, (zHP (zmt (uTxs D (sNum q)) m T) O, k)) := by
  have e2 : ∀ (D' : ZD2) (n' : Nat), D' 18 1 = zi n' → n' < 1024 → zev X 103 43 [.ref 17, .int (zi q)] [] (zHP (zmt D' m T) O, k) = some (.inl none, (zHP (zmt (uTxs D' [zi (48 + (q - q / 10 * 10))]) m T) O, k)) := by
    intro D' n' h1 h2
    have hle : q / 10 * 10 ≤ q := Nat.div_mul_le_self q 10
    rw [b103_43, zl_48, zl_10, zi_div (by omega) (by omega), zi_mul, zi_sub hle (by omega), zi_add, c3M hm h1 h2, zcon_inl]
    exact b103_57
  have e1 : ∀ (D' : ZD2) (n' : Nat), D' 18 1 = zi n' → n' + 1 < 1024 → zev X 103 20 [.ref 17, .int (zi q)] [] (zHP (zmt D' m T) O, k) = some (.inl none, (zHP (zmt (uTxs D' ((if q < 10 then [] else [zi (48 + (q / 10 - q / 10 / 10 * 10))]) ++ [zi (48 + (q - q / 10 * 10))])) m T) O, k)) := by
    intro D' n' h1 h2
    have hle : q / 10 / 10 * 10 ≤ q / 10 := Nat.div_mul_le_self _ 10
    have hlt : q / 10 ≤ q := Nat.div_le_self q 10
    rw [b103_20, zl_10]
    by_cases h3 : q < 10
    · rw [if_pos (by rw [zi_lt (by omega) (by omega)]; exact h3), if_pos h3]
      exact e2 D' n' h1 (by omega)
    · rw [if_neg (by rw [zi_lt (by omega) (by omega)]; exact h3), if_neg h3]
      rw [zl_48, zi_div (by omega) (by omega), zi_div (by omega) (by omega), zi_mul, zi_sub hle (by omega), zi_add, c3M hm h1 (by omega), zcon_inl]
      exact e2 _ (n' + 1) (uTx1_len h1) (by omega)
  rw [b103_0, zl_100]
  unfold sNum
  by_cases h3 : q < 100
  · rw [if_pos (by rw [zi_lt (by omega) (by omega)]; exact h3), if_pos h3]
    exact e1 D n hn (by omega)
  · rw [if_neg (by rw [zi_lt (by omega) (by omega)]; exact h3), if_neg h3]
    rw [zl_48, zi_div (by omega) (by omega), zi_add, c3M hm hn (by omega), zcon_inl]
    exact e1 _ (n + 1) (uTx1_len hn) (by omega)
theorem c101 {r : Nat} (hm : zisM m) (hr : r < 72) (hz : zAt T r) : zev X 101 0 [.ref m, .int (zi r)] [] (zHP (zmt D m T) O, k) = some (.inl (some (.int (sLetter T r))), (zHP (zmt D m T) O, k)) := by
  simp (disch := first | assumption | omega) only [b101_0, c22, b101_5, c37, b101_16, tg3, b101_32, ↓zn_l, zl_0, zl_1, zl_2, zl_3, zl_4, zl_5, zl_6, zl_7, zl_8, zl_9, zl_10, zl_11, zl_12, zl_13, zl_14, zl_15, zl_16, zl_17, zl_18, zl_19, zl_20, zl_21, zl_22, zl_23, zl_24, zl_25, zl_26, zl_27, zl_28, zl_29, zl_30, zl_31, zl_32, zl_36, zl_46, zl_48, zl_50, zl_57, zl_63, zl_64, zl_72, zl_97, zl_99, zl_100, zl_101, zl_122, zl_127, zl_200, zl_255, zl_406, zl_534, zl_540, zl_600, zl_9999, zl_33, zl_34, zl_35, zl_37, zl_38, zl_39, zl_40, zl_41, zl_42, zl_43, zl_44, zl_45, zl_47, zl_49, zl_52, zl_53, zl_54, zl_55, zl_58, zl_59, zl_60, zl_61, zl_62, zl_65, zl_70, zl_71, zl_98, zl_102, zl_103, zl_104, zl_105, zl_110, zl_111, zl_115, zl_120, zl_123, zl_126, zl_128, zl_256, zl_1000, zl_1024, zcon_inl, zcon_inr, Option.toList_some, Option.toList_none, List.cons_append, List.nil_append, List.append_nil, Nat.add_zero, zbind_some, zi_toNat, zi_lt, zi_inj, zi_add, zi_mul, zi_ne_zn, zn_ne_zi, zn_lt_zi, zi_lt_zn, Nat.not_lt_zero, false_or, if_true, if_false, true_or, or_false, zb_0]
  unfold sLetter
  cases h : sIn T r
  · simp
  · obtain ⟨h1, h2⟩ := sFr_of hz h
    simp (disch := first | assumption | omega) only [h2, c41, b101_35, ↓zn_l, zl_0, zl_1, zl_2, zl_3, zl_4, zl_5, zl_6, zl_7, zl_8, zl_9, zl_10, zl_11, zl_12, zl_13, zl_14, zl_15, zl_16, zl_17, zl_18, zl_19, zl_20, zl_21, zl_22, zl_23, zl_24, zl_25, zl_26, zl_27, zl_28, zl_29, zl_30, zl_31, zl_32, zl_36, zl_46, zl_48, zl_50, zl_57, zl_63, zl_64, zl_72, zl_97, zl_99, zl_100, zl_101, zl_122, zl_127, zl_200, zl_255, zl_406, zl_534, zl_540, zl_600, zl_9999, zl_33, zl_34, zl_35, zl_37, zl_38, zl_39, zl_40, zl_41, zl_42, zl_43, zl_44, zl_45, zl_47, zl_49, zl_52, zl_53, zl_54, zl_55, zl_58, zl_59, zl_60, zl_61, zl_62, zl_65, zl_70, zl_71, zl_98, zl_102, zl_103, zl_104, zl_105, zl_110, zl_111, zl_115, zl_120, zl_123, zl_126, zl_128, zl_256, zl_1000, zl_1024, zcon_inl, zcon_inr, Option.toList_some, Option.toList_none, List.cons_append, List.nil_append, List.append_nil, Nat.add_zero, zbind_some, zi_toNat, zi_lt, zi_inj, zi_add, zi_mul, zi_ne_zn, zn_ne_zi, zn_lt_zi, zi_lt_zn, Nat.not_lt_zero, false_or, if_true, if_false, true_or, or_false, zb_0]
    cases sSh T r
    · cases sDirty T (sFr T r) <;> simp
    · simp
theorem c100 {r : Nat} (hm : zisM m) (h20 : 20 ≤ m) (hr : r < 72) (hz : zAt T r) (hn : D 18 1 = zi n) (h : n + 3 ≤ 1024) : zev X 100 0 [.ref 17, .ref m, .int (zi r)] [] (zHP (zmt D m T) O, k) = some (.inl none, (zHP (zmt (uTxs D (sPage T r)) m T) O, k)) := by
  have e3 : ∀ (D' : ZD2) (n' : Nat), D' 18 1 = zi n' → n' < 1024 → zev X 100 29 [.ref 17, .ref m, .int (zi r)] [] (zHP (zmt D' m T) O, k) = some (.inl none, (zHP (zmt (uTxs D' (if sSold T r then [zi 42] else [])) m T) O, k)) := by
    intro D' n' h1 h2
    have := @c3M X D' T O k m n' (zi 42) h20 h1 h2
    simp (disch := first | assumption | omega) only [b100_29, c43, b100_34, ↓zn_l, zl_0, zl_1, zl_2, zl_3, zl_4, zl_5, zl_6, zl_7, zl_8, zl_9, zl_10, zl_11, zl_12, zl_13, zl_14, zl_15, zl_16, zl_17, zl_18, zl_19, zl_20, zl_21, zl_22, zl_23, zl_24, zl_25, zl_26, zl_27, zl_28, zl_29, zl_30, zl_31, zl_32, zl_36, zl_46, zl_48, zl_50, zl_57, zl_63, zl_64, zl_72, zl_97, zl_99, zl_100, zl_101, zl_122, zl_127, zl_200, zl_255, zl_406, zl_534, zl_540, zl_600, zl_9999, zl_33, zl_34, zl_35, zl_37, zl_38, zl_39, zl_40, zl_41, zl_42, zl_43, zl_44, zl_45, zl_47, zl_49, zl_52, zl_53, zl_54, zl_55, zl_58, zl_59, zl_60, zl_61, zl_62, zl_65, zl_70, zl_71, zl_98, zl_102, zl_103, zl_104, zl_105, zl_110, zl_111, zl_115, zl_120, zl_123, zl_126, zl_128, zl_256, zl_1000, zl_1024, zcon_inl, zcon_inr, Option.toList_some, Option.toList_none, List.cons_append, List.nil_append, List.append_nil, Nat.add_zero, zbind_some, zb_0, this, b100_46]
    cases sSold T r <;> simp [uTxs]
  have e2 : ∀ (D' : ZD2) (n' : Nat), D' 18 1 = zi n' → n' + 1 < 1024 → zev X 100 12 [.ref 17, .ref m, .int (zi r)] [] (zHP (zmt D' m T) O, k) = some (.inl none, (zHP (zmt (uTxs D' ((if sPin T r then [zi 33] else []) ++ (if sSold T r then [zi 42] else []))) m T) O, k)) := by
    intro D' n' h1 h2
    have := @c3M X D' T O k m n' (zi 33) h20 h1 (by omega)
    simp (disch := first | assumption | omega) only [b100_12, c27, b100_17, ↓zn_l, zl_0, zl_1, zl_2, zl_3, zl_4, zl_5, zl_6, zl_7, zl_8, zl_9, zl_10, zl_11, zl_12, zl_13, zl_14, zl_15, zl_16, zl_17, zl_18, zl_19, zl_20, zl_21, zl_22, zl_23, zl_24, zl_25, zl_26, zl_27, zl_28, zl_29, zl_30, zl_31, zl_32, zl_36, zl_46, zl_48, zl_50, zl_57, zl_63, zl_64, zl_72, zl_97, zl_99, zl_100, zl_101, zl_122, zl_127, zl_200, zl_255, zl_406, zl_534, zl_540, zl_600, zl_9999, zl_33, zl_34, zl_35, zl_37, zl_38, zl_39, zl_40, zl_41, zl_42, zl_43, zl_44, zl_45, zl_47, zl_49, zl_52, zl_53, zl_54, zl_55, zl_58, zl_59, zl_60, zl_61, zl_62, zl_65, zl_70, zl_71, zl_98, zl_102, zl_103, zl_104, zl_105, zl_110, zl_111, zl_115, zl_120, zl_123, zl_126, zl_128, zl_256, zl_1000, zl_1024, zcon_inl, zcon_inr, Option.toList_some, Option.toList_none, List.cons_append, List.nil_append, List.append_nil, Nat.add_zero, zbind_some, zb_0, this]
    cases sPin T r
    · simp only [if_true, Bool.false_eq_true, if_false, List.nil_append]
      exact e3 D' n' h1 (by omega)
    · simp only [Bool.true_eq_false, if_true, if_false, List.cons_append, List.nil_append]
      exact e3 _ (n' + 1) (uTx1_len h1) (by omega)
  have := @c3M X D T O k m n (sLetter T r) h20 hn (by omega)
  simp (disch := first | assumption | omega) only [b100_0, c101, b100_9, ↓zn_l, zl_0, zl_1, zl_2, zl_3, zl_4, zl_5, zl_6, zl_7, zl_8, zl_9, zl_10, zl_11, zl_12, zl_13, zl_14, zl_15, zl_16, zl_17, zl_18, zl_19, zl_20, zl_21, zl_22, zl_23, zl_24, zl_25, zl_26, zl_27, zl_28, zl_29, zl_30, zl_31, zl_32, zl_36, zl_46, zl_48, zl_50, zl_57, zl_63, zl_64, zl_72, zl_97, zl_99, zl_100, zl_101, zl_122, zl_127, zl_200, zl_255, zl_406, zl_534, zl_540, zl_600, zl_9999, zl_33, zl_34, zl_35, zl_37, zl_38, zl_39, zl_40, zl_41, zl_42, zl_43, zl_44, zl_45, zl_47, zl_49, zl_52, zl_53, zl_54, zl_55, zl_58, zl_59, zl_60, zl_61, zl_62, zl_65, zl_70, zl_71, zl_98, zl_102, zl_103, zl_104, zl_105, zl_110, zl_111, zl_115, zl_120, zl_123, zl_126, zl_128, zl_256, zl_1000, zl_1024, zcon_inl, zcon_inr, Option.toList_some, Option.toList_none, List.cons_append, List.nil_append, List.append_nil, Nat.add_zero, zbind_some, this]
  exact e2 _ (n + 1) (uTx1_len hn) (by omega)
end
