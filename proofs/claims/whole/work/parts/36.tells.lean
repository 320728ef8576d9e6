/-! The three texts. -/
def zcat (f : Nat → List Int32) : Nat → Nat → List Int32
  | 0, _ => []
  | d + 1, i => f i ++ zcat f d (i + 1)
theorem zcat_len {f : Nat → List Int32} {b : Nat} (h : ∀ i, (f i).length ≤ b) : ∀ d i, (zcat f d i).length ≤ d * b
  | 0, _ => by simp [zcat]
  | d + 1, i => by
    rw [zcat, List.length_append, Nat.add_mul, Nat.one_mul]
    have := h i
    have := zcat_len h d (i + 1)
    omega
def sPgs (T : ZD2) (p : Nat) : Nat := (T 2 (12 * p + 1)).toNatClampNeg
def sTell1 (T : ZD2) (p : Nat) : List Int32 := sName (T 2 (12 * p + 11)) ++ ([zi 32] ++ (zcat (fun g => sPage T (12 * p + g)) (sPgs T p) 0 ++ (if sEnd T p then [zi 120] else [])))
def sIns (T : ZD2) (f : Nat) : Nat := (T 4 (3 * f)).toNatClampNeg
def sFrm (T : ZD2) (f : Nat) : List Int32 := if sState T f = zi 0 then [zi 46] else if sState T f = zi 2 then [zi 126] else sNum (if sIns T f < 9 then sIns T f else 9)
def sTell2 (T : ZD2) : List Int32 := zcat (sFrm T) (sNf T) 0
def sPr (T : ZD2) (r : Nat) : Nat := (sPrice T r).toNatClampNeg
def sOfr (T : ZD2) (i r : Nat) : List Int32 := (if 0 < i then [zi 32] else []) ++ (sName (T 2 (12 * (r / 12) + 11)) ++ ([zi 46] ++ (sNum (r - r / 12 * 12) ++ ([zi 58] ++ sNum (sPr T r)))))
def sTell3 (T : ZD2) : Nat → List Nat → List Int32
  | _, [] => []
  | i, r :: l => sOfr T i r ++ sTell3 T (i + 1) l
theorem sNum_len2 {q : Nat} (h : q < 100) : (sNum q).length ≤ 2 := by
  unfold sNum
  rw [if_pos h]
  split <;> simp
theorem sOfr_len {T : ZD2} {i r : Nat} : (sOfr T i r).length ≤ 14 := by
  have h1 := sName_len (T 2 (12 * (r / 12) + 11))
  have h2 := sNum_len2 (q := r - r / 12 * 12) (by omega)
  have h3 := sNum_len (sPr T r)
  unfold sOfr
  simp only [List.length_append, List.length_cons, List.length_nil]
  have : (if 0 < i then [zi 32] else []).length ≤ 1 := by split <;> simp
  omega
theorem sTell3_len {T : ZD2} : ∀ (l : List Nat) (i : Nat), (sTell3 T i l).length ≤ 14 * l.length
  | [], _ => by simp [sTell3]
  | r :: l, i => by
    rw [sTell3, List.length_append, List.length_cons]
    have := sOfr_len (T := T) (i := i) (r := r)
    have := sTell3_len (T := T) l (i + 1)
    omega
section
variable {X : ZX} {D T : ZD2} {O : ZO2} {k : Nat × Nat × Nat} {m n : Nat}
theorem c98 {p : Nat} (hm : zisM m) (h20 : 20 ≤ m) (hp : p < 6) (hg : T 2 (12 * p + 1) = zi (sPgs T p)) (hg2 : sPgs T p ≤ 12) (ha : ∀ r, r < 72 → zAt T r) : zev X 98 0 [.ref 17, .ref m, .int (zi p), zJ] [] (zHP (zmt D m T) O, k) = some (.inl none, (zHP (zmt (uTxs (zw D 18 1 (zi 0)) (sTell1 T p)) m T) O, k)) := by
  have eEnd : ∀ (D' : ZD2) (n' : Nat), D' 18 1 = zi n' → n' < 1024 → ∀ v, zev X 98 66 [.ref 17, .ref m, .int (zi p), v] [.int (zb (sEnd T p))] (zHP (zmt D' m T) O, k) = some (.inl none, (zHP (zmt (uTxs D' (if sEnd T p then [zi 120] else [])) m T) O, k)) → True := fun _ _ _ _ _ _ => trivial
  have loop : ∀ d i (D' : ZD2) (n' : Nat), i + d = sPgs T p → D' 18 1 = zi n' → n' + 3 * d + 1 ≤ 1024 → zev X 98 32 [.ref 17, .ref m, .int (zi p), .int (zi i)] [] (zHP (zmt D' m T) O, k) = some (.inl none, (zHP (zmt (uTxs D' (zcat (fun g => sPage T (12 * p + g)) d i ++ (if sEnd T p then [zi 120] else []))) m T) O, k)) := by
    intro d
    induction d with
    | zero =>
      intro i D' n' h h1 h2
      have e : i = sPgs T p := by omega
      have := @c3M X D' T O k m n' (zi 120) h20 h1 (by omega)
      refine (b98_32 hm).trans ?_
      rw [e]
      simp (disch := first | assumption | omega) only [tg2, b98_42, hg, ↓zn_l, zl_0, zl_1, zl_2, zl_3, zl_4, zl_5, zl_6, zl_7, zl_8, zl_9, zl_10, zl_11, zl_12, zl_13, zl_14, zl_15, zl_16, zl_17, zl_18, zl_19, zl_20, zl_21, zl_22, zl_23, zl_24, zl_25, zl_26, zl_27, zl_28, zl_29, zl_30, zl_31, zl_32, zl_36, zl_46, zl_48, zl_50, zl_57, zl_63, zl_64, zl_72, zl_97, zl_99, zl_100, zl_101, zl_122, zl_127, zl_200, zl_255, zl_406, zl_534, zl_540, zl_600, zl_9999, zl_33, zl_34, zl_35, zl_37, zl_38, zl_39, zl_40, zl_41, zl_42, zl_43, zl_44, zl_45, zl_47, zl_49, zl_52, zl_53, zl_54, zl_55, zl_58, zl_59, zl_60, zl_61, zl_62, zl_65, zl_70, zl_71, zl_98, zl_102, zl_103, zl_104, zl_105, zl_110, zl_111, zl_115, zl_120, zl_123, zl_126, zl_128, zl_256, zl_1000, zl_1024, zcon_inl, zcon_inr, Option.toList_some, Option.toList_none, List.cons_append, List.nil_append, List.append_nil, Nat.add_zero, zbind_some, zi_toNat, zi_lt, zi_inj, zi_add, zi_mul, zi_ne_zn, zn_ne_zi, zn_lt_zi, zi_lt_zn, Nat.not_lt_zero, false_or, if_true, if_false, true_or, or_false, Nat.lt_irrefl, c30, b98_66, zb_0, this, b98_78, zcat]
      cases sEnd T p <;> simp [uTxs]
    | succ d ih =>
      intro i D' n' h h1 h2
      have hi : i < sPgs T p := by omega
      have hz := ha (12 * p + i) (by omega)
      have hl := sPage_len T (12 * p + i)
      have hr : 12 * p + i < 72 := by omega
      have := @c100 X D' T O k m n' (12 * p + i) hm h20 hr hz h1 (by omega)
      refine (b98_32 hm).trans ?_
      simp (disch := first | assumption | omega) only [tg2, b98_42, hg, ↓zn_l, zl_0, zl_1, zl_2, zl_3, zl_4, zl_5, zl_6, zl_7, zl_8, zl_9, zl_10, zl_11, zl_12, zl_13, zl_14, zl_15, zl_16, zl_17, zl_18, zl_19, zl_20, zl_21, zl_22, zl_23, zl_24, zl_25, zl_26, zl_27, zl_28, zl_29, zl_30, zl_31, zl_32, zl_36, zl_46, zl_48, zl_50, zl_57, zl_63, zl_64, zl_72, zl_97, zl_99, zl_100, zl_101, zl_122, zl_127, zl_200, zl_255, zl_406, zl_534, zl_540, zl_600, zl_9999, zl_33, zl_34, zl_35, zl_37, zl_38, zl_39, zl_40, zl_41, zl_42, zl_43, zl_44, zl_45, zl_47, zl_49, zl_52, zl_53, zl_54, zl_55, zl_58, zl_59, zl_60, zl_61, zl_62, zl_65, zl_70, zl_71, zl_98, zl_102, zl_103, zl_104, zl_105, zl_110, zl_111, zl_115, zl_120, zl_123, zl_126, zl_128, zl_256, zl_1000, zl_1024, zcon_inl, zcon_inr, Option.toList_some, Option.toList_none, List.cons_append, List.nil_append, List.append_nil, Nat.add_zero, zbind_some, zi_toNat, zi_lt, zi_inj, zi_add, zi_mul, zi_ne_zn, zn_ne_zi, zn_lt_zi, zi_lt_zn, Nat.not_lt_zero, false_or, if_true, if_false, true_or, or_false, hi, c21, b98_52, this, b98_55]
      rw [ih (i + 1) _ _ (by omega) (uTxs_len h1) (by omega), zcat, List.append_assoc, uTxs_app D']
  have n0 : zw D 18 1 (zi 0) 18 1 = zi 0 := zw_self _ _ _ _
  have hl := sName_len (T 2 (12 * p + 11))
  have n1 := uTxs_len (w := sName (T 2 (12 * p + 11))) n0
  have e1 := @c99 X (zw D 18 1 (zi 0)) T O k m 0 (T 2 (12 * p + 11)) h20 n0 (by omega)
  have e2 := @c3M X _ T O k m _ (zi 32) h20 n1 (by omega)
  have e3 := loop (sPgs T p) 0 _ _ (by omega) (uTx1_len (v := zi 32) n1) (by omega)
  simp (disch := first | assumption | omega) only [b98_0, c8, b98_7, tg2, b98_18, e1, b98_21, e2, b98_30, ↓zn_l, zl_0, zl_1, zl_2, zl_3, zl_4, zl_5, zl_6, zl_7, zl_8, zl_9, zl_10, zl_11, zl_12, zl_13, zl_14, zl_15, zl_16, zl_17, zl_18, zl_19, zl_20, zl_21, zl_22, zl_23, zl_24, zl_25, zl_26, zl_27, zl_28, zl_29, zl_30, zl_31, zl_32, zl_36, zl_46, zl_48, zl_50, zl_57, zl_63, zl_64, zl_72, zl_97, zl_99, zl_100, zl_101, zl_122, zl_127, zl_200, zl_255, zl_406, zl_534, zl_540, zl_600, zl_9999, zl_33, zl_34, zl_35, zl_37, zl_38, zl_39, zl_40, zl_41, zl_42, zl_43, zl_44, zl_45, zl_47, zl_49, zl_52, zl_53, zl_54, zl_55, zl_58, zl_59, zl_60, zl_61, zl_62, zl_65, zl_70, zl_71, zl_98, zl_102, zl_103, zl_104, zl_105, zl_110, zl_111, zl_115, zl_120, zl_123, zl_126, zl_128, zl_256, zl_1000, zl_1024, zcon_inl, zcon_inr, Option.toList_some, Option.toList_none, List.cons_append, List.nil_append, List.append_nil, Nat.add_zero, zbind_some]
  rw [e3]
  simp only [sTell1, uTxs_app]
  rfl
theorem zlk_0 : zlook 22 50 #[(0, 26), (2, 38)] (zi 0) = some 48 := by decide
theorem zlk_1 : zlook 22 50 #[(0, 26), (2, 38)] (zi 1) = some 72 := by decide
theorem zlk_2 : zlook 22 50 #[(0, 26), (2, 38)] (zi 2) = some 60 := by decide
theorem sState_or (T : ZD2) (f : Nat) : sState T f = zi 0 ∨ sState T f = zi 1 ∨ sState T f = zi 2 := by
  unfold sState
  (repeat' split) <;> simp
theorem sFrm_len (T : ZD2) (f : Nat) : (sFrm T f).length ≤ 3 := by
  unfold sFrm
  split
  · simp
  · split
    · simp
    · exact sNum_len _
theorem c102 (hm : zisM m) (h20 : 20 ≤ m) (hn : T 0 0 = zi (sNf T)) (h6 : sNf T ≤ 64) (hi : ∀ f, f < sNf T → T 4 (3 * f) = zi (sIns T f) ∧ sIns T f ≤ 72) : zev X 102 0 [.ref 17, .ref m, zJ] [] (zHP (zmt D m T) O, k) = some (.inl none, (zHP (zmt (uTxs (zw D 18 1 (zi 0)) (sTell2 T)) m T) O, k)) := by
  have loop : ∀ d i (D' : ZD2) (n' : Nat), i + d = sNf T → D' 18 1 = zi n' → n' + 3 * d ≤ 1024 → zev X 102 9 [.ref 17, .ref m, .int (zi i)] [] (zHP (zmt D' m T) O, k) = some (.inl none, (zHP (zmt (uTxs D' (zcat (sFrm T) d i)) m T) O, k)) := by
    intro d
    induction d with
    | zero =>
      intro i D' n' h h1 h2
      have e : i = sNf T := by omega
      refine (b102_9 hm).trans ?_
      rw [e]
      simp (disch := first | assumption | omega) only [c24, b102_14, hn, ↓zn_l, zl_0, zl_1, zl_2, zl_3, zl_4, zl_5, zl_6, zl_7, zl_8, zl_9, zl_10, zl_11, zl_12, zl_13, zl_14, zl_15, zl_16, zl_17, zl_18, zl_19, zl_20, zl_21, zl_22, zl_23, zl_24, zl_25, zl_26, zl_27, zl_28, zl_29, zl_30, zl_31, zl_32, zl_36, zl_46, zl_48, zl_50, zl_57, zl_63, zl_64, zl_72, zl_97, zl_99, zl_100, zl_101, zl_122, zl_127, zl_200, zl_255, zl_406, zl_534, zl_540, zl_600, zl_9999, zl_33, zl_34, zl_35, zl_37, zl_38, zl_39, zl_40, zl_41, zl_42, zl_43, zl_44, zl_45, zl_47, zl_49, zl_52, zl_53, zl_54, zl_55, zl_58, zl_59, zl_60, zl_61, zl_62, zl_65, zl_70, zl_71, zl_98, zl_102, zl_103, zl_104, zl_105, zl_110, zl_111, zl_115, zl_120, zl_123, zl_126, zl_128, zl_256, zl_1000, zl_1024, zcon_inl, zcon_inr, Option.toList_some, Option.toList_none, List.cons_append, List.nil_append, List.append_nil, Nat.add_zero, zbind_some, zi_toNat, zi_lt, zi_inj, zi_add, zi_mul, zi_ne_zn, zn_ne_zi, zn_lt_zi, zi_lt_zn, Nat.not_lt_zero, false_or, if_true, if_false, true_or, or_false, Nat.lt_irrefl, zcat, uTxs]
    | succ d ih =>
      intro i D' n' h h1 h2
      have hlt : i < sNf T := by omega
      have h64 : i < 64 := by omega
      obtain ⟨hI, hI2⟩ := hi i hlt
      have hl := sFrm_len T i
      have step : ∀ w, sFrm T i = w → zev X 102 90 [.ref 17, .ref m, .int (zi i)] [] (zHP (zmt (uTxs D' w) m T) O, k) = some (.inl none, (zHP (zmt (uTxs D' (zcat (sFrm T) (d + 1) i)) m T) O, k)) := by
        intro w hw
        rw [hw] at hl
        rw [b102_90, zl_1, zi_add, ih (i + 1) _ _ (by omega) (uTxs_len h1) (by omega), zcat, hw, uTxs_app D']
      refine (b102_9 hm).trans ?_
      simp (disch := first | assumption | omega) only [c24, b102_14, hn, ↓zn_l, zl_0, zl_1, zl_2, zl_3, zl_4, zl_5, zl_6, zl_7, zl_8, zl_9, zl_10, zl_11, zl_12, zl_13, zl_14, zl_15, zl_16, zl_17, zl_18, zl_19, zl_20, zl_21, zl_22, zl_23, zl_24, zl_25, zl_26, zl_27, zl_28, zl_29, zl_30, zl_31, zl_32, zl_36, zl_46, zl_48, zl_50, zl_57, zl_63, zl_64, zl_72, zl_97, zl_99, zl_100, zl_101, zl_122, zl_127, zl_200, zl_255, zl_406, zl_534, zl_540, zl_600, zl_9999, zl_33, zl_34, zl_35, zl_37, zl_38, zl_39, zl_40, zl_41, zl_42, zl_43, zl_44, zl_45, zl_47, zl_49, zl_52, zl_53, zl_54, zl_55, zl_58, zl_59, zl_60, zl_61, zl_62, zl_65, zl_70, zl_71, zl_98, zl_102, zl_103, zl_104, zl_105, zl_110, zl_111, zl_115, zl_120, zl_123, zl_126, zl_128, zl_256, zl_1000, zl_1024, zcon_inl, zcon_inr, Option.toList_some, Option.toList_none, List.cons_append, List.nil_append, List.append_nil, Nat.add_zero, zbind_some, zi_toNat, zi_lt, zi_inj, zi_add, zi_mul, zi_ne_zn, zn_ne_zi, zn_lt_zi, zi_lt_zn, Nat.not_lt_zero, false_or, if_true, if_false, true_or, or_false, hlt, c25]
      refine b102_22.trans ?_
      rcases sState_or T i with hs | hs | hs
      · have := @c3M X D' T O k m n' (zi 46) h20 h1 (by omega)
        have es : sFrm T i = [zi 46] := by unfold sFrm; rw [if_pos hs]
        rw [hs, zlk_0]
        simp (disch := first | assumption | omega) only [↓zn_l, zl_0, zl_1, zl_2, zl_3, zl_4, zl_5, zl_6, zl_7, zl_8, zl_9, zl_10, zl_11, zl_12, zl_13, zl_14, zl_15, zl_16, zl_17, zl_18, zl_19, zl_20, zl_21, zl_22, zl_23, zl_24, zl_25, zl_26, zl_27, zl_28, zl_29, zl_30, zl_31, zl_32, zl_36, zl_46, zl_48, zl_50, zl_57, zl_63, zl_64, zl_72, zl_97, zl_99, zl_100, zl_101, zl_122, zl_127, zl_200, zl_255, zl_406, zl_534, zl_540, zl_600, zl_9999, zl_33, zl_34, zl_35, zl_37, zl_38, zl_39, zl_40, zl_41, zl_42, zl_43, zl_44, zl_45, zl_47, zl_49, zl_52, zl_53, zl_54, zl_55, zl_58, zl_59, zl_60, zl_61, zl_62, zl_65, zl_70, zl_71, zl_98, zl_102, zl_103, zl_104, zl_105, zl_110, zl_111, zl_115, zl_120, zl_123, zl_126, zl_128, zl_256, zl_1000, zl_1024, zcon_inl, zcon_inr, Option.toList_some, Option.toList_none, List.cons_append, List.nil_append, List.append_nil, Nat.add_zero, zbind_some, b102_48, this, b102_57]
        exact step _ es
      · have es : sFrm T i = sNum (if sIns T i < 9 then sIns T i else 9) := by
          unfold sFrm
          rw [hs, if_neg (by rw [zi_inj (by omega) (by omega)]; omega), if_neg (by rw [zi_inj (by omega) (by omega)]; omega)]
        have hmin : (if zi 9 < zi (sIns T i) then zi 9 else zi (sIns T i)) = zi (if sIns T i < 9 then sIns T i else 9) := by
          by_cases h9 : sIns T i < 9
          · rw [if_pos h9, if_neg (by rw [zi_lt (by omega) (by omega)]; omega)]
          · rw [if_neg h9]
            by_cases h10 : 9 < sIns T i
            · rw [if_pos (by rw [zi_lt (by omega) (by omega)]; exact h10)]
            · rw [if_neg (by rw [zi_lt (by omega) (by omega)]; exact h10)]
              congr 1
              omega
        have hmin2 : (if zi (sIns T i) < zi 9 then zi (sIns T i) else zi 9) = zi (if sIns T i < 9 then sIns T i else 9) := by
          by_cases h9 : sIns T i < 9
          · rw [if_pos h9, if_pos (by rw [zi_lt (by omega) (by omega)]; exact h9)]
          · rw [if_neg h9, if_neg (by rw [zi_lt (by omega) (by omega)]; exact h9)]
        have hq : (if sIns T i < 9 then sIns T i else 9) < 2147483600 := by split <;> omega
        have := @c103 X D' T O k m n' (if sIns T i < 9 then sIns T i else 9) h20 hq h1 (by omega)
        rw [hs, zlk_1]
        simp (disch := first | assumption | omega) only [↓zn_l, zl_0, zl_1, zl_2, zl_3, zl_4, zl_5, zl_6, zl_7, zl_8, zl_9, zl_10, zl_11, zl_12, zl_13, zl_14, zl_15, zl_16, zl_17, zl_18, zl_19, zl_20, zl_21, zl_22, zl_23, zl_24, zl_25, zl_26, zl_27, zl_28, zl_29, zl_30, zl_31, zl_32, zl_36, zl_46, zl_48, zl_50, zl_57, zl_63, zl_64, zl_72, zl_97, zl_99, zl_100, zl_101, zl_122, zl_127, zl_200, zl_255, zl_406, zl_534, zl_540, zl_600, zl_9999, zl_33, zl_34, zl_35, zl_37, zl_38, zl_39, zl_40, zl_41, zl_42, zl_43, zl_44, zl_45, zl_47, zl_49, zl_52, zl_53, zl_54, zl_55, zl_58, zl_59, zl_60, zl_61, zl_62, zl_65, zl_70, zl_71, zl_98, zl_102, zl_103, zl_104, zl_105, zl_110, zl_111, zl_115, zl_120, zl_123, zl_126, zl_128, zl_256, zl_1000, zl_1024, zcon_inl, zcon_inr, Option.toList_some, Option.toList_none, List.cons_append, List.nil_append, List.append_nil, Nat.add_zero, zbind_some, b102_72, tg4, b102_84, hI]
        first
        | rw [hmin, this]
        | rw [hmin2, this]
        simp only [zcon_inl, Option.toList_none, List.nil_append]
        exact step _ es
      · have := @c3M X D' T O k m n' (zi 126) h20 h1 (by omega)
        have es : sFrm T i = [zi 126] := by
          unfold sFrm
          rw [if_pos hs, if_neg (by rw [hs, zi_inj (by omega) (by omega)]; omega)]
        rw [hs, zlk_2]
        simp (disch := first | assumption | omega) only [↓zn_l, zl_0, zl_1, zl_2, zl_3, zl_4, zl_5, zl_6, zl_7, zl_8, zl_9, zl_10, zl_11, zl_12, zl_13, zl_14, zl_15, zl_16, zl_17, zl_18, zl_19, zl_20, zl_21, zl_22, zl_23, zl_24, zl_25, zl_26, zl_27, zl_28, zl_29, zl_30, zl_31, zl_32, zl_36, zl_46, zl_48, zl_50, zl_57, zl_63, zl_64, zl_72, zl_97, zl_99, zl_100, zl_101, zl_122, zl_127, zl_200, zl_255, zl_406, zl_534, zl_540, zl_600, zl_9999, zl_33, zl_34, zl_35, zl_37, zl_38, zl_39, zl_40, zl_41, zl_42, zl_43, zl_44, zl_45, zl_47, zl_49, zl_52, zl_53, zl_54, zl_55, zl_58, zl_59, zl_60, zl_61, zl_62, zl_65, zl_70, zl_71, zl_98, zl_102, zl_103, zl_104, zl_105, zl_110, zl_111, zl_115, zl_120, zl_123, zl_126, zl_128, zl_256, zl_1000, zl_1024, zcon_inl, zcon_inr, Option.toList_some, Option.toList_none, List.cons_append, List.nil_append, List.append_nil, Nat.add_zero, zbind_some, b102_60, this, b102_69]
        exact step _ es
  simp (disch := first | assumption | omega) only [b102_0, c8, b102_7, ↓zn_l, zl_0, zl_1, zl_2, zl_3, zl_4, zl_5, zl_6, zl_7, zl_8, zl_9, zl_10, zl_11, zl_12, zl_13, zl_14, zl_15, zl_16, zl_17, zl_18, zl_19, zl_20, zl_21, zl_22, zl_23, zl_24, zl_25, zl_26, zl_27, zl_28, zl_29, zl_30, zl_31, zl_32, zl_36, zl_46, zl_48, zl_50, zl_57, zl_63, zl_64, zl_72, zl_97, zl_99, zl_100, zl_101, zl_122, zl_127, zl_200, zl_255, zl_406, zl_534, zl_540, zl_600, zl_9999, zl_33, zl_34, zl_35, zl_37, zl_38, zl_39, zl_40, zl_41, zl_42, zl_43, zl_44, zl_45, zl_47, zl_49, zl_52, zl_53, zl_54, zl_55, zl_58, zl_59, zl_60, zl_61, zl_62, zl_65, zl_70, zl_71, zl_98, zl_102, zl_103, zl_104, zl_105, zl_110, zl_111, zl_115, zl_120, zl_123, zl_126, zl_128, zl_256, zl_1000, zl_1024, zcon_inl, zcon_inr, Option.toList_some, Option.toList_none, List.cons_append, List.nil_append, List.append_nil, Nat.add_zero, zbind_some]
  exact loop (sNf T) 0 _ 0 (by omega) (zw_self _ _ _ _) (by omega)
theorem zOL_o {D D' T : ZD2} {l : List Nat} (h : zOL D T l) (hD : ∀ a, 165 ≤ a → D' a = D a) : zOL D' T l := zOL_zmt (hD 165 (by omega)) (hD 166 (by omega)) (hD 167 (by omega)) h
theorem c104 {l : List Nat} (hm : zisM m) (h20 : 20 ≤ m) (hm65 : m + 12 < 165) (hO : zOL D T l) (hl : l.length ≤ 72) (ha : ∀ r, r < 72 → zAt T r) (hp : ∀ r, r < 72 → sPrice T r = zi (sPr T r) ∧ sPr T r < 1000) : zev X 104 0 [.ref 17, .ref m, .ref 165, zJ, zJ] [] (zHP (zmt D m T) O, k) = some (.inl none, (zHP (zmt (uTxs (zw D 18 1 (zi 0)) (sTell3 T 0 l)) m T) O, k)) := by
  have loop : ∀ (l' : List Nat) i (D' : ZD2) (n' : Nat) (v : Value), v.category = 1 → l.drop i = l' → i ≤ l.length → zOL D' T l → D' 18 1 = zi n' → n' + 14 * l'.length ≤ 1024 → zev X 104 9 [.ref 17, .ref m, .ref 165, .int (zi i), v] [] (zHP (zmt D' m T) O, k) = some (.inl none, (zHP (zmt (uTxs D' (sTell3 T i l')) m T) O, k)) := by
    intro l'
    induction l' with
    | nil =>
      intro i D' n' v hv h hi hO' h1 h2
      have e : i = l.length := by
        have := congrArg List.length h
        simp at this
        omega
      have e5 : zmt D' m T 165 2 = zi l.length := by rw [zmt_o (by omega)]; exact hO'.1
      refine b104_9.trans ?_
      rw [e]
      simp (disch := first | assumption | omega) only [c71, e5, b104_14, ↓zn_l, zl_0, zl_1, zl_2, zl_3, zl_4, zl_5, zl_6, zl_7, zl_8, zl_9, zl_10, zl_11, zl_12, zl_13, zl_14, zl_15, zl_16, zl_17, zl_18, zl_19, zl_20, zl_21, zl_22, zl_23, zl_24, zl_25, zl_26, zl_27, zl_28, zl_29, zl_30, zl_31, zl_32, zl_36, zl_46, zl_48, zl_50, zl_57, zl_63, zl_64, zl_72, zl_97, zl_99, zl_100, zl_101, zl_122, zl_127, zl_200, zl_255, zl_406, zl_534, zl_540, zl_600, zl_9999, zl_33, zl_34, zl_35, zl_37, zl_38, zl_39, zl_40, zl_41, zl_42, zl_43, zl_44, zl_45, zl_47, zl_49, zl_52, zl_53, zl_54, zl_55, zl_58, zl_59, zl_60, zl_61, zl_62, zl_65, zl_70, zl_71, zl_98, zl_102, zl_103, zl_104, zl_105, zl_110, zl_111, zl_115, zl_120, zl_123, zl_126, zl_128, zl_256, zl_1000, zl_1024, zcon_inl, zcon_inr, Option.toList_some, Option.toList_none, List.cons_append, List.nil_append, List.append_nil, Nat.add_zero, zbind_some, zi_toNat, zi_lt, zi_inj, zi_add, zi_mul, zi_ne_zn, zn_ne_zi, zn_lt_zi, zi_lt_zn, Nat.not_lt_zero, false_or, if_true, if_false, true_or, or_false, Nat.lt_irrefl, sTell3, uTxs]
    | cons r l' ih =>
      intro i D' n' v hv h hi hO' h1 h2
      have hg : l[i]? = some r := by
        have := congrArg (fun q => q[0]?) h
        simpa [List.getElem?_drop] using this
      have hlt : i < l.length := (List.getElem?_eq_some_iff.mp hg).1
      have hdr : l.drop (i + 1) = l' := by
        have := congrArg (List.drop 1) h
        rw [List.drop_drop] at this
        exact this
      have hi72 : i < 72 := by omega
      obtain ⟨g1, g2⟩ := hO'.2.1 i r hg
      have hr : r < 72 := hO'.2.2 r (List.mem_of_getElem? hg)
      have hz := ha r hr
      obtain ⟨p1, p2⟩ := hp r hr
      have e5 : zmt D' m T 165 2 = zi l.length := by rw [zmt_o (by omega)]; exact hO'.1
      rw [List.length_cons] at h2
      have hol : ∀ w, zOL (uTxs D' w) T l := fun w => zOL_o hO' fun a h => uTxs_o (by omega) (by omega) w D'
      have hdiv : r / 12 * 12 ≤ r := Nat.div_mul_le_self r 12
      have hr12 : r / 12 < 6 := by omega
      have hlen := sOfr_len (T := T) (i := i) (r := r)
      have hl1 := sName_len (T 2 (12 * (r / 12) + 11))
      have hl2 := sNum_len2 (q := r - r / 12 * 12) (by omega)
      have hl3 := sNum_len (sPr T r)
      have rest : ∀ (D1 : ZD2) (n1 : Nat), D1 18 1 = zi n1 → n1 + 13 ≤ 1024 → (∀ a, 165 ≤ a → D1 a = D' a) → zev X 104 30 [.ref 17, .ref m, .ref 165, .int (zi i), v] [] (zHP (zmt D1 m T) O, k) = zev X 104 9 [.ref 17, .ref m, .ref 165, .int (zi (i + 1)), .int (zi r)] [] (zHP (zmt (uTxs D1 (sName (T 2 (12 * (r / 12) + 11)) ++ ([zi 46] ++ (sNum (r - r / 12 * 12) ++ ([zi 58] ++ sNum (sPr T r)))))) m T) O, k) := by
        intro D1 n1 q1 q2 q3
        have f6 : zmt D1 m T 166 i = zi r := by rw [zmt_o (by omega), q3 166 (by omega)]; exact g1
        have a1 := @c99 X D1 T O k m n1 (T 2 (12 * (r / 12) + 11)) h20 q1 (by omega)
        have n2 := uTxs_len (w := sName (T 2 (12 * (r / 12) + 11))) q1
        have a2 := @c3M X _ T O k m _ (zi 46) h20 n2 (by omega)
        have n3 := uTx1_len (v := zi 46) n2
        have a3 := @c103 X _ T O k m _ (r - r / 12 * 12) h20 (by omega) n3 (by omega)
        have n4 := uTxs_len (w := sNum (r - r / 12 * 12)) n3
        have a4 := @c3M X _ T O k m _ (zi 58) h20 n4 (by omega)
        have n5 := uTx1_len (v := zi 58) n4
        have a5 := @c103 X _ T O k m _ (sPr T r) h20 (by omega) n5 (by omega)
        refine b104_30.trans ?_
        simp (disch := first | assumption | omega) only [c68, f6, b104_35, zi_div, zi_mul, zi_sub, tg2, b104_52, a1, b104_55, a2, b104_64, a3, b104_73, a4, b104_82, c44, p1, b104_89, a5, b104_92, ↓zn_l, zl_0, zl_1, zl_2, zl_3, zl_4, zl_5, zl_6, zl_7, zl_8, zl_9, zl_10, zl_11, zl_12, zl_13, zl_14, zl_15, zl_16, zl_17, zl_18, zl_19, zl_20, zl_21, zl_22, zl_23, zl_24, zl_25, zl_26, zl_27, zl_28, zl_29, zl_30, zl_31, zl_32, zl_36, zl_46, zl_48, zl_50, zl_57, zl_63, zl_64, zl_72, zl_97, zl_99, zl_100, zl_101, zl_122, zl_127, zl_200, zl_255, zl_406, zl_534, zl_540, zl_600, zl_9999, zl_33, zl_34, zl_35, zl_37, zl_38, zl_39, zl_40, zl_41, zl_42, zl_43, zl_44, zl_45, zl_47, zl_49, zl_52, zl_53, zl_54, zl_55, zl_58, zl_59, zl_60, zl_61, zl_62, zl_65, zl_70, zl_71, zl_98, zl_102, zl_103, zl_104, zl_105, zl_110, zl_111, zl_115, zl_120, zl_123, zl_126, zl_128, zl_256, zl_1000, zl_1024, zcon_inl, zcon_inr, Option.toList_some, Option.toList_none, List.cons_append, List.nil_append, List.append_nil, Nat.add_zero, zbind_some, zi_add]
        simp only [uTxs_app, uTxs, List.cons_append, List.nil_append]
      refine b104_9.trans ?_
      simp (disch := first | assumption | omega) only [c71, e5, b104_14, ↓zn_l, zl_0, zl_1, zl_2, zl_3, zl_4, zl_5, zl_6, zl_7, zl_8, zl_9, zl_10, zl_11, zl_12, zl_13, zl_14, zl_15, zl_16, zl_17, zl_18, zl_19, zl_20, zl_21, zl_22, zl_23, zl_24, zl_25, zl_26, zl_27, zl_28, zl_29, zl_30, zl_31, zl_32, zl_36, zl_46, zl_48, zl_50, zl_57, zl_63, zl_64, zl_72, zl_97, zl_99, zl_100, zl_101, zl_122, zl_127, zl_200, zl_255, zl_406, zl_534, zl_540, zl_600, zl_9999, zl_33, zl_34, zl_35, zl_37, zl_38, zl_39, zl_40, zl_41, zl_42, zl_43, zl_44, zl_45, zl_47, zl_49, zl_52, zl_53, zl_54, zl_55, zl_58, zl_59, zl_60, zl_61, zl_62, zl_65, zl_70, zl_71, zl_98, zl_102, zl_103, zl_104, zl_105, zl_110, zl_111, zl_115, zl_120, zl_123, zl_126, zl_128, zl_256, zl_1000, zl_1024, zcon_inl, zcon_inr, Option.toList_some, Option.toList_none, List.cons_append, List.nil_append, List.append_nil, Nat.add_zero, zbind_some, zi_toNat, zi_lt, zi_inj, zi_add, zi_mul, zi_ne_zn, zn_ne_zi, zn_lt_zi, zi_lt_zn, Nat.not_lt_zero, false_or, if_true, if_false, true_or, or_false, hlt]
      rw [sTell3, uTxs_app D']
      unfold sOfr
      unfold sOfr at hlen
      by_cases h0 : 0 < i
      · have a0 := @c3M X D' T O k m n' (zi 32) h20 h1 (by omega)
        simp only [h0, if_true] at hlen ⊢
        simp only [a0, zcon_inl, Option.toList_none, List.nil_append]
        rw [rest _ _ (uTx1_len h1) (by omega) fun a ha => by unfold uTx1; rw [zw_row (by omega), zw_row (by omega)]]
        exact ih (i + 1) _ _ _ rfl hdr (by omega) (zOL_o hO' fun a ha => by rw [uTxs_o (by omega) (by omega)]; unfold uTx1; rw [zw_row (by omega), zw_row (by omega)]) (uTxs_len (uTx1_len h1)) (by rw [List.length_append] at hlen; simp only [List.length_cons, List.length_nil] at hlen; omega)
      · simp only [h0, if_false, List.nil_append] at hlen ⊢
        rw [rest _ _ h1 (by omega) fun a ha => rfl]
        exact ih (i + 1) _ _ _ rfl hdr (by omega) (hol _) (uTxs_len h1) (by omega)
  simp (disch := first | assumption | omega) only [b104_0, c8, b104_7, ↓zn_l, zl_0, zl_1, zl_2, zl_3, zl_4, zl_5, zl_6, zl_7, zl_8, zl_9, zl_10, zl_11, zl_12, zl_13, zl_14, zl_15, zl_16, zl_17, zl_18, zl_19, zl_20, zl_21, zl_22, zl_23, zl_24, zl_25, zl_26, zl_27, zl_28, zl_29, zl_30, zl_31, zl_32, zl_36, zl_46, zl_48, zl_50, zl_57, zl_63, zl_64, zl_72, zl_97, zl_99, zl_100, zl_101, zl_122, zl_127, zl_200, zl_255, zl_406, zl_534, zl_540, zl_600, zl_9999, zl_33, zl_34, zl_35, zl_37, zl_38, zl_39, zl_40, zl_41, zl_42, zl_43, zl_44, zl_45, zl_47, zl_49, zl_52, zl_53, zl_54, zl_55, zl_58, zl_59, zl_60, zl_61, zl_62, zl_65, zl_70, zl_71, zl_98, zl_102, zl_103, zl_104, zl_105, zl_110, zl_111, zl_115, zl_120, zl_123, zl_126, zl_128, zl_256, zl_1000, zl_1024, zcon_inl, zcon_inr, Option.toList_some, Option.toList_none, List.cons_append, List.nil_append, List.append_nil, Nat.add_zero, zbind_some]
  exact loop l 0 _ 0 zJ rfl rfl (by omega) (zOL_o hO fun a ha => zw_row (by omega)) (zw_self _ _ _ _) (by omega)
end
