/-! The model's looks: the idlest page, the next price, sharers, the page taken next. -/
section
variable {T : ZD2}
theorem zInvalid (I : zIv T) {r : Nat} (hr : r < 72) (h : sNp T ≤ r / 12 ∨ sPgs T (r / 12) ≤ r - r / 12 * 12) : T 3 (5 * r) = zn := by
  have := (I.2.2.2.1.2 (r / 12) (r - r / 12 * 12) (by omega) (by omega) h).1
  rwa [show 12 * (r / 12) + (r - r / 12 * 12) = r by omega] at this
theorem zInvalidIn (I : zIv T) {r : Nat} (hr : r < 72) (h : sNp T ≤ r / 12 ∨ sPgs T (r / 12) ≤ r - r / 12 * 12) : sIn T r = false := by
  unfold sIn
  rw [zInvalid I hr h]
  simp
theorem sBest_no {w : Nat → Bool} {r : Nat} {o : Option Nat} (h : w r = false) : sBest T w r o = o := by
  unfold sBest sBq
  rw [h]
  simp
end
section
variable {X : ZX} {D T : ZD2} {s : Nat → Int32} {O : ZO2} {k : Nat × Nat × Nat}
theorem m238 (I : zIv T) (S : zRs D T) (R : zRd s T) (h : D 168 1 = zi 1) : zev X 238 0 [.ref 168, zJ, zJ] [] (zHP (zrow D 172 s) O, k) = some (.inl (some (.int (zo (sIdl T false 0 72)))), (zHP (zrow (zth D 0) 172 s) O, k)) := by
  have n1 := zIv_np I
  have n2 := zIv_np6 I
  have S0 := zRs_th (c := 0) S
  have e199 := m199 (X := X) (s := s) (O := O) (k := k) h
  have pad : sIdl T false 0 72 = zfo (sBest T (sIn T)) (12 * sNp T) 0 none := by
    have := zfo_pad (f := sBest T (sIn T)) (d := 12 * sNp T) (e := 72 - 12 * sNp T) (i := 0) (a := none) (fun j b h1 h2 => sBest_no (zInvalidIn I (by omega) (Or.inl (by omega))))
    rw [show 12 * sNp T + (72 - 12 * sNp T) = 72 by omega] at this
    exact this
  rw [pad]
  simp (disch := first | assumption | omega) only [b238_0, b238_4, ↓zn_l, zl_0, zl_1, zl_2, zl_3, zl_4, zl_5, zl_6, zl_7, zl_8, zl_9, zl_10, zl_11, zl_12, zl_13, zl_14, zl_15, zl_16, zl_17, zl_18, zl_19, zl_20, zl_21, zl_22, zl_23, zl_24, zl_25, zl_26, zl_27, zl_28, zl_29, zl_30, zl_31, zl_32, zl_36, zl_46, zl_48, zl_50, zl_57, zl_63, zl_64, zl_72, zl_97, zl_99, zl_100, zl_101, zl_122, zl_127, zl_200, zl_255, zl_406, zl_534, zl_540, zl_600, zl_9999, zl_33, zl_34, zl_35, zl_37, zl_38, zl_39, zl_40, zl_41, zl_42, zl_43, zl_44, zl_45, zl_47, zl_49, zl_52, zl_53, zl_54, zl_55, zl_58, zl_59, zl_60, zl_61, zl_62, zl_65, zl_70, zl_71, zl_98, zl_102, zl_103, zl_104, zl_105, zl_110, zl_111, zl_115, zl_120, zl_123, zl_126, zl_128, zl_256, zl_1000, zl_1024, zcon_inl, zcon_inr, Option.toList_some, Option.toList_none, List.cons_append, List.nil_append, List.append_nil, Nat.add_zero, zbind_some, zi_toNat, zi_lt, zi_inj, zi_add, zi_mul, zi_ne_zn, zn_ne_zi, zn_lt_zi, zi_lt_zn, Nat.not_lt_zero, false_or, if_true, if_false, true_or, or_false, Nat.reduceEqDiff, eq_self, e199]
  refine (zloopJ (P := fun i (o : Option Nat) => zev X 238 13 [.ref 168, .int (zo o), .int (zi i)] [] (zHP (zrow (zth D 0) 172 s) O, k)) (Q := fun o => some (.inl (some (.int (zo o))), (zHP (zrow (zth D 0) 172 s) O, k))) (f := sBest T (sIn T)) (n := 12 * sNp T) (J := fun i o => ∀ b, o = some b → b < i) ?_ ?_ (12 * sNp T) 0 none (by omega) (by intro b q; cases q)).1
  · intro i o hi hJ
    have hle : i / 12 * 12 ≤ i := Nat.div_mul_le_self i 12
    have hp : i / 12 < sNp T := by omega
    have hp6 : ¬ 6 ≤ i / 12 := by omega
    obtain ⟨g1, g2⟩ := zIv_pg I (p := i / 12) (by omega)
    have eP : D 170 (i / 12) = zi (sPgs T (i / 12)) := (S.2.1 _ hp).trans g1
    have eP0 : zth D 0 170 (i / 12) = zi (sPgs T (i / 12)) := by rw [zth_a (by omega)]; exact eP
    have ed : 12 * (i / 12) + (i - i / 12 * 12) = i := by omega
    have e214 := m214 (X := X) (D := zth D 0) (O := O) (k := k) (p := i / 12) (g := i - i / 12 * 12) R (by omega) (by omega)
    have e208 := @m208 X (zth D 0) s O k (i / 12) (i - i / 12 * 12) 1 (by omega) (by omega) (by omega)
    rw [ed] at e214
    rw [ed, (R.2.2.1 i (by omega)).2.1] at e208
    constructor
    · refine b238_13.trans ?_
      by_cases hg : i - i / 12 * 12 < sPgs T (i / 12)
      · simp (disch := first | assumption | omega) only [e168s, S0.1.1, n1, e170s, ↓zn_l, zl_0, zl_1, zl_2, zl_3, zl_4, zl_5, zl_6, zl_7, zl_8, zl_9, zl_10, zl_11, zl_12, zl_13, zl_14, zl_15, zl_16, zl_17, zl_18, zl_19, zl_20, zl_21, zl_22, zl_23, zl_24, zl_25, zl_26, zl_27, zl_28, zl_29, zl_30, zl_31, zl_32, zl_36, zl_46, zl_48, zl_50, zl_57, zl_63, zl_64, zl_72, zl_97, zl_99, zl_100, zl_101, zl_122, zl_127, zl_200, zl_255, zl_406, zl_534, zl_540, zl_600, zl_9999, zl_33, zl_34, zl_35, zl_37, zl_38, zl_39, zl_40, zl_41, zl_42, zl_43, zl_44, zl_45, zl_47, zl_49, zl_52, zl_53, zl_54, zl_55, zl_58, zl_59, zl_60, zl_61, zl_62, zl_65, zl_70, zl_71, zl_98, zl_102, zl_103, zl_104, zl_105, zl_110, zl_111, zl_115, zl_120, zl_123, zl_126, zl_128, zl_256, zl_1000, zl_1024, zcon_inl, zcon_inr, Option.toList_some, Option.toList_none, List.cons_append, List.nil_append, List.append_nil, Nat.add_zero, zbind_some, zi_toNat, zi_lt, zi_inj, zi_add, zi_mul, zi_ne_zn, zn_ne_zi, zn_lt_zi, zi_lt_zn, Nat.not_lt_zero, false_or, if_true, if_false, true_or, or_false, Nat.reduceEqDiff, eq_self, hi, hp6, zi_div, zi_sub, eP0, hg, e214]
        refine b238_52.trans ?_
        unfold sBest sBq
        cases sIn T i
        · simp only [↓zn_l, zl_0, zl_1, zl_2, zl_3, zl_4, zl_5, zl_6, zl_7, zl_8, zl_9, zl_10, zl_11, zl_12, zl_13, zl_14, zl_15, zl_16, zl_17, zl_18, zl_19, zl_20, zl_21, zl_22, zl_23, zl_24, zl_25, zl_26, zl_27, zl_28, zl_29, zl_30, zl_31, zl_32, zl_36, zl_46, zl_48, zl_50, zl_57, zl_63, zl_64, zl_72, zl_97, zl_99, zl_100, zl_101, zl_122, zl_127, zl_200, zl_255, zl_406, zl_534, zl_540, zl_600, zl_9999, zl_33, zl_34, zl_35, zl_37, zl_38, zl_39, zl_40, zl_41, zl_42, zl_43, zl_44, zl_45, zl_47, zl_49, zl_52, zl_53, zl_54, zl_55, zl_58, zl_59, zl_60, zl_61, zl_62, zl_65, zl_70, zl_71, zl_98, zl_102, zl_103, zl_104, zl_105, zl_110, zl_111, zl_115, zl_120, zl_123, zl_126, zl_128, zl_256, zl_1000, zl_1024, zb_0, if_true, Bool.false_and, Bool.false_eq_true, if_false, zi_add]
        · simp only [↓zn_l, zl_0, zl_1, zl_2, zl_3, zl_4, zl_5, zl_6, zl_7, zl_8, zl_9, zl_10, zl_11, zl_12, zl_13, zl_14, zl_15, zl_16, zl_17, zl_18, zl_19, zl_20, zl_21, zl_22, zl_23, zl_24, zl_25, zl_26, zl_27, zl_28, zl_29, zl_30, zl_31, zl_32, zl_36, zl_46, zl_48, zl_50, zl_57, zl_63, zl_64, zl_72, zl_97, zl_99, zl_100, zl_101, zl_122, zl_127, zl_200, zl_255, zl_406, zl_534, zl_540, zl_600, zl_9999, zl_33, zl_34, zl_35, zl_37, zl_38, zl_39, zl_40, zl_41, zl_42, zl_43, zl_44, zl_45, zl_47, zl_49, zl_52, zl_53, zl_54, zl_55, zl_58, zl_59, zl_60, zl_61, zl_62, zl_65, zl_70, zl_71, zl_98, zl_102, zl_103, zl_104, zl_105, zl_110, zl_111, zl_115, zl_120, zl_123, zl_126, zl_128, zl_256, zl_1000, zl_1024, zb_0, Bool.true_eq_false, if_false, Bool.true_and]
          cases o with
          | none => simp only [zo, if_true, zi_add]
          | some b =>
            have hb := hJ b rfl
            have hleb : b / 12 * 12 ≤ b := Nat.div_mul_le_self b 12
            have edb : 12 * (b / 12) + (b - b / 12 * 12) = b := by omega
            have e208b := @m208 X (zth D 0) s O k (b / 12) (b - b / 12 * 12) 1 (by omega) (by omega) (by omega)
            rw [edb, (R.2.2.1 b (by omega)).2.1] at e208b
            simp (disch := first | assumption | omega) only [zo, zi_ne_zn, if_false, zi_div, zi_mul, zi_sub, e208, zcon_inl, Option.toList_some, List.cons_append, List.nil_append]
            refine b238_76.trans ?_
            simp (disch := first | assumption | omega) only [↓zn_l, zl_0, zl_1, zl_2, zl_3, zl_4, zl_5, zl_6, zl_7, zl_8, zl_9, zl_10, zl_11, zl_12, zl_13, zl_14, zl_15, zl_16, zl_17, zl_18, zl_19, zl_20, zl_21, zl_22, zl_23, zl_24, zl_25, zl_26, zl_27, zl_28, zl_29, zl_30, zl_31, zl_32, zl_36, zl_46, zl_48, zl_50, zl_57, zl_63, zl_64, zl_72, zl_97, zl_99, zl_100, zl_101, zl_122, zl_127, zl_200, zl_255, zl_406, zl_534, zl_540, zl_600, zl_9999, zl_33, zl_34, zl_35, zl_37, zl_38, zl_39, zl_40, zl_41, zl_42, zl_43, zl_44, zl_45, zl_47, zl_49, zl_52, zl_53, zl_54, zl_55, zl_58, zl_59, zl_60, zl_61, zl_62, zl_65, zl_70, zl_71, zl_98, zl_102, zl_103, zl_104, zl_105, zl_110, zl_111, zl_115, zl_120, zl_123, zl_126, zl_128, zl_256, zl_1000, zl_1024, zi_div, zi_mul, zi_sub, e208b, zcon_inl, Option.toList_some, List.cons_append, List.nil_append]
            refine b238_89.trans ?_
            by_cases hl : T 3 (5 * i + 1) < T 3 (5 * b + 1) <;> simp only [↓zn_l, zl_0, zl_1, zl_2, zl_3, zl_4, zl_5, zl_6, zl_7, zl_8, zl_9, zl_10, zl_11, zl_12, zl_13, zl_14, zl_15, zl_16, zl_17, zl_18, zl_19, zl_20, zl_21, zl_22, zl_23, zl_24, zl_25, zl_26, zl_27, zl_28, zl_29, zl_30, zl_31, zl_32, zl_36, zl_46, zl_48, zl_50, zl_57, zl_63, zl_64, zl_72, zl_97, zl_99, zl_100, zl_101, zl_122, zl_127, zl_200, zl_255, zl_406, zl_534, zl_540, zl_600, zl_9999, zl_33, zl_34, zl_35, zl_37, zl_38, zl_39, zl_40, zl_41, zl_42, zl_43, zl_44, zl_45, zl_47, zl_49, zl_52, zl_53, zl_54, zl_55, zl_58, zl_59, zl_60, zl_61, zl_62, zl_65, zl_70, zl_71, zl_98, zl_102, zl_103, zl_104, zl_105, zl_110, zl_111, zl_115, zl_120, zl_123, zl_126, zl_128, zl_256, zl_1000, zl_1024, hl, if_true, if_false, zi_add, decide_true, decide_false, Bool.false_eq_true]
      · simp (disch := first | assumption | omega) only [e168s, S0.1.1, n1, e170s, ↓zn_l, zl_0, zl_1, zl_2, zl_3, zl_4, zl_5, zl_6, zl_7, zl_8, zl_9, zl_10, zl_11, zl_12, zl_13, zl_14, zl_15, zl_16, zl_17, zl_18, zl_19, zl_20, zl_21, zl_22, zl_23, zl_24, zl_25, zl_26, zl_27, zl_28, zl_29, zl_30, zl_31, zl_32, zl_36, zl_46, zl_48, zl_50, zl_57, zl_63, zl_64, zl_72, zl_97, zl_99, zl_100, zl_101, zl_122, zl_127, zl_200, zl_255, zl_406, zl_534, zl_540, zl_600, zl_9999, zl_33, zl_34, zl_35, zl_37, zl_38, zl_39, zl_40, zl_41, zl_42, zl_43, zl_44, zl_45, zl_47, zl_49, zl_52, zl_53, zl_54, zl_55, zl_58, zl_59, zl_60, zl_61, zl_62, zl_65, zl_70, zl_71, zl_98, zl_102, zl_103, zl_104, zl_105, zl_110, zl_111, zl_115, zl_120, zl_123, zl_126, zl_128, zl_256, zl_1000, zl_1024, zcon_inl, zcon_inr, Option.toList_some, Option.toList_none, List.cons_append, List.nil_append, List.append_nil, Nat.add_zero, zbind_some, zi_toNat, zi_lt, zi_inj, zi_add, zi_mul, zi_ne_zn, zn_ne_zi, zn_lt_zi, zi_lt_zn, Nat.not_lt_zero, false_or, if_true, if_false, true_or, or_false, Nat.reduceEqDiff, eq_self, hi, hp6, zi_div, zi_sub, eP0, hg]
        rw [sBest_no (zInvalidIn I (by omega) (Or.inr (by omega)))]
    · intro b q
      rcases sBest_or T (sIn T) i o with e | e
      · rw [e] at q; cases q; omega
      · rw [e] at q; have := hJ b q; omega
  · intro o _
    refine b238_13.trans ?_
    simp (disch := first | assumption | omega) only [e168s, S0.1.1, n1, ↓zn_l, zl_0, zl_1, zl_2, zl_3, zl_4, zl_5, zl_6, zl_7, zl_8, zl_9, zl_10, zl_11, zl_12, zl_13, zl_14, zl_15, zl_16, zl_17, zl_18, zl_19, zl_20, zl_21, zl_22, zl_23, zl_24, zl_25, zl_26, zl_27, zl_28, zl_29, zl_30, zl_31, zl_32, zl_36, zl_46, zl_48, zl_50, zl_57, zl_63, zl_64, zl_72, zl_97, zl_99, zl_100, zl_101, zl_122, zl_127, zl_200, zl_255, zl_406, zl_534, zl_540, zl_600, zl_9999, zl_33, zl_34, zl_35, zl_37, zl_38, zl_39, zl_40, zl_41, zl_42, zl_43, zl_44, zl_45, zl_47, zl_49, zl_52, zl_53, zl_54, zl_55, zl_58, zl_59, zl_60, zl_61, zl_62, zl_65, zl_70, zl_71, zl_98, zl_102, zl_103, zl_104, zl_105, zl_110, zl_111, zl_115, zl_120, zl_123, zl_126, zl_128, zl_256, zl_1000, zl_1024, zcon_inl, zcon_inr, Option.toList_some, Option.toList_none, List.cons_append, List.nil_append, List.append_nil, Nat.add_zero, zbind_some, zi_toNat, zi_lt, zi_inj, zi_add, zi_mul, zi_ne_zn, zn_ne_zi, zn_lt_zi, zi_lt_zn, Nat.not_lt_zero, false_or, if_true, if_false, true_or, or_false, Nat.reduceEqDiff, eq_self, Nat.lt_irrefl]
theorem m238n1 (h : D 168 1 = zi 0) : zev X 238 0 [.ref 168, zJ, zJ] [] (zHP (zrow D 172 s) O, k) = some (.inl (some (.int (zi 0))), (zHP (zrow (zth D 1) 172 s) O, k)) := by
  simp (disch := first | assumption | omega) only [b238_0, b238_4, ↓zn_l, zl_0, zl_1, zl_2, zl_3, zl_4, zl_5, zl_6, zl_7, zl_8, zl_9, zl_10, zl_11, zl_12, zl_13, zl_14, zl_15, zl_16, zl_17, zl_18, zl_19, zl_20, zl_21, zl_22, zl_23, zl_24, zl_25, zl_26, zl_27, zl_28, zl_29, zl_30, zl_31, zl_32, zl_36, zl_46, zl_48, zl_50, zl_57, zl_63, zl_64, zl_72, zl_97, zl_99, zl_100, zl_101, zl_122, zl_127, zl_200, zl_255, zl_406, zl_534, zl_540, zl_600, zl_9999, zl_33, zl_34, zl_35, zl_37, zl_38, zl_39, zl_40, zl_41, zl_42, zl_43, zl_44, zl_45, zl_47, zl_49, zl_52, zl_53, zl_54, zl_55, zl_58, zl_59, zl_60, zl_61, zl_62, zl_65, zl_70, zl_71, zl_98, zl_102, zl_103, zl_104, zl_105, zl_110, zl_111, zl_115, zl_120, zl_123, zl_126, zl_128, zl_256, zl_1000, zl_1024, zcon_inl, zcon_inr, Option.toList_some, Option.toList_none, List.cons_append, List.nil_append, List.append_nil, Nat.add_zero, zbind_some, zi_toNat, zi_lt, zi_inj, zi_add, zi_mul, zi_ne_zn, zn_ne_zi, zn_lt_zi, zi_lt_zn, Nat.not_lt_zero, false_or, if_true, if_false, true_or, or_false, Nat.reduceEqDiff, eq_self, m199n, h]
/-- the oldest page of a program, by its number -/
def sOldF (T : ZD2) (p g : Nat) (o : Option Nat) : Option Nat := if sLoose T (12 * p + g) && (match o with | none => true | some b => decide (T 3 (5 * (12 * p + g) + 1) < T 3 (5 * (12 * p + b) + 1))) then some g else o
theorem sOldF_or (T : ZD2) (p g : Nat) (o : Option Nat) : sOldF T p g o = some g ∨ sOldF T p g o = o := zite_or
def sOld (T : ZD2) (p : Nat) : Option Nat := zfo (sOldF T p) 12 0 none
theorem sOld_eq (T : ZD2) (p : Nat) : sIdl T true (12 * p) (12 * (p + 1)) = (sOld T p).map (12 * p + ·) := by
  unfold sIdl sOld
  rw [show 12 * (p + 1) - 12 * p = 12 by omega]
  have key : ∀ d i o, zfo (sBest T fun r => if true = true then sLoose T r else sIn T r) d (12 * p + i) (Option.map (12 * p + ·) o) = Option.map (12 * p + ·) (zfo (sOldF T p) d i o) := by
    intro d
    induction d with
    | zero => intro i o; rfl
    | succ d ih =>
      intro i o
      rw [zfo, zfo, ← ih (i + 1)]
      congr 1
      unfold sBest sBq sOldF
      simp only [if_true]
      cases o with
      | none => cases sLoose T (12 * p + i) <;> simp
      | some b => cases sLoose T (12 * p + i) <;> by_cases hl : T 3 (5 * (12 * p + i) + 1) < T 3 (5 * (12 * p + b) + 1) <;> simp [hl]
  exact key 12 0 none
theorem sLoose_in {r : Nat} (h : sLoose T r = true) : sIn T r = true := by
  unfold sLoose at h
  simp only [Bool.and_eq_true] at h
  exact h.1.1.1
theorem m272 {p : Nat} (I : zIv T) (S : zRs D T) (R : zRd s T) (hp : p < sNp T) : zev X 272 0 [.ref 168, .int (zi p), zJ, zJ] [] (zHP (zrow D 172 s) O, k) = some (.inl (some (.int (zo (sOld T p)))), (zHP (zrow D 172 s) O, k)) := by
  have n2 := zIv_np6 I
  have hp6 : p < 6 := by omega
  have h6 : ¬ 6 ≤ p := by omega
  obtain ⟨g1, g2⟩ := zIv_pg I hp6
  have eP : D 170 p = zi (sPgs T p) := (S.2.1 p hp).trans g1
  have pad : sOld T p = zfo (sOldF T p) (sPgs T p) 0 none := by
    have := zfo_pad (f := sOldF T p) (d := sPgs T p) (e := 12 - sPgs T p) (i := 0) (a := none) (fun j b h1 h2 => by
      have hin := zInvalidIn I (r := 12 * p + j) (by omega) (Or.inr (by rw [zrow12 (by omega)]; omega))
      have : sLoose T (12 * p + j) = false := by unfold sLoose; rw [hin]; simp
      unfold sOldF
      simp [this])
    rw [show sPgs T p + (12 - sPgs T p) = 12 by omega] at this
    exact this
  rw [pad]
  simp only [b272_0, ↓zn_l, zl_0, zl_1, zl_2, zl_3, zl_4, zl_5, zl_6, zl_7, zl_8, zl_9, zl_10, zl_11, zl_12, zl_13, zl_14, zl_15, zl_16, zl_17, zl_18, zl_19, zl_20, zl_21, zl_22, zl_23, zl_24, zl_25, zl_26, zl_27, zl_28, zl_29, zl_30, zl_31, zl_32, zl_36, zl_46, zl_48, zl_50, zl_57, zl_63, zl_64, zl_72, zl_97, zl_99, zl_100, zl_101, zl_122, zl_127, zl_200, zl_255, zl_406, zl_534, zl_540, zl_600, zl_9999, zl_33, zl_34, zl_35, zl_37, zl_38, zl_39, zl_40, zl_41, zl_42, zl_43, zl_44, zl_45, zl_47, zl_49, zl_52, zl_53, zl_54, zl_55, zl_58, zl_59, zl_60, zl_61, zl_62, zl_65, zl_70, zl_71, zl_98, zl_102, zl_103, zl_104, zl_105, zl_110, zl_111, zl_115, zl_120, zl_123, zl_126, zl_128, zl_256, zl_1000, zl_1024]
  refine (zloopJ (P := fun i (o : Option Nat) => zev X 272 4 [.ref 168, .int (zi p), .int (zo o), .int (zi i)] [] (zHP (zrow D 172 s) O, k)) (Q := fun o => some (.inl (some (.int (zo o))), (zHP (zrow D 172 s) O, k))) (f := sOldF T p) (n := sPgs T p) (J := fun i o => ∀ b, o = some b → b < i) ?_ ?_ (sPgs T p) 0 none (by omega) (by intro b q; cases q)).1
  · intro i o hi hJ
    have hi12 : i < 12 := by omega
    have e213 := m213 (X := X) (D := D) (O := O) (k := k) I S R hp hi12
    have e208 := @m208 X D s O k p i 1 hp6 hi12 (by omega)
    rw [(R.2.2.1 (12 * p + i) (by omega)).2.1] at e208
    constructor
    · refine b272_4.trans ?_
      simp (disch := first | assumption | omega) only [↓zn_l, zl_0, zl_1, zl_2, zl_3, zl_4, zl_5, zl_6, zl_7, zl_8, zl_9, zl_10, zl_11, zl_12, zl_13, zl_14, zl_15, zl_16, zl_17, zl_18, zl_19, zl_20, zl_21, zl_22, zl_23, zl_24, zl_25, zl_26, zl_27, zl_28, zl_29, zl_30, zl_31, zl_32, zl_36, zl_46, zl_48, zl_50, zl_57, zl_63, zl_64, zl_72, zl_97, zl_99, zl_100, zl_101, zl_122, zl_127, zl_200, zl_255, zl_406, zl_534, zl_540, zl_600, zl_9999, zl_33, zl_34, zl_35, zl_37, zl_38, zl_39, zl_40, zl_41, zl_42, zl_43, zl_44, zl_45, zl_47, zl_49, zl_52, zl_53, zl_54, zl_55, zl_58, zl_59, zl_60, zl_61, zl_62, zl_65, zl_70, zl_71, zl_98, zl_102, zl_103, zl_104, zl_105, zl_110, zl_111, zl_115, zl_120, zl_123, zl_126, zl_128, zl_256, zl_1000, zl_1024, zcon_inl, zcon_inr, Option.toList_some, Option.toList_none, List.cons_append, List.nil_append, List.append_nil, Nat.add_zero, zbind_some, zi_toNat, zi_lt, zi_inj, zi_add, zi_mul, zi_ne_zn, zn_ne_zi, zn_lt_zi, zi_lt_zn, Nat.not_lt_zero, false_or, if_true, if_false, true_or, or_false, Nat.reduceEqDiff, eq_self, h6, e170s, eP, hi, e213]
      refine b272_20.trans ?_
      unfold sOldF
      cases sLoose T (12 * p + i)
      · simp only [↓zn_l, zl_0, zl_1, zl_2, zl_3, zl_4, zl_5, zl_6, zl_7, zl_8, zl_9, zl_10, zl_11, zl_12, zl_13, zl_14, zl_15, zl_16, zl_17, zl_18, zl_19, zl_20, zl_21, zl_22, zl_23, zl_24, zl_25, zl_26, zl_27, zl_28, zl_29, zl_30, zl_31, zl_32, zl_36, zl_46, zl_48, zl_50, zl_57, zl_63, zl_64, zl_72, zl_97, zl_99, zl_100, zl_101, zl_122, zl_127, zl_200, zl_255, zl_406, zl_534, zl_540, zl_600, zl_9999, zl_33, zl_34, zl_35, zl_37, zl_38, zl_39, zl_40, zl_41, zl_42, zl_43, zl_44, zl_45, zl_47, zl_49, zl_52, zl_53, zl_54, zl_55, zl_58, zl_59, zl_60, zl_61, zl_62, zl_65, zl_70, zl_71, zl_98, zl_102, zl_103, zl_104, zl_105, zl_110, zl_111, zl_115, zl_120, zl_123, zl_126, zl_128, zl_256, zl_1000, zl_1024, zb_0, if_true, Bool.false_and, Bool.false_eq_true, if_false, zi_add]
      · simp only [↓zn_l, zl_0, zl_1, zl_2, zl_3, zl_4, zl_5, zl_6, zl_7, zl_8, zl_9, zl_10, zl_11, zl_12, zl_13, zl_14, zl_15, zl_16, zl_17, zl_18, zl_19, zl_20, zl_21, zl_22, zl_23, zl_24, zl_25, zl_26, zl_27, zl_28, zl_29, zl_30, zl_31, zl_32, zl_36, zl_46, zl_48, zl_50, zl_57, zl_63, zl_64, zl_72, zl_97, zl_99, zl_100, zl_101, zl_122, zl_127, zl_200, zl_255, zl_406, zl_534, zl_540, zl_600, zl_9999, zl_33, zl_34, zl_35, zl_37, zl_38, zl_39, zl_40, zl_41, zl_42, zl_43, zl_44, zl_45, zl_47, zl_49, zl_52, zl_53, zl_54, zl_55, zl_58, zl_59, zl_60, zl_61, zl_62, zl_65, zl_70, zl_71, zl_98, zl_102, zl_103, zl_104, zl_105, zl_110, zl_111, zl_115, zl_120, zl_123, zl_126, zl_128, zl_256, zl_1000, zl_1024, zb_0, Bool.true_eq_false, if_false, Bool.true_and]
        cases o with
        | none => simp only [zo, if_true, zi_add]
        | some b =>
          have hb := hJ b rfl
          have e208b := @m208 X D s O k p b 1 hp6 (by omega) (by omega)
          rw [(R.2.2.1 (12 * p + b) (by omega)).2.1] at e208b
          simp (disch := first | assumption | omega) only [zo, zi_ne_zn, if_false, e208, zcon_inl, Option.toList_some, List.cons_append, List.nil_append]
          refine b272_35.trans ?_
          simp (disch := first | assumption | omega) only [↓zn_l, zl_0, zl_1, zl_2, zl_3, zl_4, zl_5, zl_6, zl_7, zl_8, zl_9, zl_10, zl_11, zl_12, zl_13, zl_14, zl_15, zl_16, zl_17, zl_18, zl_19, zl_20, zl_21, zl_22, zl_23, zl_24, zl_25, zl_26, zl_27, zl_28, zl_29, zl_30, zl_31, zl_32, zl_36, zl_46, zl_48, zl_50, zl_57, zl_63, zl_64, zl_72, zl_97, zl_99, zl_100, zl_101, zl_122, zl_127, zl_200, zl_255, zl_406, zl_534, zl_540, zl_600, zl_9999, zl_33, zl_34, zl_35, zl_37, zl_38, zl_39, zl_40, zl_41, zl_42, zl_43, zl_44, zl_45, zl_47, zl_49, zl_52, zl_53, zl_54, zl_55, zl_58, zl_59, zl_60, zl_61, zl_62, zl_65, zl_70, zl_71, zl_98, zl_102, zl_103, zl_104, zl_105, zl_110, zl_111, zl_115, zl_120, zl_123, zl_126, zl_128, zl_256, zl_1000, zl_1024, e208b, zcon_inl, Option.toList_some, List.cons_append, List.nil_append]
          refine b272_42.trans ?_
          by_cases hl : T 3 (5 * (12 * p + i) + 1) < T 3 (5 * (12 * p + b) + 1) <;> simp only [↓zn_l, zl_0, zl_1, zl_2, zl_3, zl_4, zl_5, zl_6, zl_7, zl_8, zl_9, zl_10, zl_11, zl_12, zl_13, zl_14, zl_15, zl_16, zl_17, zl_18, zl_19, zl_20, zl_21, zl_22, zl_23, zl_24, zl_25, zl_26, zl_27, zl_28, zl_29, zl_30, zl_31, zl_32, zl_36, zl_46, zl_48, zl_50, zl_57, zl_63, zl_64, zl_72, zl_97, zl_99, zl_100, zl_101, zl_122, zl_127, zl_200, zl_255, zl_406, zl_534, zl_540, zl_600, zl_9999, zl_33, zl_34, zl_35, zl_37, zl_38, zl_39, zl_40, zl_41, zl_42, zl_43, zl_44, zl_45, zl_47, zl_49, zl_52, zl_53, zl_54, zl_55, zl_58, zl_59, zl_60, zl_61, zl_62, zl_65, zl_70, zl_71, zl_98, zl_102, zl_103, zl_104, zl_105, zl_110, zl_111, zl_115, zl_120, zl_123, zl_126, zl_128, zl_256, zl_1000, zl_1024, hl, if_true, if_false, zi_add, decide_true, decide_false, Bool.false_eq_true]
    · intro b q
      rcases sOldF_or T p i o with e | e
      · rw [e] at q; cases q; omega
      · rw [e] at q; have := hJ b q; omega
  · intro o _
    refine b272_4.trans ?_
    simp (disch := first | assumption | omega) only [↓zn_l, zl_0, zl_1, zl_2, zl_3, zl_4, zl_5, zl_6, zl_7, zl_8, zl_9, zl_10, zl_11, zl_12, zl_13, zl_14, zl_15, zl_16, zl_17, zl_18, zl_19, zl_20, zl_21, zl_22, zl_23, zl_24, zl_25, zl_26, zl_27, zl_28, zl_29, zl_30, zl_31, zl_32, zl_36, zl_46, zl_48, zl_50, zl_57, zl_63, zl_64, zl_72, zl_97, zl_99, zl_100, zl_101, zl_122, zl_127, zl_200, zl_255, zl_406, zl_534, zl_540, zl_600, zl_9999, zl_33, zl_34, zl_35, zl_37, zl_38, zl_39, zl_40, zl_41, zl_42, zl_43, zl_44, zl_45, zl_47, zl_49, zl_52, zl_53, zl_54, zl_55, zl_58, zl_59, zl_60, zl_61, zl_62, zl_65, zl_70, zl_71, zl_98, zl_102, zl_103, zl_104, zl_105, zl_110, zl_111, zl_115, zl_120, zl_123, zl_126, zl_128, zl_256, zl_1000, zl_1024, zcon_inl, zcon_inr, Option.toList_some, Option.toList_none, List.cons_append, List.nil_append, List.append_nil, Nat.add_zero, zbind_some, zi_toNat, zi_lt, zi_inj, zi_add, zi_mul, zi_ne_zn, zn_ne_zi, zn_lt_zi, zi_lt_zn, Nat.not_lt_zero, false_or, if_true, if_false, true_or, or_false, Nat.reduceEqDiff, eq_self, h6, e170s, eP, Nat.lt_irrefl]
theorem sMany_pos {p r : Nat} (I : zIv T) (h1 : 12 * p ≤ r) (h2 : r < 12 * (p + 1)) (hp : p < 6) (hi : sIn T r = true) : 0 < sMany T p false := by
  have n4 := zIv_nf64 I
  obtain ⟨f1, f2⟩ := sFr_of (zIv_at I r (by omega)) hi
  have hlt := zIv_lt I (by omega) f2 f1
  have hh : sHasD T p false (sFr T r) 12 = true := by
    unfold sHasD
    have e : sHas T p (sFr T r) 12 0 = true := by
      have e1 := sHas_split T p (sFr T r) (r - 12 * p) (12 - (r - 12 * p))
      rw [show r - 12 * p + (12 - (r - 12 * p)) = 12 by omega] at e1
      have e2 : sHas T p (sFr T r) (12 - (r - 12 * p)) (r - 12 * p) = true := by
        obtain ⟨d, hd⟩ : ∃ d, 12 - (r - 12 * p) = d + 1 := ⟨12 - (r - 12 * p) - 1, by omega⟩
        rw [hd]
        unfold sHas
        rw [zfo, sHas_acc, show 12 * p + (r - 12 * p) = r by omega, f2]
        simp
      rw [e1, e2, Bool.or_true]
    rw [e]
    rfl
  unfold sMany
  obtain ⟨c, hc⟩ : ∃ c, zct (fun f => sHasD T p false f 12) (sFr T r) 0 0 = c := ⟨_, rfl⟩
  have e1 : zct (fun f => sHasD T p false f 12) (sFr T r + (sNf T - sFr T r)) 0 0 = zct (fun f => sHasD T p false f 12) (sNf T - sFr T r) (0 + sFr T r) (zct (fun f => sHasD T p false f 12) (sFr T r) 0 0) := zfo_add _ _ _ _ _
  rw [show sFr T r + (sNf T - sFr T r) = sNf T by omega] at e1
  obtain ⟨d, hd⟩ : ∃ d, sNf T - sFr T r = d + 1 := ⟨sNf T - sFr T r - 1, by omega⟩
  rw [e1, hd]
  show 0 < zct _ d (0 + sFr T r + 1) (if sHasD T p false (0 + sFr T r) 12 = true then _ else _)
  rw [Nat.zero_add, if_pos hh, yct_acc]
  omega
/-- the model's choice of a program -/
def sPick (T : ZD2) (p : Nat) (o : Option Nat) : Option Nat := if (sOld T p).isSome && (match o with | none => true | some b => decide (sMany T b false < sMany T p false)) then some p else o
def sPickd (T : ZD2) : Option Nat := zfo (sPick T) (sNp T) 0 none
theorem sPick_or (T : ZD2) (p : Nat) (o : Option Nat) : sPick T p o = some p ∨ sPick T p o = o := zite_or
theorem sPick_some {T : ZD2} {p b : Nat} {o : Option Nat} (q : sPick T p o = some b) : (b = p ∧ (sOld T p).isSome = true) ∨ o = some b := by
  by_cases hs : (sOld T p).isSome = true
  · rcases sPick_or T p o with e | e
    · rw [e] at q
      cases q
      exact Or.inl ⟨rfl, hs⟩
    · rw [e] at q
      exact Or.inr q
  · have e : sPick T p o = o := by
      unfold sPick
      rw [Bool.eq_false_iff.mpr hs]
      simp
    rw [e] at q
    exact Or.inr q
theorem zfo_lt {f : Nat → Option Nat → Option Nat} (hf : ∀ p o, f p o = some p ∨ f p o = o) : ∀ d i o, (∀ b, o = some b → b < i) → ∀ b, zfo f d i o = some b → b < i + d
  | 0, i, o, h, b, q => by have := h b q; omega
  | d + 1, i, o, h, b, q => by
    have := zfo_lt hf d (i + 1) (f i o) (fun b q => by
      rcases hf i o with e | e
      · rw [e] at q; cases q; omega
      · rw [e] at q; have := h b q; omega) b q
    omega
theorem sPickd_lt {b : Nat} (h : sPickd T = some b) : b < sNp T := by
  have := zfo_lt (sPick_or T) (sNp T) 0 none (by intro b q; cases q) b h
  omega
theorem sPickd_old {b : Nat} (h : sPickd T = some b) : ∃ g, sOld T b = some g := by
  have key : ∀ d i o, (∀ b, o = some b → (sOld T b).isSome = true) → ∀ b, zfo (sPick T) d i o = some b → (sOld T b).isSome = true := by
    intro d
    induction d with
    | zero => intro i o h b q; exact h b q
    | succ d ih =>
      intro i o h b q
      refine ih (i + 1) (sPick T i o) (fun b q => ?_) b q
      rcases sPick_some q with ⟨e, h1⟩ | e
      · rw [e]; exact h1
      · exact h b e
  exact Option.isSome_iff_exists.mp (key (sNp T) 0 none (by intro b q; cases q) b h)
theorem sTaken_eq (I : zIv T) : sTaken T = (sPickd T).bind fun b => (sOld T b).map (12 * b + ·) := by
  have n2 := zIv_np6 I
  have key : ∀ d i o, i + d ≤ sNp T → (∀ b, o = some b → b < i ∧ (sOld T b).isSome = true) → (zfo (sTakeF T) d i ((o.bind fun b => (sOld T b).map (12 * b + ·)), (match o with | none => zi 0 | some b => zi (sMany T b false)))).1 = (zfo (sPick T) d i o).bind fun b => (sOld T b).map (12 * b + ·) := by
    intro d
    induction d with
    | zero => intro i o _ _; rfl
    | succ d ih =>
      intro i o hi hJ
      rw [zfo, zfo, ← ih (i + 1) (sPick T i o) (by omega) (fun b q => by
        rcases sPick_some q with ⟨e, h1⟩ | e
        · rw [e]; exact ⟨by omega, h1⟩
        · have := hJ b e
          exact ⟨by omega, this.2⟩)]
      congr 2
      have hb : ∀ q, sMany T q false ≤ 64 := fun q => by
        have h1 := zct_le (fun f => sHasD T q false f 12) (sNf T) 0 0
        have n4 := zIv_nf64 I
        unfold sMany
        omega
      unfold sTakeF sPick
      rw [sOld_eq, sHeld_eq I (by omega)]
      cases ho : sOld T i with
      | none => simp
      | some g =>
        have hg : g < 12 := by
          have := zfo_lt (sOldF_or T i) 12 0 none (by intro b q; cases q) g ho
          omega
        have hidl : sIdl T true (12 * i) (12 * (i + 1)) = some (12 * i + g) := by rw [sOld_eq, ho]; rfl
        have hlo := (sIdl_sp hm20 (by omega) (by omega) (zIv_at I) hidl).2
        have hpos := sMany_pos I (p := i) (r := 12 * i + g) (by omega) (by omega) (by omega) (sLoose_in hlo)
        have hbi := hb i
        cases o with
        | none =>
          have h0 : zi 0 < zi (sMany T i false) := by rw [zi_lt (by omega) (by omega)]; exact hpos
          simp [h0, ho]
        | some b =>
          have hbb := hb b
          by_cases hl : sMany T b false < sMany T i false
          · have h0 : zi (sMany T b false) < zi (sMany T i false) := by rw [zi_lt (by omega) (by omega)]; exact hl
            simp [h0, hl, ho]
          · have h0 : ¬ zi (sMany T b false) < zi (sMany T i false) := by rw [zi_lt (by omega) (by omega)]; exact hl
            simp [h0, hl]
  exact key (sNp T) 0 none (by omega) (by intro b q; cases q)
theorem m271 (I : zIv T) (S : zRs D T) (R : zRd s T) : zev X 271 0 [.ref 168, zJ, zJ] [] (zHP (zrow D 172 s) O, k) = some (.inl (some (.int (zo (sTaken T)))), (zHP (zrow D 172 s) O, k)) := by
  have n1 := zIv_np I
  have n2 := zIv_np6 I
  have n4 := zIv_nf64 I
  have hb : ∀ q, sMany T q false ≤ 64 := fun q => by
    have h1 := zct_le (fun f => sHasD T q false f 12) (sNf T) 0 0
    unfold sMany
    omega
  rw [sTaken_eq I]
  simp only [b271_0, ↓zn_l, zl_0, zl_1, zl_2, zl_3, zl_4, zl_5, zl_6, zl_7, zl_8, zl_9, zl_10, zl_11, zl_12, zl_13, zl_14, zl_15, zl_16, zl_17, zl_18, zl_19, zl_20, zl_21, zl_22, zl_23, zl_24, zl_25, zl_26, zl_27, zl_28, zl_29, zl_30, zl_31, zl_32, zl_36, zl_46, zl_48, zl_50, zl_57, zl_63, zl_64, zl_72, zl_97, zl_99, zl_100, zl_101, zl_122, zl_127, zl_200, zl_255, zl_406, zl_534, zl_540, zl_600, zl_9999, zl_33, zl_34, zl_35, zl_37, zl_38, zl_39, zl_40, zl_41, zl_42, zl_43, zl_44, zl_45, zl_47, zl_49, zl_52, zl_53, zl_54, zl_55, zl_58, zl_59, zl_60, zl_61, zl_62, zl_65, zl_70, zl_71, zl_98, zl_102, zl_103, zl_104, zl_105, zl_110, zl_111, zl_115, zl_120, zl_123, zl_126, zl_128, zl_256, zl_1000, zl_1024]
  have fin : ∀ o, (∀ b, o = some b → b < sNp T ∧ (sOld T b).isSome = true) → zev X 271 4 [.ref 168, .int (zo o), .int (zi (sNp T))] [] (zHP (zrow D 172 s) O, k) = some (.inl (some (.int (zo (o.bind fun b => (sOld T b).map (12 * b + ·))))), (zHP (zrow D 172 s) O, k)) := by
    intro o hJ
    refine b271_4.trans ?_
    simp (disch := first | assumption | omega) only [e168s, S.1.1, n1, ↓zn_l, zl_0, zl_1, zl_2, zl_3, zl_4, zl_5, zl_6, zl_7, zl_8, zl_9, zl_10, zl_11, zl_12, zl_13, zl_14, zl_15, zl_16, zl_17, zl_18, zl_19, zl_20, zl_21, zl_22, zl_23, zl_24, zl_25, zl_26, zl_27, zl_28, zl_29, zl_30, zl_31, zl_32, zl_36, zl_46, zl_48, zl_50, zl_57, zl_63, zl_64, zl_72, zl_97, zl_99, zl_100, zl_101, zl_122, zl_127, zl_200, zl_255, zl_406, zl_534, zl_540, zl_600, zl_9999, zl_33, zl_34, zl_35, zl_37, zl_38, zl_39, zl_40, zl_41, zl_42, zl_43, zl_44, zl_45, zl_47, zl_49, zl_52, zl_53, zl_54, zl_55, zl_58, zl_59, zl_60, zl_61, zl_62, zl_65, zl_70, zl_71, zl_98, zl_102, zl_103, zl_104, zl_105, zl_110, zl_111, zl_115, zl_120, zl_123, zl_126, zl_128, zl_256, zl_1000, zl_1024, zcon_inl, zcon_inr, Option.toList_some, Option.toList_none, List.cons_append, List.nil_append, List.append_nil, Nat.add_zero, zbind_some, zi_toNat, zi_lt, zi_inj, zi_add, zi_mul, zi_ne_zn, zn_ne_zi, zn_lt_zi, zi_lt_zn, Nat.not_lt_zero, false_or, if_true, if_false, true_or, or_false, Nat.reduceEqDiff, eq_self, Nat.lt_irrefl]
    cases o with
    | none => simp only [zo, if_true, Option.bind_none]
    | some b =>
      obtain ⟨hb1, hb2⟩ := hJ b rfl
      have e272 := m272 (X := X) (D := D) (O := O) (k := k) I S R hb1
      obtain ⟨g, hg⟩ := Option.isSome_iff_exists.mp hb2
      rw [hg] at e272
      simp (disch := first | assumption | omega) only [zo, zi_ne_zn, if_false, e272, zcon_inl, Option.toList_some, List.cons_append, List.nil_append]
      refine b271_67.trans ?_
      simp only [Option.bind_some, hg, Option.map_some, zi_mul, zi_add]
  have main : ∀ d i o, i + d = sNp T → (∀ b, o = some b → b < i ∧ (sOld T b).isSome = true) → zev X 271 4 [.ref 168, .int (zo o), .int (zi i)] [] (zHP (zrow D 172 s) O, k) = some (.inl (some (.int (zo ((zfo (sPick T) d i o).bind fun b => (sOld T b).map (12 * b + ·))))), (zHP (zrow D 172 s) O, k)) := by
    intro d
    induction d with
    | zero =>
      intro i o hi hJ
      have : i = sNp T := by omega
      subst this
      exact fin o hJ
    | succ d ih =>
      intro i o hi hJ
      have hi2 : i < sNp T := by omega
      have hbi := hb i
      have e272 := m272 (X := X) (D := D) (O := O) (k := k) I S R hi2
      have e225 := m225 (X := X) (O := O) (k := k) (o := false) I S R hi2
      rw [zb_f] at e225
      have step : zev X 271 4 [.ref 168, .int (zo o), .int (zi i)] [] (zHP (zrow D 172 s) O, k) = zev X 271 4 [.ref 168, .int (zo (sPick T i o)), .int (zi (i + 1))] [] (zHP (zrow D 172 s) O, k) := by
        refine b271_4.trans ?_
        simp (disch := first | assumption | omega) only [e168s, S.1.1, n1, ↓zn_l, zl_0, zl_1, zl_2, zl_3, zl_4, zl_5, zl_6, zl_7, zl_8, zl_9, zl_10, zl_11, zl_12, zl_13, zl_14, zl_15, zl_16, zl_17, zl_18, zl_19, zl_20, zl_21, zl_22, zl_23, zl_24, zl_25, zl_26, zl_27, zl_28, zl_29, zl_30, zl_31, zl_32, zl_36, zl_46, zl_48, zl_50, zl_57, zl_63, zl_64, zl_72, zl_97, zl_99, zl_100, zl_101, zl_122, zl_127, zl_200, zl_255, zl_406, zl_534, zl_540, zl_600, zl_9999, zl_33, zl_34, zl_35, zl_37, zl_38, zl_39, zl_40, zl_41, zl_42, zl_43, zl_44, zl_45, zl_47, zl_49, zl_52, zl_53, zl_54, zl_55, zl_58, zl_59, zl_60, zl_61, zl_62, zl_65, zl_70, zl_71, zl_98, zl_102, zl_103, zl_104, zl_105, zl_110, zl_111, zl_115, zl_120, zl_123, zl_126, zl_128, zl_256, zl_1000, zl_1024, zcon_inl, zcon_inr, Option.toList_some, Option.toList_none, List.cons_append, List.nil_append, List.append_nil, Nat.add_zero, zbind_some, zi_toNat, zi_lt, zi_inj, zi_add, zi_mul, zi_ne_zn, zn_ne_zi, zn_lt_zi, zi_lt_zn, Nat.not_lt_zero, false_or, if_true, if_false, true_or, or_false, Nat.reduceEqDiff, eq_self, hi2, e272]
        refine b271_17.trans ?_
        unfold sPick
        cases ho : sOld T i with
        | none => simp only [↓zn_l, zl_0, zl_1, zl_2, zl_3, zl_4, zl_5, zl_6, zl_7, zl_8, zl_9, zl_10, zl_11, zl_12, zl_13, zl_14, zl_15, zl_16, zl_17, zl_18, zl_19, zl_20, zl_21, zl_22, zl_23, zl_24, zl_25, zl_26, zl_27, zl_28, zl_29, zl_30, zl_31, zl_32, zl_36, zl_46, zl_48, zl_50, zl_57, zl_63, zl_64, zl_72, zl_97, zl_99, zl_100, zl_101, zl_122, zl_127, zl_200, zl_255, zl_406, zl_534, zl_540, zl_600, zl_9999, zl_33, zl_34, zl_35, zl_37, zl_38, zl_39, zl_40, zl_41, zl_42, zl_43, zl_44, zl_45, zl_47, zl_49, zl_52, zl_53, zl_54, zl_55, zl_58, zl_59, zl_60, zl_61, zl_62, zl_65, zl_70, zl_71, zl_98, zl_102, zl_103, zl_104, zl_105, zl_110, zl_111, zl_115, zl_120, zl_123, zl_126, zl_128, zl_256, zl_1000, zl_1024, zo, if_true, Option.isSome_none, Bool.false_and, Bool.false_eq_true, if_false, zi_add]
        | some g =>
          have hg : g < 12 := by
            have := zfo_lt (sOldF_or T i) 12 0 none (by intro b q; cases q) g ho
            omega
          simp (disch := first | assumption | omega) only [↓zn_l, zl_0, zl_1, zl_2, zl_3, zl_4, zl_5, zl_6, zl_7, zl_8, zl_9, zl_10, zl_11, zl_12, zl_13, zl_14, zl_15, zl_16, zl_17, zl_18, zl_19, zl_20, zl_21, zl_22, zl_23, zl_24, zl_25, zl_26, zl_27, zl_28, zl_29, zl_30, zl_31, zl_32, zl_36, zl_46, zl_48, zl_50, zl_57, zl_63, zl_64, zl_72, zl_97, zl_99, zl_100, zl_101, zl_122, zl_127, zl_200, zl_255, zl_406, zl_534, zl_540, zl_600, zl_9999, zl_33, zl_34, zl_35, zl_37, zl_38, zl_39, zl_40, zl_41, zl_42, zl_43, zl_44, zl_45, zl_47, zl_49, zl_52, zl_53, zl_54, zl_55, zl_58, zl_59, zl_60, zl_61, zl_62, zl_65, zl_70, zl_71, zl_98, zl_102, zl_103, zl_104, zl_105, zl_110, zl_111, zl_115, zl_120, zl_123, zl_126, zl_128, zl_256, zl_1000, zl_1024, zo, zi_ne_zn, if_false, Option.isSome_some, Bool.true_and]
          cases o with
          | none => simp only [zo, if_true, zi_add]
          | some b =>
            obtain ⟨hb1, hb2⟩ := hJ b rfl
            have hbb := hb b
            have e225b := m225 (X := X) (O := O) (k := k) (o := false) I S R (show b < sNp T by omega)
            rw [zb_f] at e225b
            simp (disch := first | assumption | omega) only [zo, zi_ne_zn, if_false, e225, zcon_inl, Option.toList_some, List.cons_append, List.nil_append]
            refine b271_32.trans ?_
            simp (disch := first | assumption | omega) only [↓zn_l, zl_0, zl_1, zl_2, zl_3, zl_4, zl_5, zl_6, zl_7, zl_8, zl_9, zl_10, zl_11, zl_12, zl_13, zl_14, zl_15, zl_16, zl_17, zl_18, zl_19, zl_20, zl_21, zl_22, zl_23, zl_24, zl_25, zl_26, zl_27, zl_28, zl_29, zl_30, zl_31, zl_32, zl_36, zl_46, zl_48, zl_50, zl_57, zl_63, zl_64, zl_72, zl_97, zl_99, zl_100, zl_101, zl_122, zl_127, zl_200, zl_255, zl_406, zl_534, zl_540, zl_600, zl_9999, zl_33, zl_34, zl_35, zl_37, zl_38, zl_39, zl_40, zl_41, zl_42, zl_43, zl_44, zl_45, zl_47, zl_49, zl_52, zl_53, zl_54, zl_55, zl_58, zl_59, zl_60, zl_61, zl_62, zl_65, zl_70, zl_71, zl_98, zl_102, zl_103, zl_104, zl_105, zl_110, zl_111, zl_115, zl_120, zl_123, zl_126, zl_128, zl_256, zl_1000, zl_1024, e225b, zcon_inl, Option.toList_some, List.cons_append, List.nil_append]
            refine b271_38.trans ?_
            by_cases hl : sMany T b false < sMany T i false <;> simp (disch := first | assumption | omega) only [↓zn_l, zl_0, zl_1, zl_2, zl_3, zl_4, zl_5, zl_6, zl_7, zl_8, zl_9, zl_10, zl_11, zl_12, zl_13, zl_14, zl_15, zl_16, zl_17, zl_18, zl_19, zl_20, zl_21, zl_22, zl_23, zl_24, zl_25, zl_26, zl_27, zl_28, zl_29, zl_30, zl_31, zl_32, zl_36, zl_46, zl_48, zl_50, zl_57, zl_63, zl_64, zl_72, zl_97, zl_99, zl_100, zl_101, zl_122, zl_127, zl_200, zl_255, zl_406, zl_534, zl_540, zl_600, zl_9999, zl_33, zl_34, zl_35, zl_37, zl_38, zl_39, zl_40, zl_41, zl_42, zl_43, zl_44, zl_45, zl_47, zl_49, zl_52, zl_53, zl_54, zl_55, zl_58, zl_59, zl_60, zl_61, zl_62, zl_65, zl_70, zl_71, zl_98, zl_102, zl_103, zl_104, zl_105, zl_110, zl_111, zl_115, zl_120, zl_123, zl_126, zl_128, zl_256, zl_1000, zl_1024, zi_lt, hl, if_true, if_false, zi_add, decide_true, decide_false, Bool.false_eq_true]
      rw [step, zfo]
      refine ih (i + 1) (sPick T i o) (by omega) (fun b q => ?_)
      rcases sPick_some q with ⟨e, h1⟩ | e
      · rw [e]; exact ⟨by omega, h1⟩
      · have := hJ b e
        exact ⟨by omega, this.2⟩
  exact main (sNp T) 0 none (by omega) (by intro b q; cases q)
end
