/-! Taking pages; the input. -/
def zTk (T : ZD2) : Prop := (∀ r, r < 72 → zAt T r) ∧ T 1 0 = zi (sNp T) ∧ sNp T ≤ 6
def rTakes : Nat → ZD2 → Nat × ZD2
  | 0, T => (0, T)
  | d + 1, T => match sTaken T with
    | none => (0, T)
    | some _ => ((rTakes d (rTake T)).1 + 1, (rTakes d (rTake T)).2)
def rVict : Nat → ZD2 → Option Nat → Option Nat × ZD2
  | 0, T, o => (o, T)
  | d + 1, T, _ => match sTaken T with
    | none => (none, T)
    | some r => rVict d (rTake T) (some r)
theorem rTakes_le : ∀ d T, (rTakes d T).1 ≤ d
  | 0, _ => Nat.le_refl _
  | d + 1, T => by
    rw [rTakes]
    split
    · omega
    · have := rTakes_le d (rTake T)
      show (rTakes d (rTake T)).1 + 1 ≤ d + 1
      omega
theorem uTake_10 {T : ZD2} {r f : Nat} : uTake T r f 1 0 = T 1 0 := by
  unfold uTake uTot
  rw [zw_ne (by omega), zw_row (by omega), uLeave_o (by omega) (by omega)]
theorem uTake_3 {T : ZD2} {r f : Nat} : uTake T r f 3 = zw T 3 (5 * r) zn 3 := by
  unfold uTake uTot
  rw [zw_row (by omega), zw_row (by omega), uLeave_3]
theorem zTk_take {T : ZD2} (h : zTk T) : zTk (rTake T) := by
  unfold rTake
  split
  · exact h
  · rename_i r hr
    have e : uTake T r (sFr T r) 1 0 = T 1 0 := uTake_10
    refine ⟨fun q hq => ?_, ?_, ?_⟩
    · have e3 := congrFun (uTake_3 (T := T) (r := r) (f := sFr T r)) (5 * q)
      by_cases hqr : q = r
      · left
        rw [e3, hqr, zw_self]
      · exact zAt_congr (e3.trans (zw_ne (by omega))) (h.1 q hq)
    · unfold sNp
      rw [e]
      exact h.2.1
    · unfold sNp
      rw [e]
      exact h.2.2
section
variable {X : ZX} {D T : ZD2} {O : ZO2} {k : Nat × Nat × Nat} {x hh m : Nat}
theorem zIv_tk (I : zIv T) : zTk T := ⟨zIv_at I, zIv_np I, zIv_np6 I⟩
theorem c58k (hm : zisM m) (h : zTk T) : zev X 58 0 [.ref m, zJ, zJ, zJ, zJ, zJ] [] (zHP (zmt D m T) O, k) = some (.inl (some (.int (zo (sTaken T)))), (zHP (zmt D m (rTake T)) O, k)) := (c58 hm h.1 h.2.1 h.2.2).1
theorem c58s (hm : zisM m) (h : zTk T) {r : Nat} (hr : sTaken T = some r) : r < 72 := ((c58 (X := (0, fun _ => 0)) (D := fun _ _ => 0) (O := (fun _ => 0, fun _ => 0)) (k := (0, 0, 0)) hm h.1 h.2.1 h.2.2).2 r hr).1
theorem c152 {n : Nat} (I : zIv T) (H : zHs D x hh) (h : D 20 6 = zi 1) (h1 : 1 ≤ n) (h2 : n ≤ 72) : zev X 152 0 [.ref 0, .int (zi n), zJ] [] (zHP (zmt D 20 T) O, k) = some (.inl (some (.int (zi (rTakes n T).1))), (zHP (zmt (uKeep D T x hh) 20 (rTakes n T).2) O, k)) := by
  have e116 := @c116z X (zmt D 20 T) O k n 1 72 h1 h2 (by omega)
  have e13 := c13k (X := X) (O := O) (k := k) I H h
  have loop : ∀ d i U, i + d = n → zTk U → zev X 152 24 [.ref 0, .int (zi n), .int (zi i)] [] (zHP (zmt (uKeep D T x hh) 20 U) O, k) = some (.inl (some (.int (zi (i + (rTakes d U).1)))), (zHP (zmt (uKeep D T x hh) 20 (rTakes d U).2) O, k)) := by
    intro d
    induction d with
    | zero =>
      intro i U hi hU
      have : i = n := by omega
      subst this
      refine b152_24.trans ?_
      simp (disch := first | assumption | omega) only [↓zn_l, zl_0, zl_1, zl_2, zl_3, zl_4, zl_5, zl_6, zl_7, zl_8, zl_9, zl_10, zl_11, zl_12, zl_13, zl_14, zl_15, zl_16, zl_17, zl_18, zl_19, zl_20, zl_21, zl_22, zl_23, zl_24, zl_25, zl_26, zl_27, zl_28, zl_29, zl_30, zl_31, zl_32, zl_36, zl_46, zl_48, zl_50, zl_57, zl_63, zl_64, zl_72, zl_97, zl_99, zl_100, zl_101, zl_122, zl_127, zl_200, zl_255, zl_406, zl_534, zl_540, zl_600, zl_9999, zl_33, zl_34, zl_35, zl_37, zl_38, zl_39, zl_40, zl_41, zl_42, zl_43, zl_44, zl_45, zl_47, zl_49, zl_52, zl_53, zl_54, zl_55, zl_58, zl_59, zl_60, zl_61, zl_62, zl_65, zl_70, zl_71, zl_98, zl_102, zl_103, zl_104, zl_105, zl_110, zl_111, zl_115, zl_120, zl_123, zl_126, zl_128, zl_256, zl_1000, zl_1024, zcon_inl, zcon_inr, Option.toList_some, Option.toList_none, List.cons_append, List.nil_append, List.append_nil, Nat.add_zero, zbind_some, zi_toNat, zi_lt, zi_inj, zi_add, zi_mul, zi_ne_zn, zn_ne_zi, zn_lt_zi, zi_lt_zn, Nat.not_lt_zero, false_or, if_true, if_false, true_or, or_false, Nat.lt_irrefl, rTakes]
    | succ d ih =>
      intro i U hi hU
      have hin : i < n := by omega
      have e58 := @c58k X (uKeep D T x hh) U O k 20 hm20 hU
      refine b152_24.trans ?_
      simp (disch := first | assumption | omega) only [↓zn_l, zl_0, zl_1, zl_2, zl_3, zl_4, zl_5, zl_6, zl_7, zl_8, zl_9, zl_10, zl_11, zl_12, zl_13, zl_14, zl_15, zl_16, zl_17, zl_18, zl_19, zl_20, zl_21, zl_22, zl_23, zl_24, zl_25, zl_26, zl_27, zl_28, zl_29, zl_30, zl_31, zl_32, zl_36, zl_46, zl_48, zl_50, zl_57, zl_63, zl_64, zl_72, zl_97, zl_99, zl_100, zl_101, zl_122, zl_127, zl_200, zl_255, zl_406, zl_534, zl_540, zl_600, zl_9999, zl_33, zl_34, zl_35, zl_37, zl_38, zl_39, zl_40, zl_41, zl_42, zl_43, zl_44, zl_45, zl_47, zl_49, zl_52, zl_53, zl_54, zl_55, zl_58, zl_59, zl_60, zl_61, zl_62, zl_65, zl_70, zl_71, zl_98, zl_102, zl_103, zl_104, zl_105, zl_110, zl_111, zl_115, zl_120, zl_123, zl_126, zl_128, zl_256, zl_1000, zl_1024, zcon_inl, zcon_inr, Option.toList_some, Option.toList_none, List.cons_append, List.nil_append, List.append_nil, Nat.add_zero, zbind_some, zi_toNat, zi_lt, zi_inj, zi_add, zi_mul, zi_ne_zn, zn_ne_zi, zn_lt_zi, zi_lt_zn, Nat.not_lt_zero, false_or, if_true, if_false, true_or, or_false, hin, e58]
      refine b152_36.trans ?_
      rw [rTakes]
      cases hs : sTaken U with
      | none =>
        have e : rTake U = U := by unfold rTake; rw [hs]
        simp (disch := first | assumption | omega) only [↓zn_l, zl_0, zl_1, zl_2, zl_3, zl_4, zl_5, zl_6, zl_7, zl_8, zl_9, zl_10, zl_11, zl_12, zl_13, zl_14, zl_15, zl_16, zl_17, zl_18, zl_19, zl_20, zl_21, zl_22, zl_23, zl_24, zl_25, zl_26, zl_27, zl_28, zl_29, zl_30, zl_31, zl_32, zl_36, zl_46, zl_48, zl_50, zl_57, zl_63, zl_64, zl_72, zl_97, zl_99, zl_100, zl_101, zl_122, zl_127, zl_200, zl_255, zl_406, zl_534, zl_540, zl_600, zl_9999, zl_33, zl_34, zl_35, zl_37, zl_38, zl_39, zl_40, zl_41, zl_42, zl_43, zl_44, zl_45, zl_47, zl_49, zl_52, zl_53, zl_54, zl_55, zl_58, zl_59, zl_60, zl_61, zl_62, zl_65, zl_70, zl_71, zl_98, zl_102, zl_103, zl_104, zl_105, zl_110, zl_111, zl_115, zl_120, zl_123, zl_126, zl_128, zl_256, zl_1000, zl_1024, zcon_inl, zcon_inr, Option.toList_some, Option.toList_none, List.cons_append, List.nil_append, List.append_nil, Nat.add_zero, zbind_some, zi_toNat, zi_lt, zi_inj, zi_add, zi_mul, zi_ne_zn, zn_ne_zi, zn_lt_zi, zi_lt_zn, Nat.not_lt_zero, false_or, if_true, if_false, true_or, or_false, zo, e]
      | some r =>
        have hr := c58s hm20 hU hs
        simp (disch := first | assumption | omega) only [↓zn_l, zl_0, zl_1, zl_2, zl_3, zl_4, zl_5, zl_6, zl_7, zl_8, zl_9, zl_10, zl_11, zl_12, zl_13, zl_14, zl_15, zl_16, zl_17, zl_18, zl_19, zl_20, zl_21, zl_22, zl_23, zl_24, zl_25, zl_26, zl_27, zl_28, zl_29, zl_30, zl_31, zl_32, zl_36, zl_46, zl_48, zl_50, zl_57, zl_63, zl_64, zl_72, zl_97, zl_99, zl_100, zl_101, zl_122, zl_127, zl_200, zl_255, zl_406, zl_534, zl_540, zl_600, zl_9999, zl_33, zl_34, zl_35, zl_37, zl_38, zl_39, zl_40, zl_41, zl_42, zl_43, zl_44, zl_45, zl_47, zl_49, zl_52, zl_53, zl_54, zl_55, zl_58, zl_59, zl_60, zl_61, zl_62, zl_65, zl_70, zl_71, zl_98, zl_102, zl_103, zl_104, zl_105, zl_110, zl_111, zl_115, zl_120, zl_123, zl_126, zl_128, zl_256, zl_1000, zl_1024, zcon_inl, zcon_inr, Option.toList_some, Option.toList_none, List.cons_append, List.nil_append, List.append_nil, Nat.add_zero, zbind_some, zi_toNat, zi_lt, zi_inj, zi_add, zi_mul, zi_ne_zn, zn_ne_zi, zn_lt_zi, zi_lt_zn, Nat.not_lt_zero, false_or, if_true, if_false, true_or, or_false, zo]
        rw [ih (i + 1) _ (by omega) (zTk_take hU), show i + 1 + (rTakes d (rTake U)).1 = i + ((rTakes d (rTake U)).1 + 1) by omega]
  simp (disch := first | assumption | omega) only [b152_0, c114, b152_4, e116, b152_11, e13, b152_22, ↓zn_l, zl_0, zl_1, zl_2, zl_3, zl_4, zl_5, zl_6, zl_7, zl_8, zl_9, zl_10, zl_11, zl_12, zl_13, zl_14, zl_15, zl_16, zl_17, zl_18, zl_19, zl_20, zl_21, zl_22, zl_23, zl_24, zl_25, zl_26, zl_27, zl_28, zl_29, zl_30, zl_31, zl_32, zl_36, zl_46, zl_48, zl_50, zl_57, zl_63, zl_64, zl_72, zl_97, zl_99, zl_100, zl_101, zl_122, zl_127, zl_200, zl_255, zl_406, zl_534, zl_540, zl_600, zl_9999, zl_33, zl_34, zl_35, zl_37, zl_38, zl_39, zl_40, zl_41, zl_42, zl_43, zl_44, zl_45, zl_47, zl_49, zl_52, zl_53, zl_54, zl_55, zl_58, zl_59, zl_60, zl_61, zl_62, zl_65, zl_70, zl_71, zl_98, zl_102, zl_103, zl_104, zl_105, zl_110, zl_111, zl_115, zl_120, zl_123, zl_126, zl_128, zl_256, zl_1000, zl_1024, zcon_inl, zcon_inr, Option.toList_some, Option.toList_none, List.cons_append, List.nil_append, List.append_nil, Nat.add_zero, zbind_some]
  rw [loop n 0 T (by omega) (zIv_tk I), Nat.zero_add]
theorem c144 {n : Nat} (I : zIv T) (h : D 20 6 = zi 1) (hf : zFin (zT D 4)) (h1 : 1 ≤ n) (h2 : n ≤ 72) : zev X 144 0 [.ref 0, .int (zi n), zJ, zJ] [] (zHP (zmt D 20 T) O, k) = some (.inl (some (.int (zo (rVict n T none).1))), (zHP (zmt (zmt (zw D 4 6 (zi 1)) 4 (rVict n T none).2) 20 T) O, k)) := by
  have e116 := @c116z X (zmt D 20 T) O k n 1 72 h1 h2 (by omega)
  have e28 := @c28a X D T O k 4 hm4 zfar4 (Or.inr h) hf (zIv_fin I)
  rw [h, zmt_comm zfar4] at e28
  have loop : ∀ d i U o, i + d = n → zTk U → zev X 144 26 [.ref 0, .int (zi n), .int (zo o), .int (zi i)] [] (zHP (zmt (zmt (zw D 4 6 (zi 1)) 20 T) 4 U) O, k) = some (.inl (some (.int (zo (rVict d U o).1))), (zHP (zmt (zmt (zw D 4 6 (zi 1)) 20 T) 4 (rVict d U o).2) O, k)) := by
    intro d
    induction d with
    | zero =>
      intro i U o hi hU
      have : i = n := by omega
      subst this
      refine b144_26.trans ?_
      simp (disch := first | assumption | omega) only [↓zn_l, zl_0, zl_1, zl_2, zl_3, zl_4, zl_5, zl_6, zl_7, zl_8, zl_9, zl_10, zl_11, zl_12, zl_13, zl_14, zl_15, zl_16, zl_17, zl_18, zl_19, zl_20, zl_21, zl_22, zl_23, zl_24, zl_25, zl_26, zl_27, zl_28, zl_29, zl_30, zl_31, zl_32, zl_36, zl_46, zl_48, zl_50, zl_57, zl_63, zl_64, zl_72, zl_97, zl_99, zl_100, zl_101, zl_122, zl_127, zl_200, zl_255, zl_406, zl_534, zl_540, zl_600, zl_9999, zl_33, zl_34, zl_35, zl_37, zl_38, zl_39, zl_40, zl_41, zl_42, zl_43, zl_44, zl_45, zl_47, zl_49, zl_52, zl_53, zl_54, zl_55, zl_58, zl_59, zl_60, zl_61, zl_62, zl_65, zl_70, zl_71, zl_98, zl_102, zl_103, zl_104, zl_105, zl_110, zl_111, zl_115, zl_120, zl_123, zl_126, zl_128, zl_256, zl_1000, zl_1024, zcon_inl, zcon_inr, Option.toList_some, Option.toList_none, List.cons_append, List.nil_append, List.append_nil, Nat.add_zero, zbind_some, zi_toNat, zi_lt, zi_inj, zi_add, zi_mul, zi_ne_zn, zn_ne_zi, zn_lt_zi, zi_lt_zn, Nat.not_lt_zero, false_or, if_true, if_false, true_or, or_false, Nat.lt_irrefl, rVict]
    | succ d ih =>
      intro i U o hi hU
      have hin : i < n := by omega
      have e58 := @c58k X (zmt (zw D 4 6 (zi 1)) 20 T) U O k 4 hm4 hU
      refine b144_26.trans ?_
      simp (disch := first | assumption | omega) only [↓zn_l, zl_0, zl_1, zl_2, zl_3, zl_4, zl_5, zl_6, zl_7, zl_8, zl_9, zl_10, zl_11, zl_12, zl_13, zl_14, zl_15, zl_16, zl_17, zl_18, zl_19, zl_20, zl_21, zl_22, zl_23, zl_24, zl_25, zl_26, zl_27, zl_28, zl_29, zl_30, zl_31, zl_32, zl_36, zl_46, zl_48, zl_50, zl_57, zl_63, zl_64, zl_72, zl_97, zl_99, zl_100, zl_101, zl_122, zl_127, zl_200, zl_255, zl_406, zl_534, zl_540, zl_600, zl_9999, zl_33, zl_34, zl_35, zl_37, zl_38, zl_39, zl_40, zl_41, zl_42, zl_43, zl_44, zl_45, zl_47, zl_49, zl_52, zl_53, zl_54, zl_55, zl_58, zl_59, zl_60, zl_61, zl_62, zl_65, zl_70, zl_71, zl_98, zl_102, zl_103, zl_104, zl_105, zl_110, zl_111, zl_115, zl_120, zl_123, zl_126, zl_128, zl_256, zl_1000, zl_1024, zcon_inl, zcon_inr, Option.toList_some, Option.toList_none, List.cons_append, List.nil_append, List.append_nil, Nat.add_zero, zbind_some, zi_toNat, zi_lt, zi_inj, zi_add, zi_mul, zi_ne_zn, zn_ne_zi, zn_lt_zi, zi_lt_zn, Nat.not_lt_zero, false_or, if_true, if_false, true_or, or_false, hin, e58]
      refine b144_38.trans ?_
      rw [rVict]
      cases hs : sTaken U with
      | none =>
        have e : rTake U = U := by unfold rTake; rw [hs]
        simp (disch := first | assumption | omega) only [↓zn_l, zl_0, zl_1, zl_2, zl_3, zl_4, zl_5, zl_6, zl_7, zl_8, zl_9, zl_10, zl_11, zl_12, zl_13, zl_14, zl_15, zl_16, zl_17, zl_18, zl_19, zl_20, zl_21, zl_22, zl_23, zl_24, zl_25, zl_26, zl_27, zl_28, zl_29, zl_30, zl_31, zl_32, zl_36, zl_46, zl_48, zl_50, zl_57, zl_63, zl_64, zl_72, zl_97, zl_99, zl_100, zl_101, zl_122, zl_127, zl_200, zl_255, zl_406, zl_534, zl_540, zl_600, zl_9999, zl_33, zl_34, zl_35, zl_37, zl_38, zl_39, zl_40, zl_41, zl_42, zl_43, zl_44, zl_45, zl_47, zl_49, zl_52, zl_53, zl_54, zl_55, zl_58, zl_59, zl_60, zl_61, zl_62, zl_65, zl_70, zl_71, zl_98, zl_102, zl_103, zl_104, zl_105, zl_110, zl_111, zl_115, zl_120, zl_123, zl_126, zl_128, zl_256, zl_1000, zl_1024, zcon_inl, zcon_inr, Option.toList_some, Option.toList_none, List.cons_append, List.nil_append, List.append_nil, Nat.add_zero, zbind_some, zi_toNat, zi_lt, zi_inj, zi_add, zi_mul, zi_ne_zn, zn_ne_zi, zn_lt_zi, zi_lt_zn, Nat.not_lt_zero, false_or, if_true, if_false, true_or, or_false, zo, e]
      | some r =>
        have hr := c58s hm20 hU hs
        simp (disch := first | assumption | omega) only [↓zn_l, zl_0, zl_1, zl_2, zl_3, zl_4, zl_5, zl_6, zl_7, zl_8, zl_9, zl_10, zl_11, zl_12, zl_13, zl_14, zl_15, zl_16, zl_17, zl_18, zl_19, zl_20, zl_21, zl_22, zl_23, zl_24, zl_25, zl_26, zl_27, zl_28, zl_29, zl_30, zl_31, zl_32, zl_36, zl_46, zl_48, zl_50, zl_57, zl_63, zl_64, zl_72, zl_97, zl_99, zl_100, zl_101, zl_122, zl_127, zl_200, zl_255, zl_406, zl_534, zl_540, zl_600, zl_9999, zl_33, zl_34, zl_35, zl_37, zl_38, zl_39, zl_40, zl_41, zl_42, zl_43, zl_44, zl_45, zl_47, zl_49, zl_52, zl_53, zl_54, zl_55, zl_58, zl_59, zl_60, zl_61, zl_62, zl_65, zl_70, zl_71, zl_98, zl_102, zl_103, zl_104, zl_105, zl_110, zl_111, zl_115, zl_120, zl_123, zl_126, zl_128, zl_256, zl_1000, zl_1024, zcon_inl, zcon_inr, Option.toList_some, Option.toList_none, List.cons_append, List.nil_append, List.append_nil, Nat.add_zero, zbind_some, zi_toNat, zi_lt, zi_inj, zi_add, zi_mul, zi_ne_zn, zn_ne_zi, zn_lt_zi, zi_lt_zn, Nat.not_lt_zero, false_or, if_true, if_false, true_or, or_false, zo]
        exact ih (i + 1) _ (some r) (by omega) (zTk_take hU)
  simp (disch := first | assumption | omega) only [b144_0, c114, b144_4, e116, b144_11, e28, b144_22, ↓zn_l, zl_0, zl_1, zl_2, zl_3, zl_4, zl_5, zl_6, zl_7, zl_8, zl_9, zl_10, zl_11, zl_12, zl_13, zl_14, zl_15, zl_16, zl_17, zl_18, zl_19, zl_20, zl_21, zl_22, zl_23, zl_24, zl_25, zl_26, zl_27, zl_28, zl_29, zl_30, zl_31, zl_32, zl_36, zl_46, zl_48, zl_50, zl_57, zl_63, zl_64, zl_72, zl_97, zl_99, zl_100, zl_101, zl_122, zl_127, zl_200, zl_255, zl_406, zl_534, zl_540, zl_600, zl_9999, zl_33, zl_34, zl_35, zl_37, zl_38, zl_39, zl_40, zl_41, zl_42, zl_43, zl_44, zl_45, zl_47, zl_49, zl_52, zl_53, zl_54, zl_55, zl_58, zl_59, zl_60, zl_61, zl_62, zl_65, zl_70, zl_71, zl_98, zl_102, zl_103, zl_104, zl_105, zl_110, zl_111, zl_115, zl_120, zl_123, zl_126, zl_128, zl_256, zl_1000, zl_1024, zcon_inl, zcon_inr, Option.toList_some, Option.toList_none, List.cons_append, List.nil_append, List.append_nil, Nat.add_zero, zbind_some]
  rw [← zmt_comm zfar4.symm]
  exact loop n 0 T none (by omega) (zIv_tk I)
/-- bytes put behind the input -/
def uIn1 (D : ZD2) (v : Int32) : ZD2 := zw (zw D 3 (D 2 1).toNatClampNeg (v &&& zi 255)) 2 1 (D 2 1 + zi 1)
def uIns (D : ZD2) : List Int32 → ZD2
  | [] => D
  | v :: w => uIns (uIn1 D v) w
theorem uIn1_len {D : ZD2} {n : Nat} {v : Int32} (h : D 2 1 = zi n) : uIn1 D v 2 1 = zi (n + 1) := by
  unfold uIn1
  rw [zw_self, h, zi_add]
theorem uIns_len {n : Nat} : ∀ {w : List Int32} {D : ZD2}, D 2 1 = zi n → uIns D w 2 1 = zi (n + w.length) := by
  intro w
  induction w generalizing n with
  | nil => intro D h; exact h
  | cons v w ih =>
    intro D h
    rw [uIns, ih (uIn1_len h), List.length_cons]
    congr 1
    omega
theorem uIns_o {a : Nat} (h8 : a ≠ 2) (h9 : a ≠ 3) : ∀ (w : List Int32) (D : ZD2), uIns D w a = D a
  | [], _ => rfl
  | v :: w, D => by
    rw [uIns, uIns_o h8 h9 w]
    unfold uIn1
    rw [zw_row h8, zw_row h9]
theorem uIns_app (D : ZD2) : ∀ (w w' : List Int32), uIns D (w ++ w') = uIns (uIns D w) w'
  | [], _ => rfl
  | v :: w, w' => uIns_app (uIn1 D v) w w'
theorem uIns_at {n : Nat} : ∀ {w : List Int32} {D : ZD2} (j : Nat), D 2 1 = zi n → n + w.length < 2147483648 → uIns D w 3 j = if j < n then D 3 j else match w[j - n]? with | some v => v &&& zi 255 | none => D 3 j := by
  intro w
  induction w generalizing n with
  | nil =>
    intro D j h hn
    rw [uIns]
    split
    · rfl
    · simp
  | cons v w ih =>
    intro D j h hn
    rw [List.length_cons] at hn
    rw [uIns, ih j (uIn1_len h) (by omega)]
    unfold uIn1
    rw [h, zi_toNat (by omega)]
    simp (disch := first | assumption | omega) only [zw_row]
    by_cases h1 : j < n
    · rw [if_pos (by omega), if_pos h1, zw_ne (by omega)]
    · rw [if_neg h1]
      by_cases h2 : j = n
      · subst h2
        rw [if_pos (by omega), zw_self, Nat.sub_self]
        rfl
      · rw [if_neg (by omega), zw_ne (by omega), show j - n = (j - (n + 1)) + 1 by omega, List.getElem?_cons_succ]
theorem c3i {v : Int32} {n : Nat} (hn : D 2 1 = zi n) (h : n < 600) : zev X 3 0 [.ref 2, .int v] [] (zHP D O, k) = some (.inl none, (zHP (uIn1 D v) O, k)) := by
  have h2 : ¬ 600 ≤ n := by omega
  rw [b3_0 zisB_2]
  have e : Int32.ofNat 600 = zi 600 := rfl
  simp (disch := first | assumption | omega) only [hn, e, ↓zn_l, zl_0, zl_1, zl_2, zl_3, zl_4, zl_5, zl_6, zl_7, zl_8, zl_9, zl_10, zl_11, zl_12, zl_13, zl_14, zl_15, zl_16, zl_17, zl_18, zl_19, zl_20, zl_21, zl_22, zl_23, zl_24, zl_25, zl_26, zl_27, zl_28, zl_29, zl_30, zl_31, zl_32, zl_36, zl_46, zl_48, zl_50, zl_57, zl_63, zl_64, zl_72, zl_97, zl_99, zl_100, zl_101, zl_122, zl_127, zl_200, zl_255, zl_406, zl_534, zl_540, zl_600, zl_9999, zl_33, zl_34, zl_35, zl_37, zl_38, zl_39, zl_40, zl_41, zl_42, zl_43, zl_44, zl_45, zl_47, zl_49, zl_52, zl_53, zl_54, zl_55, zl_58, zl_59, zl_60, zl_61, zl_62, zl_65, zl_70, zl_71, zl_98, zl_102, zl_103, zl_104, zl_105, zl_110, zl_111, zl_115, zl_120, zl_123, zl_126, zl_128, zl_256, zl_1000, zl_1024, zcon_inl, zcon_inr, Option.toList_some, Option.toList_none, List.cons_append, List.nil_append, List.append_nil, Nat.add_zero, zbind_some, zi_toNat, zi_lt, zi_inj, zi_add, zi_mul, zi_ne_zn, zn_ne_zi, zn_lt_zi, zi_lt_zn, Nat.not_lt_zero, false_or, if_true, if_false, true_or, or_false, h, h2]
  unfold uIn1
  rw [hn, zi_toNat (by omega)]
  simp (disch := first | assumption | omega) only [zw_ne, hn, zi_add]
def sInt (v : Int32) : List Int32 := [v >>> (zi 24 &&& 31), v >>> (zi 16 &&& 31), v >>> (zi 8 &&& 31), v]
theorem c2 {v : Int32} {n : Nat} (hn : D 2 1 = zi n) (h : n + 4 ≤ 600) : zev X 2 0 [.ref 2, .int v] [] (zHP D O, k) = some (.inl none, (zHP (uIns D (sInt v)) O, k)) := by
  have n1 := uIn1_len (v := v >>> (zi 24 &&& 31)) hn
  have n2 := uIn1_len (v := v >>> (zi 16 &&& 31)) n1
  have n3 := uIn1_len (v := v >>> (zi 8 &&& 31)) n2
  rw [b2_0 zisB_2, zl_24, c3i hn (by omega), zcon_inl]
  show zev X 2 8 _ [] _ = _
  rw [b2_8 zisB_2, zl_16, c3i n1 (by omega), zcon_inl]
  show zev X 2 16 _ [] _ = _
  rw [b2_16 zisB_2, zl_8, c3i n2 (by omega), zcon_inl]
  show zev X 2 24 _ [] _ = _
  rw [b2_24 zisB_2, c3i n3 (by omega), zcon_inl]
  exact b2_29
def sApp (a b c d e : Int32) : List Int32 := sInt a ++ (sInt b ++ (sInt c ++ (sInt d ++ sInt e)))
theorem c106 {a b c d e : Int32} {n : Nat} (hn : D 2 1 = zi n) (h : n ≤ 580) : zev X 106 0 [.ref 0, .int a, .int b, .int c, .int d, .int e] [] (zHP D O, k) = some (.inl (some (.int (zi (n + 20)))), (zHP (uIns D (sApp a b c d e)) O, k)) := by
  have n1 := uIns_len (w := sInt a) hn
  have n2 := uIns_len (w := sInt b) n1
  have n3 := uIns_len (w := sInt c) n2
  have n4 := uIns_len (w := sInt d) n3
  have n5 := uIns_len (w := sInt e) n4
  have hl : ∀ v, (sInt v).length = 4 := fun _ => rfl
  rw [hl] at n1 n2 n3 n4 n5
  rw [hl] at n2 n3 n4 n5
  rw [hl] at n3 n4 n5
  rw [hl] at n4 n5
  rw [hl] at n5
  have e1 := @c2 X D O k a n hn (by omega)
  have e2 := @c2 X _ O k b _ n1 (by omega)
  have e3 := @c2 X _ O k c _ n2 (by omega)
  have e4 := @c2 X _ O k d _ n3 (by omega)
  have e5 := @c2 X _ O k e _ n4 (by omega)
  have hc : ¬ 600 < n + 20 := by omega
  simp (disch := first | assumption | omega) only [b106_0, c1i, hn, b106_7, ↓zn_l, zl_0, zl_1, zl_2, zl_3, zl_4, zl_5, zl_6, zl_7, zl_8, zl_9, zl_10, zl_11, zl_12, zl_13, zl_14, zl_15, zl_16, zl_17, zl_18, zl_19, zl_20, zl_21, zl_22, zl_23, zl_24, zl_25, zl_26, zl_27, zl_28, zl_29, zl_30, zl_31, zl_32, zl_36, zl_46, zl_48, zl_50, zl_57, zl_63, zl_64, zl_72, zl_97, zl_99, zl_100, zl_101, zl_122, zl_127, zl_200, zl_255, zl_406, zl_534, zl_540, zl_600, zl_9999, zl_33, zl_34, zl_35, zl_37, zl_38, zl_39, zl_40, zl_41, zl_42, zl_43, zl_44, zl_45, zl_47, zl_49, zl_52, zl_53, zl_54, zl_55, zl_58, zl_59, zl_60, zl_61, zl_62, zl_65, zl_70, zl_71, zl_98, zl_102, zl_103, zl_104, zl_105, zl_110, zl_111, zl_115, zl_120, zl_123, zl_126, zl_128, zl_256, zl_1000, zl_1024, zcon_inl, zcon_inr, Option.toList_some, Option.toList_none, List.cons_append, List.nil_append, List.append_nil, Nat.add_zero, zbind_some, zi_toNat, zi_lt, zi_inj, zi_add, zi_mul, zi_ne_zn, zn_ne_zi, zn_lt_zi, zi_lt_zn, Nat.not_lt_zero, false_or, if_true, if_false, true_or, or_false, hc, e1, b106_26, e2, b106_34, e3, b106_42, e4, b106_51, e5, b106_60, b106_67, n5]
  simp only [sApp, uIns_app]
theorem c106n {a b c d e : Int32} {n : Nat} (hn : D 2 1 = zi n) (h : 580 < n) (h6 : n ≤ 600) : zev X 106 0 [.ref 0, .int a, .int b, .int c, .int d, .int e] [] (zHP D O, k) = some (.inl (some (.int zn)), (zHP D O, k)) := by
  have hc : 600 < n + 20 := by omega
  simp (disch := first | assumption | omega) only [b106_0, c1i, hn, b106_7, ↓zn_l, zl_0, zl_1, zl_2, zl_3, zl_4, zl_5, zl_6, zl_7, zl_8, zl_9, zl_10, zl_11, zl_12, zl_13, zl_14, zl_15, zl_16, zl_17, zl_18, zl_19, zl_20, zl_21, zl_22, zl_23, zl_24, zl_25, zl_26, zl_27, zl_28, zl_29, zl_30, zl_31, zl_32, zl_36, zl_46, zl_48, zl_50, zl_57, zl_63, zl_64, zl_72, zl_97, zl_99, zl_100, zl_101, zl_122, zl_127, zl_200, zl_255, zl_406, zl_534, zl_540, zl_600, zl_9999, zl_33, zl_34, zl_35, zl_37, zl_38, zl_39, zl_40, zl_41, zl_42, zl_43, zl_44, zl_45, zl_47, zl_49, zl_52, zl_53, zl_54, zl_55, zl_58, zl_59, zl_60, zl_61, zl_62, zl_65, zl_70, zl_71, zl_98, zl_102, zl_103, zl_104, zl_105, zl_110, zl_111, zl_115, zl_120, zl_123, zl_126, zl_128, zl_256, zl_1000, zl_1024, zcon_inl, zcon_inr, Option.toList_some, Option.toList_none, List.cons_append, List.nil_append, List.append_nil, Nat.add_zero, zbind_some, zi_toNat, zi_lt, zi_inj, zi_add, zi_mul, zi_ne_zn, zn_ne_zi, zn_lt_zi, zi_lt_zn, Nat.not_lt_zero, false_or, if_true, if_false, true_or, or_false, hc]
end
