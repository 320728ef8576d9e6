/-! How a machine's writing methods change its tables. -/
def zfn (p : Nat → Bool) : Nat → Nat → Option Nat
  | 0, _ => none
  | d + 1, i => if p i then some i else zfn p d (i + 1)
theorem zff_o (p : Nat → Bool) : ∀ d i, zff p d i = zo (zfn p d i)
  | 0, _ => rfl
  | d + 1, i => by
    rw [zff, zfn, zff_o p d (i + 1)]
    split <;> rfl
theorem zfn_some {p : Nat → Bool} : ∀ {d i j : Nat}, zfn p d i = some j → i ≤ j ∧ j < i + d ∧ p j = true
  | 0, _, _, h => by cases h
  | d + 1, i, j, h => by
    rw [zfn] at h
    split at h
    · cases h
      exact ⟨Nat.le_refl _, by omega, by assumption⟩
    · obtain ⟨h1, h2, h3⟩ := zfn_some h
      exact ⟨by omega, by omega, h3⟩
def uEnter (T : ZD2) (r f : Nat) : ZD2 := zw (zw T 3 (5 * r) (zi f)) 4 (3 * f) (T 4 (3 * f) + zi 1)
def uLeft (T : ZD2) (r f : Nat) : ZD2 := zw (zw T 3 (5 * r) zn) 4 (3 * f) (T 4 (3 * f) + zn)
def uFly (T : ZD2) (f : Nat) (fly : Bool) : ZD2 := if fly && (sDirty T f && decide (zi 0 < T 0 2)) then zw T 4 (3 * f + 2) (T 1 5 + T 0 2) else T
def uLeave (T : ZD2) (r f : Nat) (fly : Bool) : ZD2 := if zi 0 < T 4 (3 * f) + zn then uLeft T r f else zw (uFly (uLeft T r f) f fly) 4 (3 * f + 1) (zi 0)
def uUsed (T : ZD2) (r : Nat) : ZD2 := zw (zw T 3 (5 * r + 1) (T 1 5)) 1 6 (T 1 6 + zi 1)
def uUse (T : ZD2) (r f : Nat) (w : Bool) : ZD2 := if w then zw (uUsed T r) 4 (3 * f + 1) (zi 1) else uUsed T r
def uForget (T : ZD2) (r : Nat) : ZD2 := zw (zw T 3 (5 * r + 3) zn) 3 (5 * r + 4) zn
def zMn (a b : Int32) : Int32 := if a < b then a else b
def zMx (a b : Int32) : Int32 := if a < b then b else a
def uTrust (T : ZD2) (p : Nat) (y : Int32) : ZD2 := zw T 2 (12 * p + 4) (zMx (zi 1) (zMn (T 2 (12 * p + 4) + y) (zi 100)))
def uTot (T : ZD2) (c : Nat) : ZD2 := zw T 1 c (T 1 c + zi 1)
section
variable {X : ZX} {D T : ZD2} {O : ZO2} {k : Nat × Nat × Nat} {m : Nat}
theorem c26 {r f : Nat} (hm : zisM m) (hr : r < 72) (hf : f < 64) : zev X 26 0 [.ref m, .int (zi r), .int (zi f)] [] (zHP (zmt D m T) O, k) = some (.inl none, (zHP (zmt D m (uEnter T r f)) O, k)) := by
  simp (disch := first | assumption | omega) only [b26_0, b26_10, b26_20, tp3, ta4, ↓zn_l, zl_0, zl_1, zl_2, zl_3, zl_4, zl_5, zl_6, zl_7, zl_8, zl_9, zl_10, zl_11, zl_12, zl_13, zl_14, zl_15, zl_16, zl_17, zl_18, zl_19, zl_20, zl_21, zl_22, zl_23, zl_24, zl_25, zl_26, zl_27, zl_28, zl_29, zl_30, zl_31, zl_32, zl_36, zl_46, zl_48, zl_50, zl_57, zl_63, zl_64, zl_72, zl_97, zl_99, zl_100, zl_101, zl_122, zl_127, zl_200, zl_255, zl_406, zl_534, zl_540, zl_600, zl_9999, zl_33, zl_34, zl_35, zl_37, zl_38, zl_39, zl_40, zl_41, zl_42, zl_43, zl_44, zl_45, zl_47, zl_49, zl_52, zl_53, zl_54, zl_55, zl_58, zl_59, zl_60, zl_61, zl_62, zl_65, zl_70, zl_71, zl_98, zl_102, zl_103, zl_104, zl_105, zl_110, zl_111, zl_115, zl_120, zl_123, zl_126, zl_128, zl_256, zl_1000, zl_1024, zcon_inl, zcon_inr, Option.toList_some, Option.toList_none, List.cons_append, List.nil_append, List.append_nil, Nat.add_zero, zbind_some, zi_toNat, zi_lt, zi_inj, zi_add, zi_mul, zi_ne_zn, zn_ne_zi, zn_lt_zi, zi_lt_zn, Nat.not_lt_zero, false_or, if_true, if_false, true_or, or_false, zw_ne]
  rfl
theorem c51 {r f : Nat} {w : Bool} (hm : zisM m) (hr : r < 72) (hf : f < 64) (ha : T 3 (5 * r) = zi f) : zev X 51 0 [.ref m, .int (zi r), .int (zb w)] [] (zHP (zmt D m T) O, k) = some (.inl none, (zHP (zmt D m (uUse T r f w)) O, k)) := by
  simp (disch := first | assumption | omega) only [b51_0, b51_10, b51_13, b51_24, b51_41, b51_46, c32, tp3, ta1, tg3, ↓zn_l, zl_0, zl_1, zl_2, zl_3, zl_4, zl_5, zl_6, zl_7, zl_8, zl_9, zl_10, zl_11, zl_12, zl_13, zl_14, zl_15, zl_16, zl_17, zl_18, zl_19, zl_20, zl_21, zl_22, zl_23, zl_24, zl_25, zl_26, zl_27, zl_28, zl_29, zl_30, zl_31, zl_32, zl_36, zl_46, zl_48, zl_50, zl_57, zl_63, zl_64, zl_72, zl_97, zl_99, zl_100, zl_101, zl_122, zl_127, zl_200, zl_255, zl_406, zl_534, zl_540, zl_600, zl_9999, zl_33, zl_34, zl_35, zl_37, zl_38, zl_39, zl_40, zl_41, zl_42, zl_43, zl_44, zl_45, zl_47, zl_49, zl_52, zl_53, zl_54, zl_55, zl_58, zl_59, zl_60, zl_61, zl_62, zl_65, zl_70, zl_71, zl_98, zl_102, zl_103, zl_104, zl_105, zl_110, zl_111, zl_115, zl_120, zl_123, zl_126, zl_128, zl_256, zl_1000, zl_1024, zcon_inl, zcon_inr, Option.toList_some, Option.toList_none, List.cons_append, List.nil_append, List.append_nil, Nat.add_zero, zbind_some, zi_toNat, zi_lt, zi_inj, zi_add, zi_mul, zi_ne_zn, zn_ne_zi, zn_lt_zi, zi_lt_zn, Nat.not_lt_zero, false_or, if_true, if_false, true_or, or_false, zw_ne, zb_0, ha, tp4]
  cases w <;> rfl
theorem c53 {r : Nat} (hm : zisM m) (hr : r < 72) : zev X 53 0 [.ref m, .int (zi r)] [] (zHP (zmt D m T) O, k) = some (.inl none, (zHP (zmt D m (uForget T r)) O, k)) := by
  simp (disch := first | assumption | omega) only [b53_0, b53_10, b53_20, tp3, ↓zn_l, zl_0, zl_1, zl_2, zl_3, zl_4, zl_5, zl_6, zl_7, zl_8, zl_9, zl_10, zl_11, zl_12, zl_13, zl_14, zl_15, zl_16, zl_17, zl_18, zl_19, zl_20, zl_21, zl_22, zl_23, zl_24, zl_25, zl_26, zl_27, zl_28, zl_29, zl_30, zl_31, zl_32, zl_36, zl_46, zl_48, zl_50, zl_57, zl_63, zl_64, zl_72, zl_97, zl_99, zl_100, zl_101, zl_122, zl_127, zl_200, zl_255, zl_406, zl_534, zl_540, zl_600, zl_9999, zl_33, zl_34, zl_35, zl_37, zl_38, zl_39, zl_40, zl_41, zl_42, zl_43, zl_44, zl_45, zl_47, zl_49, zl_52, zl_53, zl_54, zl_55, zl_58, zl_59, zl_60, zl_61, zl_62, zl_65, zl_70, zl_71, zl_98, zl_102, zl_103, zl_104, zl_105, zl_110, zl_111, zl_115, zl_120, zl_123, zl_126, zl_128, zl_256, zl_1000, zl_1024, zcon_inl, zcon_inr, Option.toList_some, Option.toList_none, List.cons_append, List.nil_append, List.append_nil, Nat.add_zero, zbind_some, zi_toNat, zi_lt, zi_inj, zi_add, zi_mul, zi_ne_zn, zn_ne_zi, zn_lt_zi, zi_lt_zn, Nat.not_lt_zero, false_or, if_true, if_false, true_or, or_false]
  rfl
theorem c54 {p : Nat} {y : Int32} (hm : zisM m) (hp : p < 6) : zev X 54 0 [.ref m, .int (zi p), .int y, zJ] [] (zHP (zmt D m T) O, k) = some (.inl none, (zHP (zmt D m (uTrust T p y)) O, k)) := by
  simp (disch := first | assumption | omega) only [b54_0, b54_9, b54_31, tg2, tp2, ↓zn_l, zl_0, zl_1, zl_2, zl_3, zl_4, zl_5, zl_6, zl_7, zl_8, zl_9, zl_10, zl_11, zl_12, zl_13, zl_14, zl_15, zl_16, zl_17, zl_18, zl_19, zl_20, zl_21, zl_22, zl_23, zl_24, zl_25, zl_26, zl_27, zl_28, zl_29, zl_30, zl_31, zl_32, zl_36, zl_46, zl_48, zl_50, zl_57, zl_63, zl_64, zl_72, zl_97, zl_99, zl_100, zl_101, zl_122, zl_127, zl_200, zl_255, zl_406, zl_534, zl_540, zl_600, zl_9999, zl_33, zl_34, zl_35, zl_37, zl_38, zl_39, zl_40, zl_41, zl_42, zl_43, zl_44, zl_45, zl_47, zl_49, zl_52, zl_53, zl_54, zl_55, zl_58, zl_59, zl_60, zl_61, zl_62, zl_65, zl_70, zl_71, zl_98, zl_102, zl_103, zl_104, zl_105, zl_110, zl_111, zl_115, zl_120, zl_123, zl_126, zl_128, zl_256, zl_1000, zl_1024, zcon_inl, zcon_inr, Option.toList_some, Option.toList_none, List.cons_append, List.nil_append, List.append_nil, Nat.add_zero, zbind_some, zi_toNat, zi_lt, zi_inj, zi_add, zi_mul, zi_ne_zn, zn_ne_zi, zn_lt_zi, zi_lt_zn, Nat.not_lt_zero, false_or, if_true, if_false, true_or, or_false]
  rfl
theorem c56 {r f : Nat} {w : Bool} (hm : zisM m) (hr : r < 72) (hf : f < 64) (ha : T 3 (5 * r) = zi f) : zev X 56 0 [.ref m, .int (zi r), .int (zb w), zJ, zJ] [] (zHP (zmt D m T) O, k) = some (.inl none, (zHP (zmt D m (uLeave T r f w)) O, k)) := by
  simp (disch := first | assumption | omega) only [b56_0, b56_9, b56_20, b56_30, b56_39, tg3, tp3, ta4, tg4, tg0, ↓zn_l, zl_0, zl_1, zl_2, zl_3, zl_4, zl_5, zl_6, zl_7, zl_8, zl_9, zl_10, zl_11, zl_12, zl_13, zl_14, zl_15, zl_16, zl_17, zl_18, zl_19, zl_20, zl_21, zl_22, zl_23, zl_24, zl_25, zl_26, zl_27, zl_28, zl_29, zl_30, zl_31, zl_32, zl_36, zl_46, zl_48, zl_50, zl_57, zl_63, zl_64, zl_72, zl_97, zl_99, zl_100, zl_101, zl_122, zl_127, zl_200, zl_255, zl_406, zl_534, zl_540, zl_600, zl_9999, zl_33, zl_34, zl_35, zl_37, zl_38, zl_39, zl_40, zl_41, zl_42, zl_43, zl_44, zl_45, zl_47, zl_49, zl_52, zl_53, zl_54, zl_55, zl_58, zl_59, zl_60, zl_61, zl_62, zl_65, zl_70, zl_71, zl_98, zl_102, zl_103, zl_104, zl_105, zl_110, zl_111, zl_115, zl_120, zl_123, zl_126, zl_128, zl_256, zl_1000, zl_1024, zcon_inl, zcon_inr, Option.toList_some, Option.toList_none, List.cons_append, List.nil_append, List.append_nil, Nat.add_zero, zbind_some, zi_toNat, zi_lt, zi_inj, zi_add, zi_mul, zi_ne_zn, zn_ne_zi, zn_lt_zi, zi_lt_zn, Nat.not_lt_zero, false_or, if_true, if_false, true_or, or_false, zw_ne, zw_self, ha]
  unfold uLeave
  by_cases h1 : zi 0 < T 4 (3 * f) + zn
  · rw [if_pos h1, if_pos h1]
    rfl
  · rw [if_neg h1, if_neg h1]
    have e : zev X 56 87 [.ref m, .int (zi r), .int (zb w), .int (zi f), .int (T 0 2)] [] (zHP (zmt D m (uFly (uLeft T r f) f w)) O, k) = some (.inl none, (zHP (zmt D m (zw (uFly (uLeft T r f) f w) 4 (3 * f + 1) (zi 0))) O, k)) := by
      simp (disch := first | assumption | omega) only [b56_87, b56_97, tp4, ↓zn_l, zl_0, zl_1, zl_2, zl_3, zl_4, zl_5, zl_6, zl_7, zl_8, zl_9, zl_10, zl_11, zl_12, zl_13, zl_14, zl_15, zl_16, zl_17, zl_18, zl_19, zl_20, zl_21, zl_22, zl_23, zl_24, zl_25, zl_26, zl_27, zl_28, zl_29, zl_30, zl_31, zl_32, zl_36, zl_46, zl_48, zl_50, zl_57, zl_63, zl_64, zl_72, zl_97, zl_99, zl_100, zl_101, zl_122, zl_127, zl_200, zl_255, zl_406, zl_534, zl_540, zl_600, zl_9999, zl_33, zl_34, zl_35, zl_37, zl_38, zl_39, zl_40, zl_41, zl_42, zl_43, zl_44, zl_45, zl_47, zl_49, zl_52, zl_53, zl_54, zl_55, zl_58, zl_59, zl_60, zl_61, zl_62, zl_65, zl_70, zl_71, zl_98, zl_102, zl_103, zl_104, zl_105, zl_110, zl_111, zl_115, zl_120, zl_123, zl_126, zl_128, zl_256, zl_1000, zl_1024, zcon_inl, zcon_inr, Option.toList_some, Option.toList_none, List.cons_append, List.nil_append, List.append_nil, Nat.add_zero, zbind_some, zi_toNat, zi_lt, zi_inj, zi_add, zi_mul, zi_ne_zn, zn_ne_zi, zn_lt_zi, zi_lt_zn, Nat.not_lt_zero, false_or, if_true, if_false, true_or, or_false]
    rw [← e]
    have e0 : uLeft T r f 0 2 = T 0 2 := by simp (disch := first | assumption | omega) only [uLeft, zw_ne]
    have e1 : uLeft T r f 1 5 = T 1 5 := by simp (disch := first | assumption | omega) only [uLeft, zw_ne]
    change zev X 56 52 [.ref m, .int (zi r), .int (zb w), .int (zi f), zJ] [.int (T 0 2)] (zHP (zmt D m (uLeft T r f)) O, k) = _
    refine (b56_52 hm).trans ?_
    cases w
    · simp (disch := first | assumption | omega) only [zb_0, ↓zn_l, zl_0, zl_1, zl_2, zl_3, zl_4, zl_5, zl_6, zl_7, zl_8, zl_9, zl_10, zl_11, zl_12, zl_13, zl_14, zl_15, zl_16, zl_17, zl_18, zl_19, zl_20, zl_21, zl_22, zl_23, zl_24, zl_25, zl_26, zl_27, zl_28, zl_29, zl_30, zl_31, zl_32, zl_36, zl_46, zl_48, zl_50, zl_57, zl_63, zl_64, zl_72, zl_97, zl_99, zl_100, zl_101, zl_122, zl_127, zl_200, zl_255, zl_406, zl_534, zl_540, zl_600, zl_9999, zl_33, zl_34, zl_35, zl_37, zl_38, zl_39, zl_40, zl_41, zl_42, zl_43, zl_44, zl_45, zl_47, zl_49, zl_52, zl_53, zl_54, zl_55, zl_58, zl_59, zl_60, zl_61, zl_62, zl_65, zl_70, zl_71, zl_98, zl_102, zl_103, zl_104, zl_105, zl_110, zl_111, zl_115, zl_120, zl_123, zl_126, zl_128, zl_256, zl_1000, zl_1024, zcon_inl, zcon_inr, Option.toList_some, Option.toList_none, List.cons_append, List.nil_append, List.append_nil, Nat.add_zero, zbind_some, zi_toNat, zi_lt, zi_inj, zi_add, zi_mul, zi_ne_zn, zn_ne_zi, zn_lt_zi, zi_lt_zn, Nat.not_lt_zero, false_or, if_true, if_false, true_or, or_false, uFly, Bool.false_and]
      rfl
    · simp (disch := first | assumption | omega) only [zb_0, ↓zn_l, zl_0, zl_1, zl_2, zl_3, zl_4, zl_5, zl_6, zl_7, zl_8, zl_9, zl_10, zl_11, zl_12, zl_13, zl_14, zl_15, zl_16, zl_17, zl_18, zl_19, zl_20, zl_21, zl_22, zl_23, zl_24, zl_25, zl_26, zl_27, zl_28, zl_29, zl_30, zl_31, zl_32, zl_36, zl_46, zl_48, zl_50, zl_57, zl_63, zl_64, zl_72, zl_97, zl_99, zl_100, zl_101, zl_122, zl_127, zl_200, zl_255, zl_406, zl_534, zl_540, zl_600, zl_9999, zl_33, zl_34, zl_35, zl_37, zl_38, zl_39, zl_40, zl_41, zl_42, zl_43, zl_44, zl_45, zl_47, zl_49, zl_52, zl_53, zl_54, zl_55, zl_58, zl_59, zl_60, zl_61, zl_62, zl_65, zl_70, zl_71, zl_98, zl_102, zl_103, zl_104, zl_105, zl_110, zl_111, zl_115, zl_120, zl_123, zl_126, zl_128, zl_256, zl_1000, zl_1024, zcon_inl, zcon_inr, Option.toList_some, Option.toList_none, List.cons_append, List.nil_append, List.append_nil, Nat.add_zero, zbind_some, zi_toNat, zi_lt, zi_inj, zi_add, zi_mul, zi_ne_zn, zn_ne_zi, zn_lt_zi, zi_lt_zn, Nat.not_lt_zero, false_or, if_true, if_false, true_or, or_false, c41, b56_63, b56_81, c32, tp4]
      cases h2 : sDirty (uLeft T r f) f
      · simp [uFly, h2]
      · by_cases h3 : zi 0 < T 0 2 <;> simp [uFly, h2, h3, e0, e1]
def uCopied (T : ZD2) (r f f' : Nat) : ZD2 := uTot (uUse (uEnter (uLeave T r f true) r f') r f' true) 9
def sFree (T : ZD2) : Option Nat := zfn (fun f => decide (sState T f = zi 0)) (sNf T) 0
def rCopy (T : ZD2) (r f : Nat) : Int32 × ZD2 := match sFree T with | none => (zi 5, uTot T 8) | some f' => (zi 1, uCopied T r f f')
theorem uEnter_at (T : ZD2) (r f : Nat) : uEnter T r f 3 (5 * r) = zi f := by simp (disch := first | assumption | omega) only [uEnter, zw_ne, zw_self]
theorem c23n (hm : zisM m) (hn : T 0 0 = zi (sNf T)) (h6 : sNf T ≤ 64) : zev X 23 0 [.ref m, zJ] [] (zHP (zmt D m T) O, k) = some (.inl (some (.int (zo (sFree T)))), (zHP (zmt D m T) O, k)) := by
  rw [c23 hm hn h6, zff_o]
  rfl
theorem sFree_lt {T : ZD2} {f : Nat} (h : sFree T = some f) : f < sNf T ∧ sState T f = zi 0 := by
  obtain ⟨-, h2, h3⟩ := zfn_some h
  exact ⟨by omega, of_decide_eq_true h3⟩
theorem c55 {r f : Nat} (hm : zisM m) (hr : r < 72) (hf : f < 64) (ha : T 3 (5 * r) = zi f) (hn : T 0 0 = zi (sNf T)) (h6 : sNf T ≤ 64) : zev X 55 0 [.ref m, .int (zi r), zJ] [] (zHP (zmt D m T) O, k) = some (.inl (some (.int (rCopy T r f).1)), (zHP (zmt D m (rCopy T r f).2) O, k)) := by
  simp (disch := first | assumption | omega) only [b55_0, c23n, ↓zn_l, zl_0, zl_1, zl_2, zl_3, zl_4, zl_5, zl_6, zl_7, zl_8, zl_9, zl_10, zl_11, zl_12, zl_13, zl_14, zl_15, zl_16, zl_17, zl_18, zl_19, zl_20, zl_21, zl_22, zl_23, zl_24, zl_25, zl_26, zl_27, zl_28, zl_29, zl_30, zl_31, zl_32, zl_36, zl_46, zl_48, zl_50, zl_57, zl_63, zl_64, zl_72, zl_97, zl_99, zl_100, zl_101, zl_122, zl_127, zl_200, zl_255, zl_406, zl_534, zl_540, zl_600, zl_9999, zl_33, zl_34, zl_35, zl_37, zl_38, zl_39, zl_40, zl_41, zl_42, zl_43, zl_44, zl_45, zl_47, zl_49, zl_52, zl_53, zl_54, zl_55, zl_58, zl_59, zl_60, zl_61, zl_62, zl_65, zl_70, zl_71, zl_98, zl_102, zl_103, zl_104, zl_105, zl_110, zl_111, zl_115, zl_120, zl_123, zl_126, zl_128, zl_256, zl_1000, zl_1024, zcon_inl, zcon_inr, Option.toList_some, Option.toList_none, List.cons_append, List.nil_append, List.append_nil, Nat.add_zero, zbind_some, zi_toNat, zi_lt, zi_inj, zi_add, zi_mul, zi_ne_zn, zn_ne_zi, zn_lt_zi, zi_lt_zn, Nat.not_lt_zero, false_or, if_true, if_false, true_or, or_false]
  refine (b55_4 hm).trans ?_
  unfold rCopy
  cases h : sFree T with
  | none =>
    simp (disch := first | assumption | omega) only [zo, ↓zn_l, zl_0, zl_1, zl_2, zl_3, zl_4, zl_5, zl_6, zl_7, zl_8, zl_9, zl_10, zl_11, zl_12, zl_13, zl_14, zl_15, zl_16, zl_17, zl_18, zl_19, zl_20, zl_21, zl_22, zl_23, zl_24, zl_25, zl_26, zl_27, zl_28, zl_29, zl_30, zl_31, zl_32, zl_36, zl_46, zl_48, zl_50, zl_57, zl_63, zl_64, zl_72, zl_97, zl_99, zl_100, zl_101, zl_122, zl_127, zl_200, zl_255, zl_406, zl_534, zl_540, zl_600, zl_9999, zl_33, zl_34, zl_35, zl_37, zl_38, zl_39, zl_40, zl_41, zl_42, zl_43, zl_44, zl_45, zl_47, zl_49, zl_52, zl_53, zl_54, zl_55, zl_58, zl_59, zl_60, zl_61, zl_62, zl_65, zl_70, zl_71, zl_98, zl_102, zl_103, zl_104, zl_105, zl_110, zl_111, zl_115, zl_120, zl_123, zl_126, zl_128, zl_256, zl_1000, zl_1024, zcon_inl, zcon_inr, Option.toList_some, Option.toList_none, List.cons_append, List.nil_append, List.append_nil, Nat.add_zero, zbind_some, zi_toNat, zi_lt, zi_inj, zi_add, zi_mul, zi_ne_zn, zn_ne_zi, zn_lt_zi, zi_lt_zn, Nat.not_lt_zero, false_or, if_true, if_false, true_or, or_false, ta1, b55_21]
    rfl
  | some f' =>
    have hf' := (sFree_lt h).1
    have e1 := @c56 X D T O k m r f true hm hr hf ha
    rw [zb_t] at e1
    have e2 := @c51 X D (uEnter (uLeave T r f true) r f') O k m r f' true hm hr (by omega) (uEnter_at _ _ _)
    rw [zb_t] at e2
    simp (disch := first | assumption | omega) only [zo, ↓zn_l, zl_0, zl_1, zl_2, zl_3, zl_4, zl_5, zl_6, zl_7, zl_8, zl_9, zl_10, zl_11, zl_12, zl_13, zl_14, zl_15, zl_16, zl_17, zl_18, zl_19, zl_20, zl_21, zl_22, zl_23, zl_24, zl_25, zl_26, zl_27, zl_28, zl_29, zl_30, zl_31, zl_32, zl_36, zl_46, zl_48, zl_50, zl_57, zl_63, zl_64, zl_72, zl_97, zl_99, zl_100, zl_101, zl_122, zl_127, zl_200, zl_255, zl_406, zl_534, zl_540, zl_600, zl_9999, zl_33, zl_34, zl_35, zl_37, zl_38, zl_39, zl_40, zl_41, zl_42, zl_43, zl_44, zl_45, zl_47, zl_49, zl_52, zl_53, zl_54, zl_55, zl_58, zl_59, zl_60, zl_61, zl_62, zl_65, zl_70, zl_71, zl_98, zl_102, zl_103, zl_104, zl_105, zl_110, zl_111, zl_115, zl_120, zl_123, zl_126, zl_128, zl_256, zl_1000, zl_1024, zcon_inl, zcon_inr, Option.toList_some, Option.toList_none, List.cons_append, List.nil_append, List.append_nil, Nat.add_zero, zbind_some, zi_toNat, zi_lt, zi_inj, zi_add, zi_mul, zi_ne_zn, zn_ne_zi, zn_lt_zi, zi_lt_zn, Nat.not_lt_zero, false_or, if_true, if_false, true_or, or_false, e1, b55_29, c26, b55_35, e2, b55_41, b55_52, ta1]
    rfl
def uBack (T : ZD2) (p : Nat) (paid : Int32) : ZD2 := uTot (zw T 2 (12 * p + 3) (T 2 (12 * p + 3) + -paid)) 12
def uLied (T : ZD2) (p : Nat) : ZD2 := uTot (zw (uTrust T p (-zi 10)) 2 (12 * p + 9) (T 2 (12 * p + 9) + zi 1)) 13
def rJudge (T : ZD2) (p r : Nat) : Int32 × ZD2 :=
  if T 1 5 - T 3 (5 * r + 3) < T 0 3 then
    if T 1 5 - T 3 (5 * r + 3) < T 0 4 then (zi 4, uLied (uBack (uForget T r) p (T 3 (5 * r + 4))) p) else (zi 3, uBack (uForget T r) p (T 3 (5 * r + 4)))
  else (zi 2, uTrust (uForget T r) p (zi 1))
theorem c52 {p r : Nat} (hm : zisM m) (hr : r < 72) (hp : p < 6) : zev X 52 0 [.ref m, .int (zi p), .int (zi r), zJ, zJ] [] (zHP (zmt D m T) O, k) = some (.inl (some (.int (rJudge T p r).1)), (zHP (zmt D m (rJudge T p r).2) O, k)) := by
  simp (disch := first | assumption | omega) only [b52_0, b52_4, b52_13, b52_24, b52_31, b52_41, b52_50, b52_64, b52_75, b52_85, b52_97, b52_108, b52_119, c32, tg3, tg0, c53, c54, ta2, ta1, ↓zn_l, zl_0, zl_1, zl_2, zl_3, zl_4, zl_5, zl_6, zl_7, zl_8, zl_9, zl_10, zl_11, zl_12, zl_13, zl_14, zl_15, zl_16, zl_17, zl_18, zl_19, zl_20, zl_21, zl_22, zl_23, zl_24, zl_25, zl_26, zl_27, zl_28, zl_29, zl_30, zl_31, zl_32, zl_36, zl_46, zl_48, zl_50, zl_57, zl_63, zl_64, zl_72, zl_97, zl_99, zl_100, zl_101, zl_122, zl_127, zl_200, zl_255, zl_406, zl_534, zl_540, zl_600, zl_9999, zl_33, zl_34, zl_35, zl_37, zl_38, zl_39, zl_40, zl_41, zl_42, zl_43, zl_44, zl_45, zl_47, zl_49, zl_52, zl_53, zl_54, zl_55, zl_58, zl_59, zl_60, zl_61, zl_62, zl_65, zl_70, zl_71, zl_98, zl_102, zl_103, zl_104, zl_105, zl_110, zl_111, zl_115, zl_120, zl_123, zl_126, zl_128, zl_256, zl_1000, zl_1024, zcon_inl, zcon_inr, Option.toList_some, Option.toList_none, List.cons_append, List.nil_append, List.append_nil, Nat.add_zero, zbind_some, zi_toNat, zi_lt, zi_inj, zi_add, zi_mul, zi_ne_zn, zn_ne_zi, zn_lt_zi, zi_lt_zn, Nat.not_lt_zero, false_or, if_true, if_false, true_or, or_false]
  have e1 : uForget T r 0 3 = T 0 3 := by simp (disch := first | assumption | omega) only [uForget, zw_ne]
  have e2 : ∀ v, zw (zw (uForget T r) 2 (12 * p + 3) v) 1 12 (zw (uForget T r) 2 (12 * p + 3) v 1 12 + zi 1) 0 4 = T 0 4 := by intro v; simp (disch := first | assumption | omega) only [uForget, zw_ne]
  rw [e1]
  unfold rJudge
  by_cases h1 : T 1 5 - T 3 (5 * r + 3) < T 0 3
  · rw [if_pos h1, if_pos h1, e2]
    by_cases h2 : T 1 5 - T 3 (5 * r + 3) < T 0 4
    · rw [if_pos h2, if_pos h2]
      simp (disch := first | assumption | omega) only [uLied, uBack, uTot, uTrust, zw_ne]
    · rw [if_neg h2, if_neg h2]
      rfl
  · rw [if_neg h1, if_neg h1]
end
