/-! Touching, buying, taking, time, ends. -/
section
variable {X : ZX} {D T : ZD2} {O : ZO2} {k : Nat × Nat × Nat} {m : Nat}
def uFetch (T : ZD2) (r f : Nat) (w : Bool) : ZD2 := uUse (uEnter (uTot T 14) r f) r f w
def uFault (T : ZD2) (p : Nat) : ZD2 := zw (uTot T 7) 2 (12 * p + 8) (T 2 (12 * p + 8) + zi 1)
def rFetch (T : ZD2) (p r : Nat) (w : Bool) : Int32 × ZD2 := match sFree T with
  | none => (zi 5, uTot (uFault T p) 8)
  | some f => if sSold T r then rJudge (uFetch (uFault T p) r f w) p r else (zi 2, uFetch (uFault T p) r f w)
theorem sFree_fault (T : ZD2) (p : Nat) : sFree (uFault T p) = sFree T := by
  have e : sNf (uFault T p) = sNf T := by simp (disch := first | assumption | omega) only [sNf, uFault, uTot, zw_ne]
  have e2 : ∀ f, sState (uFault T p) f = sState T f := fun f => by simp (disch := first | assumption | omega) only [sState, uFault, uTot, zw_ne]
  unfold sFree
  rw [e]
  simp only [e2]
theorem c50 {p r : Nat} {w : Bool} (hm : zisM m) (hr : r < 72) (hp : p < 6) (hn : T 0 0 = zi (sNf T)) (h6 : sNf T ≤ 64) : zev X 50 0 [.ref m, .int (zi p), .int (zi r), .int (zb w), zJ] [] (zHP (zmt D m T) O, k) = some (.inl (some (.int (rFetch T p r w).1)), (zHP (zmt D m (rFetch T p r w).2) O, k)) := by
  have e0 : sNf (uFault T p) = sNf T := by simp (disch := first | assumption | omega) only [sNf, uFault, uTot, zw_ne]
  have e1 := @c23n X D (uFault T p) O k m hm (by rw [e0]; simp (disch := first | assumption | omega) only [uFault, uTot, zw_ne]; exact hn) (by omega)
  simp (disch := first | assumption | omega) only [b50_0, b50_11, ta1, ta2, ↓zn_l, zl_0, zl_1, zl_2, zl_3, zl_4, zl_5, zl_6, zl_7, zl_8, zl_9, zl_10, zl_11, zl_12, zl_13, zl_14, zl_15, zl_16, zl_17, zl_18, zl_19, zl_20, zl_21, zl_22, zl_23, zl_24, zl_25, zl_26, zl_27, zl_28, zl_29, zl_30, zl_31, zl_32, zl_36, zl_46, zl_48, zl_50, zl_57, zl_63, zl_64, zl_72, zl_97, zl_99, zl_100, zl_101, zl_122, zl_127, zl_200, zl_255, zl_406, zl_534, zl_540, zl_600, zl_9999, zcon_inl, zcon_inr, Option.toList_some, Option.toList_none, List.cons_append, List.nil_append, List.append_nil, Nat.add_zero, zbind_some, zi_toNat, zi_lt, zi_inj, zi_add, zi_mul, zi_ne_zn, zn_ne_zi, zn_lt_zi, zi_lt_zn, Nat.not_lt_zero, false_or, if_true, if_false, true_or, or_false, zw_ne]
  change zev X 50 22 _ [] (zHP (zmt D m (uFault T p)) O, k) = _
  refine (b50_22 hm).trans ?_
  rw [e1, sFree_fault, zcon_inl]
  refine (b50_26 hm).trans ?_
  unfold rFetch
  cases h : sFree T with
  | none =>
    simp (disch := first | assumption | omega) only [zo, ↓zn_l, zl_0, zl_1, zl_2, zl_3, zl_4, zl_5, zl_6, zl_7, zl_8, zl_9, zl_10, zl_11, zl_12, zl_13, zl_14, zl_15, zl_16, zl_17, zl_18, zl_19, zl_20, zl_21, zl_22, zl_23, zl_24, zl_25, zl_26, zl_27, zl_28, zl_29, zl_30, zl_31, zl_32, zl_36, zl_46, zl_48, zl_50, zl_57, zl_63, zl_64, zl_72, zl_97, zl_99, zl_100, zl_101, zl_122, zl_127, zl_200, zl_255, zl_406, zl_534, zl_540, zl_600, zl_9999, zcon_inl, zcon_inr, Option.toList_some, Option.toList_none, List.cons_append, List.nil_append, List.append_nil, Nat.add_zero, zbind_some, zi_toNat, zi_lt, zi_inj, zi_add, zi_mul, zi_ne_zn, zn_ne_zi, zn_lt_zi, zi_lt_zn, Nat.not_lt_zero, false_or, if_true, if_false, true_or, or_false, ta1, b50_45]
    rfl
  | some f =>
    have hf := (sFree_lt h).1
    have e2 := @c51 X D (uEnter (uTot (uFault T p) 14) r f) O k m r f w hm hr (by omega) (uEnter_at _ _ _)
    simp (disch := first | assumption | omega) only [zo, ↓zn_l, zl_0, zl_1, zl_2, zl_3, zl_4, zl_5, zl_6, zl_7, zl_8, zl_9, zl_10, zl_11, zl_12, zl_13, zl_14, zl_15, zl_16, zl_17, zl_18, zl_19, zl_20, zl_21, zl_22, zl_23, zl_24, zl_25, zl_26, zl_27, zl_28, zl_29, zl_30, zl_31, zl_32, zl_36, zl_46, zl_48, zl_50, zl_57, zl_63, zl_64, zl_72, zl_97, zl_99, zl_100, zl_101, zl_122, zl_127, zl_200, zl_255, zl_406, zl_534, zl_540, zl_600, zl_9999, zcon_inl, zcon_inr, Option.toList_some, Option.toList_none, List.cons_append, List.nil_append, List.append_nil, Nat.add_zero, zbind_some, zi_toNat, zi_lt, zi_inj, zi_add, zi_mul, zi_ne_zn, zn_ne_zi, zn_lt_zi, zi_lt_zn, Nat.not_lt_zero, false_or, if_true, if_false, true_or, or_false, ta1, b50_58, c26]
    change zev X 50 65 _ [] (zHP (zmt D m (uEnter (uTot (uFault T p) 14) r f)) O, k) = _
    refine (b50_65 hm).trans ?_
    rw [e2]
    change zev X 50 71 _ [] (zHP (zmt D m (uFetch (uFault T p) r f w)) O, k) = _
    have e3 : sSold (uFetch (uFault T p) r f w) r = sSold T r := by
      cases w <;> simp (disch := first | assumption | omega) [sSold, uFetch, uUse, uUsed, uEnter, uTot, uFault, zw_ne]
    simp (disch := first | assumption | omega) only [b50_71, c43, zcon_inl, Option.toList_some, List.cons_append, List.nil_append, b50_76, e3, zl_0, zb_0]
    cases sSold T r
    · rfl
    · simp (disch := first | assumption | omega) only [c52, zcon_inl, Option.toList_some, List.cons_append, List.nil_append, b50_85]
      rfl
def rTouch (T : ZD2) (p g : Nat) (w : Bool) : Int32 × ZD2 := if sIn T (12 * p + g) then (if w && sSh T (12 * p + g) then rCopy T (12 * p + g) (sFr T (12 * p + g)) else (zi 0, uUse T (12 * p + g) (sFr T (12 * p + g)) w)) else rFetch T p (12 * p + g) w
theorem sFr_of {T : ZD2} {r : Nat} (ha : zAt T r) (h : sIn T r = true) : sFr T r < 64 ∧ T 3 (5 * r) = zi (sFr T r) := by
  rcases ha with h1 | ⟨f, hf, h1⟩
  · simp [sIn, h1] at h
  · have e : sFr T r = f := by simp (disch := first | assumption | omega) [sFr, h1, zi_toNat]
    rw [e]
    exact ⟨hf, h1⟩
theorem c49 {p g : Nat} {w : Bool} (hm : zisM m) (hg : g < 12) (hp : p < 6) (ha : zAt T (12 * p + g)) (hn : T 0 0 = zi (sNf T)) (h6 : sNf T ≤ 64) : zev X 49 0 [.ref m, .int (zi p), .int (zi g), .int (zb w), zJ] [] (zHP (zmt D m T) O, k) = some (.inl (some (.int (rTouch T p g w).1)), (zHP (zmt D m (rTouch T p g w).2) O, k)) := by
  have hr : 12 * p + g < 72 := by omega
  have hlt : 12 * p + g < 2147483648 := by omega
  generalize hrr : 12 * p + g = r at *
  unfold rTouch
  rw [hrr]
  simp (disch := first | assumption | omega) only [b49_0, c21, hrr, b49_5, c22, ↓zn_l, zl_0, zl_1, zl_2, zl_3, zl_4, zl_5, zl_6, zl_7, zl_8, zl_9, zl_10, zl_11, zl_12, zl_13, zl_14, zl_15, zl_16, zl_17, zl_18, zl_19, zl_20, zl_21, zl_22, zl_23, zl_24, zl_25, zl_26, zl_27, zl_28, zl_29, zl_30, zl_31, zl_32, zl_36, zl_46, zl_48, zl_50, zl_57, zl_63, zl_64, zl_72, zl_97, zl_99, zl_100, zl_101, zl_122, zl_127, zl_200, zl_255, zl_406, zl_534, zl_540, zl_600, zl_9999, zcon_inl, zcon_inr, Option.toList_some, Option.toList_none, List.cons_append, List.nil_append, List.append_nil, Nat.add_zero, zbind_some]
  refine (b49_13 hm).trans ?_
  cases h : sIn T r
  · simp (disch := first | assumption | omega) only [zb_0, ↓zn_l, zl_0, zl_1, zl_2, zl_3, zl_4, zl_5, zl_6, zl_7, zl_8, zl_9, zl_10, zl_11, zl_12, zl_13, zl_14, zl_15, zl_16, zl_17, zl_18, zl_19, zl_20, zl_21, zl_22, zl_23, zl_24, zl_25, zl_26, zl_27, zl_28, zl_29, zl_30, zl_31, zl_32, zl_36, zl_46, zl_48, zl_50, zl_57, zl_63, zl_64, zl_72, zl_97, zl_99, zl_100, zl_101, zl_122, zl_127, zl_200, zl_255, zl_406, zl_534, zl_540, zl_600, zl_9999, zcon_inl, zcon_inr, Option.toList_some, Option.toList_none, List.cons_append, List.nil_append, List.append_nil, Nat.add_zero, zbind_some, c50, b49_24]
    rfl
  · obtain ⟨h1, h2⟩ := sFr_of ha h
    have e1 := @c51 X D T O k m r (sFr T r) w hm hr h1 h2
    have e2 := @c55 X D T O k m r (sFr T r) hm hr h1 h2 hn h6
    cases w
    · simp (disch := first | assumption | omega) only [zb_0, ↓zn_l, zl_0, zl_1, zl_2, zl_3, zl_4, zl_5, zl_6, zl_7, zl_8, zl_9, zl_10, zl_11, zl_12, zl_13, zl_14, zl_15, zl_16, zl_17, zl_18, zl_19, zl_20, zl_21, zl_22, zl_23, zl_24, zl_25, zl_26, zl_27, zl_28, zl_29, zl_30, zl_31, zl_32, zl_36, zl_46, zl_48, zl_50, zl_57, zl_63, zl_64, zl_72, zl_97, zl_99, zl_100, zl_101, zl_122, zl_127, zl_200, zl_255, zl_406, zl_534, zl_540, zl_600, zl_9999, zcon_inl, zcon_inr, Option.toList_some, Option.toList_none, List.cons_append, List.nil_append, List.append_nil, Nat.add_zero, zbind_some, e1, b49_52, Bool.true_eq_false, if_false, if_true, Bool.false_and]
      rfl
    · simp (disch := first | assumption | omega) only [zb_0, ↓zn_l, zl_0, zl_1, zl_2, zl_3, zl_4, zl_5, zl_6, zl_7, zl_8, zl_9, zl_10, zl_11, zl_12, zl_13, zl_14, zl_15, zl_16, zl_17, zl_18, zl_19, zl_20, zl_21, zl_22, zl_23, zl_24, zl_25, zl_26, zl_27, zl_28, zl_29, zl_30, zl_31, zl_32, zl_36, zl_46, zl_48, zl_50, zl_57, zl_63, zl_64, zl_72, zl_97, zl_99, zl_100, zl_101, zl_122, zl_127, zl_200, zl_255, zl_406, zl_534, zl_540, zl_600, zl_9999, zcon_inl, zcon_inr, Option.toList_some, Option.toList_none, List.cons_append, List.nil_append, List.append_nil, Nat.add_zero, zbind_some, c37, b49_35, Bool.true_eq_false, if_false, if_true, Bool.true_and]
      cases sSh T r
      · simp (disch := first | assumption | omega) only [↓zn_l, zl_0, zl_1, zl_2, zl_3, zl_4, zl_5, zl_6, zl_7, zl_8, zl_9, zl_10, zl_11, zl_12, zl_13, zl_14, zl_15, zl_16, zl_17, zl_18, zl_19, zl_20, zl_21, zl_22, zl_23, zl_24, zl_25, zl_26, zl_27, zl_28, zl_29, zl_30, zl_31, zl_32, zl_36, zl_46, zl_48, zl_50, zl_57, zl_63, zl_64, zl_72, zl_97, zl_99, zl_100, zl_101, zl_122, zl_127, zl_200, zl_255, zl_406, zl_534, zl_540, zl_600, zl_9999, zcon_inl, zcon_inr, Option.toList_some, Option.toList_none, List.cons_append, List.nil_append, List.append_nil, Nat.add_zero, zbind_some, e1, b49_52, if_true]
        rfl
      · simp (disch := first | assumption | omega) only [↓zn_l, zl_0, zl_1, zl_2, zl_3, zl_4, zl_5, zl_6, zl_7, zl_8, zl_9, zl_10, zl_11, zl_12, zl_13, zl_14, zl_15, zl_16, zl_17, zl_18, zl_19, zl_20, zl_21, zl_22, zl_23, zl_24, zl_25, zl_26, zl_27, zl_28, zl_29, zl_30, zl_31, zl_32, zl_36, zl_46, zl_48, zl_50, zl_57, zl_63, zl_64, zl_72, zl_97, zl_99, zl_100, zl_101, zl_122, zl_127, zl_200, zl_255, zl_406, zl_534, zl_540, zl_600, zl_9999, zcon_inl, zcon_inr, Option.toList_some, Option.toList_none, List.cons_append, List.nil_append, List.append_nil, Nat.add_zero, zbind_some, e2, b49_44, if_false, Bool.true_eq_false]
        rfl
def uBuy (T : ZD2) (r f : Nat) : ZD2 := uTot (uLeave (zw (zw (zw T 2 (12 * (r / 12) + 3) (T 2 (12 * (r / 12) + 3) + sPrice T r)) 3 (5 * r + 3) (T 1 5)) 3 (5 * r + 4) (sPrice T r)) r f true) 10
theorem c60 {r f : Nat} (hm : zisM m) (hr : r < 72) (hf : f < 64) (ha : T 3 (5 * r) = zi f) : zev X 60 0 [.ref m, .int (zi r), zJ] [] (zHP (zmt D m T) O, k) = some (.inl none, (zHP (zmt D m (uBuy T r f)) O, k)) := by
  have hz : zAt T r := Or.inr ⟨f, hf, ha⟩
  have e1 := @c56 X D (zw (zw (zw T 2 (12 * (r / 12) + 3) (T 2 (12 * (r / 12) + 3) + sPrice T r)) 3 (5 * r + 3) (T 1 5)) 3 (5 * r + 4) (sPrice T r)) O k m r f true hm hr hf (by simp (disch := first | assumption | omega) only [zw_ne]; exact ha)
  rw [zb_t] at e1
  simp (disch := first | assumption | omega) only [b60_0, c44, b60_5, zi_div, ta2, b60_19, c32, b60_29, b60_32, tp3, b60_42, ↓zn_l, zl_0, zl_1, zl_2, zl_3, zl_4, zl_5, zl_6, zl_7, zl_8, zl_9, zl_10, zl_11, zl_12, zl_13, zl_14, zl_15, zl_16, zl_17, zl_18, zl_19, zl_20, zl_21, zl_22, zl_23, zl_24, zl_25, zl_26, zl_27, zl_28, zl_29, zl_30, zl_31, zl_32, zl_36, zl_46, zl_48, zl_50, zl_57, zl_63, zl_64, zl_72, zl_97, zl_99, zl_100, zl_101, zl_122, zl_127, zl_200, zl_255, zl_406, zl_534, zl_540, zl_600, zl_9999, zcon_inl, zcon_inr, Option.toList_some, Option.toList_none, List.cons_append, List.nil_append, List.append_nil, Nat.add_zero, zbind_some, zi_toNat, zi_lt, zi_inj, zi_add, zi_mul, zi_ne_zn, zn_ne_zi, zn_lt_zi, zi_lt_zn, Nat.not_lt_zero, false_or, if_true, if_false, true_or, or_false, zw_ne, e1, b60_48, ta1, b60_59]
  rfl
def uTake (T : ZD2) (r f : Nat) : ZD2 := uTot (zw (uLeave T r f false) 2 (12 * (r / 12) + 3) (uLeave T r f false 2 (12 * (r / 12) + 3) + zi 3 * uLeave T r f false 2 (12 * (r / 12)))) 11
theorem c59 {r f : Nat} (hm : zisM m) (hr : r < 72) (hf : f < 64) (ha : T 3 (5 * r) = zi f) : zev X 59 0 [.ref m, .int (zi r), zJ] [] (zHP (zmt D m T) O, k) = some (.inl none, (zHP (zmt D m (uTake T r f)) O, k)) := by
  have e1 := @c56 X D T O k m r f false hm hr hf ha
  rw [zb_f] at e1
  simp (disch := first | assumption | omega) only [b59_0, zi_div, e1, b59_11, tg2, b59_27, ta2, b59_31, ta1, b59_42, ↓zn_l, zl_0, zl_1, zl_2, zl_3, zl_4, zl_5, zl_6, zl_7, zl_8, zl_9, zl_10, zl_11, zl_12, zl_13, zl_14, zl_15, zl_16, zl_17, zl_18, zl_19, zl_20, zl_21, zl_22, zl_23, zl_24, zl_25, zl_26, zl_27, zl_28, zl_29, zl_30, zl_31, zl_32, zl_36, zl_46, zl_48, zl_50, zl_57, zl_63, zl_64, zl_72, zl_97, zl_99, zl_100, zl_101, zl_122, zl_127, zl_200, zl_255, zl_406, zl_534, zl_540, zl_600, zl_9999, zcon_inl, zcon_inr, Option.toList_some, Option.toList_none, List.cons_append, List.nil_append, List.append_nil, Nat.add_zero, zbind_some, zi_toNat, zi_lt, zi_inj, zi_add, zi_mul, zi_ne_zn, zn_ne_zi, zn_lt_zi, zi_lt_zn, Nat.not_lt_zero, false_or, if_true, if_false, true_or, or_false]
  rfl
def uJoin (T : ZD2) (r f : Nat) : ZD2 := uForget (zw (uEnter T r f) 3 (5 * r + 1) (T 1 5)) r
theorem c62 {r f : Nat} (hm : zisM m) (hr : r < 72) (hf : f < 64) : zev X 62 0 [.ref m, .int (zi r), .int (zi f)] [] (zHP (zmt D m T) O, k) = some (.inl (some (.int (uJoin T r f 4 (3 * f)))), (zHP (zmt D m (uJoin T r f)) O, k)) := by
  have e : uEnter T r f 1 5 = T 1 5 := by simp (disch := first | assumption | omega) only [uEnter, zw_ne]
  simp (disch := first | assumption | omega) only [b62_0, c26, b62_6, c32, b62_16, tp3, b62_19, c53, b62_24, tg4, b62_33, ↓zn_l, zl_0, zl_1, zl_2, zl_3, zl_4, zl_5, zl_6, zl_7, zl_8, zl_9, zl_10, zl_11, zl_12, zl_13, zl_14, zl_15, zl_16, zl_17, zl_18, zl_19, zl_20, zl_21, zl_22, zl_23, zl_24, zl_25, zl_26, zl_27, zl_28, zl_29, zl_30, zl_31, zl_32, zl_36, zl_46, zl_48, zl_50, zl_57, zl_63, zl_64, zl_72, zl_97, zl_99, zl_100, zl_101, zl_122, zl_127, zl_200, zl_255, zl_406, zl_534, zl_540, zl_600, zl_9999, zcon_inl, zcon_inr, Option.toList_some, Option.toList_none, List.cons_append, List.nil_append, List.append_nil, Nat.add_zero, zbind_some, zi_toNat, zi_lt, zi_inj, zi_add, zi_mul, zi_ne_zn, zn_ne_zi, zn_lt_zi, zi_lt_zn, Nat.not_lt_zero, false_or, if_true, if_false, true_or, or_false, e]
  rfl
def uPassF (j : Nat) (a : ZD2 × Nat) : ZD2 × Nat := if !decide (a.1 4 (3 * j + 2) = zn) && !decide (a.1 1 5 < a.1 4 (3 * j + 2)) then (zw a.1 4 (3 * j + 2) zn, a.2 + 1) else a
def rPass (T : ZD2) (t : Int32) : ZD2 × Nat := zfo uPassF (sNf T) 0 (zw T 1 5 (T 1 5 + t), 0)
theorem c61 {t : Int32} (hm : zisM m) (hn : T 0 0 = zi (sNf T)) (h6 : sNf T ≤ 64) : zev X 61 0 [.ref m, .int t, zJ, zJ, zJ] [] (zHP (zmt D m T) O, k) = some (.inl (some (.int (zi (rPass T t).2))), (zHP (zmt D m (rPass T t).1) O, k)) := by
  simp (disch := first | assumption | omega) only [b61_0, ta1, b61_10, ↓zn_l, zl_0, zl_1, zl_2, zl_3, zl_4, zl_5, zl_6, zl_7, zl_8, zl_9, zl_10, zl_11, zl_12, zl_13, zl_14, zl_15, zl_16, zl_17, zl_18, zl_19, zl_20, zl_21, zl_22, zl_23, zl_24, zl_25, zl_26, zl_27, zl_28, zl_29, zl_30, zl_31, zl_32, zl_36, zl_46, zl_48, zl_50, zl_57, zl_63, zl_64, zl_72, zl_97, zl_99, zl_100, zl_101, zl_122, zl_127, zl_200, zl_255, zl_406, zl_534, zl_540, zl_600, zl_9999, zcon_inl, zcon_inr, Option.toList_some, Option.toList_none, List.cons_append, List.nil_append, List.append_nil, Nat.add_zero, zbind_some, zi_toNat, zi_lt, zi_inj, zi_add, zi_mul, zi_ne_zn, zn_ne_zi, zn_lt_zi, zi_lt_zn, Nat.not_lt_zero, false_or, if_true, if_false, true_or, or_false]
  refine (zloopW (P := fun i a v => zev X 61 14 [.ref m, .int t, .int (zi a.2), .int (zi i), v] [] (zHP (zmt D m a.1) O, k)) (Q := fun a => some (.inl (some (.int (zi a.2))), (zHP (zmt D m a.1) O, k))) (f := uPassF) (n := sNf T) (J := fun _ a => a.1 0 0 = T 0 0) ?_ ?_ (sNf T) 0 (zw T 1 5 (T 1 5 + t), 0) zJ (by omega) (by simp (disch := first | assumption | omega) only [zw_ne]) rfl).1
  · intro i a v hi hJ hv
    refine ⟨.int (a.1 4 (3 * i + 2)), rfl, ?_, ?_⟩
    · refine (b61_14 hm).trans ?_
      simp (disch := first | assumption | omega) only [b61_19, b61_31, b61_45, c24, tg4, hJ, hn, ↓zn_l, zl_0, zl_1, zl_2, zl_3, zl_4, zl_5, zl_6, zl_7, zl_8, zl_9, zl_10, zl_11, zl_12, zl_13, zl_14, zl_15, zl_16, zl_17, zl_18, zl_19, zl_20, zl_21, zl_22, zl_23, zl_24, zl_25, zl_26, zl_27, zl_28, zl_29, zl_30, zl_31, zl_32, zl_36, zl_46, zl_48, zl_50, zl_57, zl_63, zl_64, zl_72, zl_97, zl_99, zl_100, zl_101, zl_122, zl_127, zl_200, zl_255, zl_406, zl_534, zl_540, zl_600, zl_9999, zcon_inl, zcon_inr, Option.toList_some, Option.toList_none, List.cons_append, List.nil_append, List.append_nil, Nat.add_zero, zbind_some, zi_toNat, zi_lt, zi_inj, zi_add, zi_mul, zi_ne_zn, zn_ne_zi, zn_lt_zi, zi_lt_zn, Nat.not_lt_zero, false_or, if_true, if_false, true_or, or_false, hi, c32, tp4, b61_58]
      by_cases h1 : a.1 4 (3 * i + 2) = zn
      · simp [uPassF, h1]
      · by_cases h2 : a.1 1 5 < a.1 4 (3 * i + 2) <;> simp [uPassF, h1, h2]
    · unfold uPassF
      split
      · simp (disch := first | assumption | omega) only [zw_ne, hJ]
      · exact hJ
  · intro a v hJ _
    refine (b61_14 hm).trans ?_
    simp (disch := first | assumption | omega) only [b61_19, c24, hJ, hn, ↓zn_l, zl_0, zl_1, zl_2, zl_3, zl_4, zl_5, zl_6, zl_7, zl_8, zl_9, zl_10, zl_11, zl_12, zl_13, zl_14, zl_15, zl_16, zl_17, zl_18, zl_19, zl_20, zl_21, zl_22, zl_23, zl_24, zl_25, zl_26, zl_27, zl_28, zl_29, zl_30, zl_31, zl_32, zl_36, zl_46, zl_48, zl_50, zl_57, zl_63, zl_64, zl_72, zl_97, zl_99, zl_100, zl_101, zl_122, zl_127, zl_200, zl_255, zl_406, zl_534, zl_540, zl_600, zl_9999, zcon_inl, zcon_inr, Option.toList_some, Option.toList_none, List.cons_append, List.nil_append, List.append_nil, Nat.add_zero, zbind_some, zi_toNat, zi_lt, zi_inj, zi_add, zi_mul, zi_ne_zn, zn_ne_zi, zn_lt_zi, zi_lt_zn, Nat.not_lt_zero, false_or, if_true, if_false, true_or, or_false, Nat.lt_irrefl]
end
