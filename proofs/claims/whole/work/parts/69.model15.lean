/-! The model puts aside; buys; takes. -/
theorem zRd_cg {T : ZD2} {s s' : Nat → Int32} (R : zRd s T) (h6 : sNp T ≤ 6) (h64 : sNf T ≤ 64) (h : ∀ j, j < 540 → s' j = s j) : zRd s' T := by
  refine zRd_mk (T := T) rfl rfl ?_ ?_ ?_ ?_ ?_
  · intro i hi
    rw [h i (by omega)]
    exact zRt_all.mp R.1 i hi
  · intro p hp
    rw [h _ (by omega), h _ (by omega), h _ (by omega), h _ (by omega), h _ (by omega), h _ (by omega)]
    exact R.2.1 p hp
  · intro r hr
    rw [h _ (by omega), h _ (by omega), h _ (by omega), h _ (by omega), h _ (by omega)]
    exact R.2.2.1 r hr
  · intro f hf
    rw [h _ (by omega), h _ (by omega)]
    exact R.2.2.2.1 f hf
  · intro q hq
    rw [h _ (by omega)]
    exact R.2.2.2.2 q hq
/-- a count left out -/
def zE1 (T U : ZD2) (c : Nat) : Prop := (∀ t, t ≠ 1 → U t = T t) ∧ ∀ j, j ≠ c → U 1 j = T 1 j
section
variable {T : ZD2} {c : Nat} {x : Int32}
theorem lag_0 {t : Nat} (h : t ≠ 1) : zw T 1 c x t = T t := zw_row h
theorem lag_leave {r f : Nat} {w : Bool} (h5 : c ≠ 5) : uLeave (zw T 1 c x) r f w = zw (uLeave T r f w) 1 c x := by
  have e4 : ∀ j, zw T 1 c x 4 j = T 4 j := fun j => by rw [zw_row (by omega)]
  have eL : uLeft (zw T 1 c x) r f = zw (uLeft T r f) 1 c x := by
    unfold uLeft
    rw [e4, zw_comm (a := 1) (b := 3) (by omega), zw_comm (a := 1) (b := 4) (by omega)]
  unfold uLeave
  rw [eL, e4]
  split
  · rfl
  · have eF : uFly (zw (uLeft T r f) 1 c x) f w = zw (uFly (uLeft T r f) f w) 1 c x := by
      unfold uFly
      have d : sDirty (zw (uLeft T r f) 1 c x) f = sDirty (uLeft T r f) f := by unfold sDirty; rw [zw_row (by omega)]
      have d2 : zw (uLeft T r f) 1 c x 0 2 = uLeft T r f 0 2 := by rw [zw_row (by omega)]
      have d3 : zw (uLeft T r f) 1 c x 1 5 = uLeft T r f 1 5 := zw_ne (by omega)
      rw [d, d2, d3]
      split
      · rw [zw_comm (a := 1) (b := 4) (by omega)]
      · rfl
    rw [eF, zw_comm (a := 1) (b := 4) (by omega)]
theorem lag_sIn : sIn (zw T 1 c x) = sIn T := by funext r; unfold sIn; rw [zw_row (by omega)]
theorem lag_sFr : sFr (zw T 1 c x) = sFr T := by funext r; unfold sFr; rw [zw_row (by omega)]
theorem lag_sDirty : sDirty (zw T 1 c x) = sDirty T := by funext r; unfold sDirty; rw [zw_row (by omega)]
theorem lag_sPrice : sPrice (zw T 1 c x) = sPrice T := by funext r; unfold sPrice; rw [lag_sIn, lag_sFr, lag_sDirty, zw_row (by omega)]
theorem lag_sSh : sSh (zw T 1 c x) = sSh T := by funext r; unfold sSh; rw [lag_sIn, lag_sFr, zw_row (by omega)]
theorem lag_sPin : sPin (zw T 1 c x) = sPin T := by funext r; unfold sPin; rw [zw_row (by omega)]
theorem lag_sEnd : sEnd (zw T 1 c x) = sEnd T := by funext r; unfold sEnd; rw [zw_row (by omega)]
theorem lag_sLoose : sLoose (zw T 1 c x) = sLoose T := by funext r; unfold sLoose; rw [lag_sIn, lag_sSh, lag_sPin, lag_sEnd]
theorem lag_sIdl : sIdl (zw T 1 c x) = sIdl T := by
  funext l a n
  have e : ∀ w, sBest (zw T 1 c x) w = sBest T w := fun w => by
    funext r o
    unfold sBest sBq
    rw [zw_row (by omega)]
  unfold sIdl
  rw [e, lag_sLoose, lag_sIn]
theorem lag_sHeld : sHeld (zw T 1 c x) = sHeld T := by
  funext p
  have e : sSet (zw T 1 c x) p false = sSet T p false := by
    funext g s
    unfold sSet
    rw [lag_sIn, lag_sFr, lag_sDirty, zw_row (by omega)]
  unfold sHeld
  rw [e]
theorem lag_sTaken (h0 : c ≠ 0) : sTaken (zw T 1 c x) = sTaken T := by
  have e : sNp (zw T 1 c x) = sNp T := zRd_np (zw_ne (by omega))
  have e2 : sTakeF (zw T 1 c x) = sTakeF T := by
    funext p a
    unfold sTakeF
    rw [lag_sIdl, lag_sHeld]
  unfold sTaken
  rw [e, e2]
end
theorem zw_twice {A : ZD2} {a j : Nat} {v w : Int32} : zw (zw A a j v) a j w = zw A a j w := by
  funext b i
  unfold zw
  split <;> rfl
theorem zput_lo {D : ZD2} {s : Nat → Int32} {i : Nat} : zw (zrow (zrow D 173 fun j => if j < i then s j else D 173 j) 172 s) 173 i (s i) = zrow (zrow D 173 fun j => if j < i + 1 then s j else D 173 j) 172 s := by
  rw [zw_so (by omega), zw_zrow, zrow_zrow, zrow_self]
  congr 2
  funext j
  by_cases e : j = i
  · rw [if_pos e, if_pos (by omega), e]
  · rw [if_neg e]
    exact zif_congr (by omega)
theorem zput_hi {D : ZD2} {s : Nat → Int32} {i : Nat} : zw (zrow D 172 fun j => if j < i then D 173 j else s j) 172 i (D 173 i) = zrow D 172 fun j => if j < i + 1 then D 173 j else s j := by
  rw [zw_zrow, zrow_zrow, zrow_self]
  congr 1
  funext j
  by_cases e : j = i
  · rw [if_pos e, if_pos (by omega), e]
  · rw [if_neg e]
    exact zif_congr (by omega)
/-- a page bought, but for the count -/
def uBuyX (T : ZD2) (r f : Nat) : ZD2 := uLeave (zw (zw (zw T 2 (12 * (r / 12) + 3) (T 2 (12 * (r / 12) + 3) + sPrice T r)) 3 (5 * r + 3) (T 1 5)) 3 (5 * r + 4) (sPrice T r)) r f true
theorem lag_buy {T : ZD2} {x : Int32} {r f : Nat} : uBuy (zw T 1 10 x) r f = zw (uBuyX T r f) 1 10 (x + zi 1) := by
  have e5 : zw T 1 10 x 1 5 = T 1 5 := zw_ne (by omega)
  have e2 : zw T 1 10 x 2 = T 2 := zw_row (by omega)
  have e : zw (zw (zw (zw T 1 10 x) 2 (12 * (r / 12) + 3) (T 2 (12 * (r / 12) + 3) + sPrice T r)) 3 (5 * r + 3) (T 1 5)) 3 (5 * r + 4) (sPrice T r) = zw (zw (zw (zw T 2 (12 * (r / 12) + 3) (T 2 (12 * (r / 12) + 3) + sPrice T r)) 3 (5 * r + 3) (T 1 5)) 3 (5 * r + 4) (sPrice T r)) 1 10 x := by
    rw [zw_comm (a := 1) (b := 2) (by omega), zw_comm (a := 1) (b := 3) (by omega), zw_comm (a := 1) (b := 3) (by omega)]
  unfold uBuy uTot uBuyX
  rw [lag_sPrice, e5, e2, e, lag_leave (by omega), zw_self, zw_twice]
def sBuyX (l : List Nat) (i : Nat) (T : ZD2) : ZD2 := uBuyX T (l.getD i 0) (sFr T (l.getD i 0))
theorem sBuyX_eq (l : List Nat) : ∀ d i (T : ZD2) (x : Int32), zfo (sBuyF l) d i (zw T 1 10 x) = zw (zfo (sBuyX l) d i T) 1 10 (x + zi d)
  | 0, i, T, x => by
    show zw T 1 10 x = zw T 1 10 (x + zi 0)
    rw [zaddz]
  | d + 1, i, T, x => by
    rw [zfo, zfo]
    have e : sBuyF l i (zw T 1 10 x) = zw (sBuyX l i T) 1 10 (x + zi 1) := by
      unfold sBuyF sBuyX
      rw [lag_sFr, lag_buy]
    rw [e, sBuyX_eq l d (i + 1), Int32.add_assoc, zi_add, show 1 + d = d + 1 by omega]
/-- a page taken, but for the count -/
def uTakeX (T : ZD2) (r f : Nat) : ZD2 := zw (uLeave T r f false) 2 (12 * (r / 12) + 3) (uLeave T r f false 2 (12 * (r / 12) + 3) + zi 3 * uLeave T r f false 2 (12 * (r / 12)))
theorem lag_take {T : ZD2} {x : Int32} {r f : Nat} : uTake (zw T 1 11 x) r f = zw (uTakeX T r f) 1 11 (x + zi 1) := by
  unfold uTake uTot uTakeX
  rw [lag_leave (by omega), zw_row (a := 1) (b := 2) (by omega), zw_comm (a := 1) (b := 2) (by omega), zw_self, zw_twice]
section
variable {X : ZX} {D T : ZD2} {s : Nat → Int32} {O : ZO2} {k : Nat × Nat × Nat}
theorem m248 : zev X 248 0 [.ref 168, zJ] [] (zHP (zrow D 172 s) O, k) = some (.inl none, (zHP (zrow (zrow D 173 fun j => if j < 540 then s j else D 173 j) 172 s) O, k)) := by
  rw [b248_0, zl_0]
  have key : ∀ d i, i + d = 540 → zev X 248 2 [.ref 168, .int (zi i)] [] (zHP (zrow (zrow D 173 fun j => if j < i then s j else D 173 j) 172 s) O, k) = some (.inl none, (zHP (zrow (zrow D 173 fun j => if j < 540 then s j else D 173 j) 172 s) O, k)) := by
    intro d
    induction d with
    | zero =>
      intro i h
      have e : i = 540 := by omega
      subst e
      refine b248_2.trans ?_
      simp (disch := first | assumption | omega) only [↓zn_l, zl_0, zl_1, zl_2, zl_3, zl_4, zl_5, zl_6, zl_7, zl_8, zl_9, zl_10, zl_11, zl_12, zl_13, zl_14, zl_15, zl_16, zl_17, zl_18, zl_19, zl_20, zl_21, zl_22, zl_23, zl_24, zl_25, zl_26, zl_27, zl_28, zl_29, zl_30, zl_31, zl_32, zl_36, zl_46, zl_48, zl_50, zl_57, zl_63, zl_64, zl_72, zl_97, zl_99, zl_100, zl_101, zl_122, zl_127, zl_200, zl_255, zl_406, zl_534, zl_540, zl_600, zl_9999, zl_33, zl_34, zl_35, zl_37, zl_38, zl_39, zl_40, zl_41, zl_42, zl_43, zl_44, zl_45, zl_47, zl_49, zl_52, zl_53, zl_54, zl_55, zl_58, zl_59, zl_60, zl_61, zl_62, zl_65, zl_70, zl_71, zl_98, zl_102, zl_103, zl_104, zl_105, zl_110, zl_111, zl_115, zl_120, zl_123, zl_126, zl_128, zl_256, zl_1000, zl_1024, zcon_inl, zcon_inr, Option.toList_some, Option.toList_none, List.cons_append, List.nil_append, List.append_nil, Nat.add_zero, zbind_some, zi_toNat, zi_lt, zi_inj, zi_add, zi_mul, zi_ne_zn, zn_ne_zi, zn_lt_zi, zi_lt_zn, Nat.not_lt_zero, false_or, if_true, if_false, true_or, or_false, Nat.reduceEqDiff, eq_self, Nat.lt_irrefl]
    | succ d ih =>
      intro i h
      have h540 : ¬ 540 ≤ i := by omega
      have hi : i < 540 := by omega
      rw [← ih (i + 1) (by omega)]
      refine b248_2.trans ?_
      simp (disch := first | assumption | omega) only [↓zn_l, zl_0, zl_1, zl_2, zl_3, zl_4, zl_5, zl_6, zl_7, zl_8, zl_9, zl_10, zl_11, zl_12, zl_13, zl_14, zl_15, zl_16, zl_17, zl_18, zl_19, zl_20, zl_21, zl_22, zl_23, zl_24, zl_25, zl_26, zl_27, zl_28, zl_29, zl_30, zl_31, zl_32, zl_36, zl_46, zl_48, zl_50, zl_57, zl_63, zl_64, zl_72, zl_97, zl_99, zl_100, zl_101, zl_122, zl_127, zl_200, zl_255, zl_406, zl_534, zl_540, zl_600, zl_9999, zl_33, zl_34, zl_35, zl_37, zl_38, zl_39, zl_40, zl_41, zl_42, zl_43, zl_44, zl_45, zl_47, zl_49, zl_52, zl_53, zl_54, zl_55, zl_58, zl_59, zl_60, zl_61, zl_62, zl_65, zl_70, zl_71, zl_98, zl_102, zl_103, zl_104, zl_105, zl_110, zl_111, zl_115, zl_120, zl_123, zl_126, zl_128, zl_256, zl_1000, zl_1024, zcon_inl, zcon_inr, Option.toList_some, Option.toList_none, List.cons_append, List.nil_append, List.append_nil, Nat.add_zero, zbind_some, zi_toNat, zi_lt, zi_inj, zi_add, zi_mul, zi_ne_zn, zn_ne_zi, zn_lt_zi, zi_lt_zn, Nat.not_lt_zero, false_or, if_true, if_false, true_or, or_false, Nat.reduceEqDiff, eq_self, hi, h540, zrow_self, zput_lo]
  have := key 540 0 (by omega)
  have e0 : zrow D 173 (fun j => if j < 0 then s j else D 173 j) = D := by
    funext a j
    unfold zrow
    split
    · rename_i h
      rw [h]
      simp
    · rfl
  rw [e0] at this
  exact this
theorem m262 : zev X 262 0 [.ref 168, zJ] [] (zHP (zrow D 172 s) O, k) = some (.inl none, (zHP (zrow D 172 fun j => if j < 540 then D 173 j else s j) O, k)) := by
  rw [b262_0, zl_0]
  have key : ∀ d i, i + d = 540 → zev X 262 2 [.ref 168, .int (zi i)] [] (zHP (zrow D 172 fun j => if j < i then D 173 j else s j) O, k) = some (.inl none, (zHP (zrow D 172 fun j => if j < 540 then D 173 j else s j) O, k)) := by
    intro d
    induction d with
    | zero =>
      intro i h
      have e : i = 540 := by omega
      subst e
      refine b262_2.trans ?_
      simp (disch := first | assumption | omega) only [↓zn_l, zl_0, zl_1, zl_2, zl_3, zl_4, zl_5, zl_6, zl_7, zl_8, zl_9, zl_10, zl_11, zl_12, zl_13, zl_14, zl_15, zl_16, zl_17, zl_18, zl_19, zl_20, zl_21, zl_22, zl_23, zl_24, zl_25, zl_26, zl_27, zl_28, zl_29, zl_30, zl_31, zl_32, zl_36, zl_46, zl_48, zl_50, zl_57, zl_63, zl_64, zl_72, zl_97, zl_99, zl_100, zl_101, zl_122, zl_127, zl_200, zl_255, zl_406, zl_534, zl_540, zl_600, zl_9999, zl_33, zl_34, zl_35, zl_37, zl_38, zl_39, zl_40, zl_41, zl_42, zl_43, zl_44, zl_45, zl_47, zl_49, zl_52, zl_53, zl_54, zl_55, zl_58, zl_59, zl_60, zl_61, zl_62, zl_65, zl_70, zl_71, zl_98, zl_102, zl_103, zl_104, zl_105, zl_110, zl_111, zl_115, zl_120, zl_123, zl_126, zl_128, zl_256, zl_1000, zl_1024, zcon_inl, zcon_inr, Option.toList_some, Option.toList_none, List.cons_append, List.nil_append, List.append_nil, Nat.add_zero, zbind_some, zi_toNat, zi_lt, zi_inj, zi_add, zi_mul, zi_ne_zn, zn_ne_zi, zn_lt_zi, zi_lt_zn, Nat.not_lt_zero, false_or, if_true, if_false, true_or, or_false, Nat.reduceEqDiff, eq_self, Nat.lt_irrefl]
    | succ d ih =>
      intro i h
      have h540 : ¬ 540 ≤ i := by omega
      have hi : i < 540 := by omega
      have e173 : zrow D 172 (fun j => if j < i then D 173 j else s j) 173 = D 173 := zrow_ne (by omega)
      rw [← ih (i + 1) (by omega)]
      refine b262_2.trans ?_
      simp (disch := first | assumption | omega) only [↓zn_l, zl_0, zl_1, zl_2, zl_3, zl_4, zl_5, zl_6, zl_7, zl_8, zl_9, zl_10, zl_11, zl_12, zl_13, zl_14, zl_15, zl_16, zl_17, zl_18, zl_19, zl_20, zl_21, zl_22, zl_23, zl_24, zl_25, zl_26, zl_27, zl_28, zl_29, zl_30, zl_31, zl_32, zl_36, zl_46, zl_48, zl_50, zl_57, zl_63, zl_64, zl_72, zl_97, zl_99, zl_100, zl_101, zl_122, zl_127, zl_200, zl_255, zl_406, zl_534, zl_540, zl_600, zl_9999, zl_33, zl_34, zl_35, zl_37, zl_38, zl_39, zl_40, zl_41, zl_42, zl_43, zl_44, zl_45, zl_47, zl_49, zl_52, zl_53, zl_54, zl_55, zl_58, zl_59, zl_60, zl_61, zl_62, zl_65, zl_70, zl_71, zl_98, zl_102, zl_103, zl_104, zl_105, zl_110, zl_111, zl_115, zl_120, zl_123, zl_126, zl_128, zl_256, zl_1000, zl_1024, zcon_inl, zcon_inr, Option.toList_some, Option.toList_none, List.cons_append, List.nil_append, List.append_nil, Nat.add_zero, zbind_some, zi_toNat, zi_lt, zi_inj, zi_add, zi_mul, zi_ne_zn, zn_ne_zi, zn_lt_zi, zi_lt_zn, Nat.not_lt_zero, false_or, if_true, if_false, true_or, or_false, Nat.reduceEqDiff, eq_self, hi, h540, e173, zput_hi]
  have := key 540 0 (by omega)
  have e0 : (fun j => if j < 0 then D 173 j else s j) = s := by
    funext j
    simp
  rw [e0] at this
  exact this
theorem uBuyX_im {r f : Nat} {V : ZD2} (h : zIm T V) : zIm T (uBuyX V r f) := zIm_leave (zIm_w (zIm_w (zIm_p h (by omega) (by omega)) (by omega) (by omega) (by omega)) (by omega) (by omega) (by omega))
theorem uTakeX_im {r f : Nat} {V : ZD2} (h : zIm T V) : zIm T (uTakeX V r f) := zIm_p (zIm_leave h) (by omega) (by omega)
theorem uBuyX_1 {r f : Nat} : uBuyX T r f 1 = T 1 := by
  unfold uBuyX
  rw [uLeave_o (by omega) (by omega), zw_row (by omega), zw_row (by omega), zw_row (by omega)]
theorem uBuyX_3 {r f q : Nat} (h : q ≠ r) : uBuyX T r f 3 (5 * q) = T 3 (5 * q) := by
  unfold uBuyX
  rw [uLeave_3, zw_ne (by omega), zw_ne (by omega), zw_ne (by omega), zw_row (by omega)]
theorem zIv_sell {r : Nat} (I : zIv T) (hr : r < 72) (hi : sIn T r = true) : zIv (zw (zw (zw T 2 (12 * (r / 12) + 3) (T 2 (12 * (r / 12) + 3) + sPrice T r)) 3 (5 * r + 3) (T 1 5)) 3 (5 * r + 4) (sPrice T r)) := by
  have hne : T 3 (5 * r) ≠ zn := by
    unfold sIn at hi
    simpa using hi
  exact zIv_paid (zIv_sold (zIv_w2 I (by omega) (by omega) (by omega)) hr (Or.inr (by rw [zw_row (by omega)]; exact hne))) hr
theorem zIv_buyX {r : Nat} (I : zIv T) (hr : r < 72) (hi : sIn T r = true) : zIv (uBuyX T r (sFr T r)) := by
  obtain ⟨f1, f2⟩ := sFr_of (zIv_at I r hr) hi
  exact zIv_leave (zIv_sell I hr hi) hr f1 (by rw [zw_ne (by omega), zw_ne (by omega), zw_row (by omega)]; exact f2)
theorem zEx_buyX {r : Nat} (I : zIv T) (E : zEx T) (hr : r < 72) (hi : sIn T r = true) : zEx (uBuyX T r (sFr T r)) := by
  obtain ⟨f1, f2⟩ := sFr_of (zIv_at I r hr) hi
  obtain ⟨tm, h1, h2⟩ := I.2.2.2.2.2.1
  exact zEx_leave (zIv_sell I hr hi) (zEx_sale (zEx_w2 E) (Or.inl (by rw [h1, Ne, zi_ne_zn (by omega)]; simp))) hr f1 (by rw [zw_ne (by omega), zw_ne (by omega), zw_row (by omega)]; exact f2)
/-- one turn of the model's buying -/
theorem m268step {i r : Nat} {n m : Int32} {v4 v5 v6 : Value} (I : zIv T) (S : zRs D T) (R : zRd s T) (hr : r < 72) (hi : sIn T r = true) (hD : D 181 i = zi r) (h72 : i < 72) (hin : zi i < n) : ∃ s' v4' v5' v6', zev X 268 15 [.ref 168, .int m, .int n, .int (zi i), v4, v5, v6] [] (zHP (zrow D 172 s) O, k) = zev X 268 15 [.ref 168, .int m, .int n, .int (zi (i + 1)), v4', v5', v6'] [] (zHP (zrow D 172 s') O, k) ∧ zRd s' (uBuyX T r (sFr T r)) := by
  have n2 := zIv_np6 I
  have hp := zvalid I hr hi
  have hp6 : r / 12 < 6 := by omega
  have hle : r / 12 * 12 ≤ r := Nat.div_mul_le_self r 12
  have hg : r - r / 12 * 12 < 12 := by omega
  have ed : 12 * (r / 12) + (r - r / 12 * 12) = r := by omega
  have hn72 : ¬ 72 ≤ i := by omega
  have h540 : ¬ 540 ≤ 0 := by omega
  obtain ⟨f1, f2⟩ := sFr_of (zIv_at I r hr) hi
  obtain ⟨tm, t1, t2⟩ := I.2.2.2.2.2.1
  have e0 := R.1.1.1
  have ec := (R.2.1 (r / 12) hp).2.1
  have IV := zIv_sell I hr hi
  have MV : zIm T (zw (zw (zw T 2 (12 * (r / 12) + 3) (T 2 (12 * (r / 12) + 3) + sPrice T r)) 3 (5 * r + 3) (T 1 5)) 3 (5 * r + 4) (sPrice T r)) := zIm_w (zIm_w (zIm_p zIm_rfl (by omega) (by omega)) (by omega) (by omega) (by omega)) (by omega) (by omega) (by omega)
  have R1 := zRd_credit (p := r / 12) (v := s (10 + 6 * (r / 12) + 1) + sPrice T r) R hp6 n2
  have n1 : sNp (zw T 2 (12 * (r / 12) + 3) (s (10 + 6 * (r / 12) + 1) + sPrice T r)) = sNp T := zRd_np (by rw [zw_row (by omega)])
  have R3 := zRd_sale (r := r) (v := s 0) (w := sPrice T r) (w' := sPrice T r) R1 hr (by omega) (fun _ => rfl)
  rw [ec, e0] at R3
  have hfV : zw (zw (zw T 2 (12 * (r / 12) + 3) (T 2 (12 * (r / 12) + 3) + sPrice T r)) 3 (5 * r + 3) (T 1 5)) 3 (5 * r + 4) (sPrice T r) 3 (5 * r) = zi (sFr T r) := by
    rw [zw_ne (by omega), zw_ne (by omega), zw_row (by omega)]; exact f2
  have RL := zRd_leave (w := false) IV R3 hr f1 hfV
  have e253 := m253 (X := X) (D := D) (O := O) (k := k) (p := r / 12) (g := r - r / 12 * 12) (f := sFr T r) (w := false) IV (zRs_im S MV n2) R3 (by rw [zRd_np MV.2.1]; exact hp) hg f1 (by rw [ed]; exact hfV)
  rw [ed, zb_f] at e253
  have e218 := m218r (X := X) (D := D) (O := O) (k := k) I R hr hi
  have e258 := @m258 X D s O k (r / 12) 1 (sPrice T r) hp6 (by omega)
  rw [ec] at e258
  have e254a := @m254 X D (zu s (10 + 6 * (r / 12) + 1) (T 2 (12 * (r / 12) + 3) + sPrice T r)) O k (r / 12) (r - r / 12 * 12) 3 (T 1 5) hp6 hg (by omega)
  have e254b := @m254 X D (zu (zu s (10 + 6 * (r / 12) + 1) (T 2 (12 * (r / 12) + 3) + sPrice T r)) (46 + 5 * r + 3) (T 1 5)) O k (r / 12) (r - r / 12 * 12) 4 (sPrice T r) hp6 hg (by omega)
  rw [ed] at e254a e254b
  have z0 : zu s (10 + 6 * (r / 12) + 1) (T 2 (12 * (r / 12) + 3) + sPrice T r) 0 = T 1 5 := by rw [zu_ne (by omega)]; exact e0
  refine ⟨_, .int (zi (r / 12)), .int (zi (r - r / 12 * 12)), .int (sPrice T r), ?_, RL⟩
  refine b268_15.trans ?_
  rw [if_pos hin]
  simp (disch := first | assumption | omega) only [↓zn_l, zl_0, zl_1, zl_2, zl_3, zl_4, zl_5, zl_6, zl_7, zl_8, zl_9, zl_10, zl_11, zl_12, zl_13, zl_14, zl_15, zl_16, zl_17, zl_18, zl_19, zl_20, zl_21, zl_22, zl_23, zl_24, zl_25, zl_26, zl_27, zl_28, zl_29, zl_30, zl_31, zl_32, zl_36, zl_46, zl_48, zl_50, zl_57, zl_63, zl_64, zl_72, zl_97, zl_99, zl_100, zl_101, zl_122, zl_127, zl_200, zl_255, zl_406, zl_534, zl_540, zl_600, zl_9999, zl_33, zl_34, zl_35, zl_37, zl_38, zl_39, zl_40, zl_41, zl_42, zl_43, zl_44, zl_45, zl_47, zl_49, zl_52, zl_53, zl_54, zl_55, zl_58, zl_59, zl_60, zl_61, zl_62, zl_65, zl_70, zl_71, zl_98, zl_102, zl_103, zl_104, zl_105, zl_110, zl_111, zl_115, zl_120, zl_123, zl_126, zl_128, zl_256, zl_1000, zl_1024, zcon_inl, zcon_inr, Option.toList_some, Option.toList_none, List.cons_append, List.nil_append, List.append_nil, Nat.add_zero, zbind_some, zi_toNat, zi_lt, zi_inj, zi_add, zi_mul, zi_ne_zn, zn_ne_zi, zn_lt_zi, zi_lt_zn, Nat.not_lt_zero, false_or, if_true, if_false, true_or, or_false, Nat.reduceEqDiff, eq_self, hn72, e181s, hD, zi_div, zi_sub, e218]
  refine b268_50.trans ?_
  rw [zl_1, e258, zcon_inl]
  refine b268_61.trans ?_
  simp (disch := first | assumption | omega) only [↓zn_l, zl_0, zl_1, zl_2, zl_3, zl_4, zl_5, zl_6, zl_7, zl_8, zl_9, zl_10, zl_11, zl_12, zl_13, zl_14, zl_15, zl_16, zl_17, zl_18, zl_19, zl_20, zl_21, zl_22, zl_23, zl_24, zl_25, zl_26, zl_27, zl_28, zl_29, zl_30, zl_31, zl_32, zl_36, zl_46, zl_48, zl_50, zl_57, zl_63, zl_64, zl_72, zl_97, zl_99, zl_100, zl_101, zl_122, zl_127, zl_200, zl_255, zl_406, zl_534, zl_540, zl_600, zl_9999, zl_33, zl_34, zl_35, zl_37, zl_38, zl_39, zl_40, zl_41, zl_42, zl_43, zl_44, zl_45, zl_47, zl_49, zl_52, zl_53, zl_54, zl_55, zl_58, zl_59, zl_60, zl_61, zl_62, zl_65, zl_70, zl_71, zl_98, zl_102, zl_103, zl_104, zl_105, zl_110, zl_111, zl_115, zl_120, zl_123, zl_126, zl_128, zl_256, zl_1000, zl_1024, zcon_inl, zcon_inr, Option.toList_some, Option.toList_none, List.cons_append, List.nil_append, List.append_nil, Nat.add_zero, zbind_some, zi_toNat, zi_lt, zi_inj, zi_add, zi_mul, zi_ne_zn, zn_ne_zi, zn_lt_zi, zi_lt_zn, Nat.not_lt_zero, false_or, if_true, if_false, true_or, or_false, Nat.reduceEqDiff, eq_self, h540, zrow_self, z0, e254a]
  refine b268_76.trans ?_
  simp (disch := first | assumption | omega) only [↓zn_l, zl_0, zl_1, zl_2, zl_3, zl_4, zl_5, zl_6, zl_7, zl_8, zl_9, zl_10, zl_11, zl_12, zl_13, zl_14, zl_15, zl_16, zl_17, zl_18, zl_19, zl_20, zl_21, zl_22, zl_23, zl_24, zl_25, zl_26, zl_27, zl_28, zl_29, zl_30, zl_31, zl_32, zl_36, zl_46, zl_48, zl_50, zl_57, zl_63, zl_64, zl_72, zl_97, zl_99, zl_100, zl_101, zl_122, zl_127, zl_200, zl_255, zl_406, zl_534, zl_540, zl_600, zl_9999, zl_33, zl_34, zl_35, zl_37, zl_38, zl_39, zl_40, zl_41, zl_42, zl_43, zl_44, zl_45, zl_47, zl_49, zl_52, zl_53, zl_54, zl_55, zl_58, zl_59, zl_60, zl_61, zl_62, zl_65, zl_70, zl_71, zl_98, zl_102, zl_103, zl_104, zl_105, zl_110, zl_111, zl_115, zl_120, zl_123, zl_126, zl_128, zl_256, zl_1000, zl_1024, zcon_inl, zcon_inr, Option.toList_some, Option.toList_none, List.cons_append, List.nil_append, List.append_nil, Nat.add_zero, zbind_some, zi_toNat, zi_lt, zi_inj, zi_add, zi_mul, zi_ne_zn, zn_ne_zi, zn_lt_zi, zi_lt_zn, Nat.not_lt_zero, false_or, if_true, if_false, true_or, or_false, Nat.reduceEqDiff, eq_self, e254b]
  refine b268_87.trans ?_
  rw [zl_0, e253, zcon_inl]
  refine b268_96.trans ?_
  rw [zl_1, zi_add]
theorem sL_at {i j : Nat} (hi : i < (sL T).length) (hj : j < (sL T).length) (h : (sL T).getD i 0 = (sL T).getD j 0) : i = j := by
  have := sL_nodup (T := T)
  rw [List.getD_eq_getElem?_getD, List.getD_eq_getElem?_getD, List.getElem?_eq_getElem hi, List.getElem?_eq_getElem hj] at h
  simp only [Option.getD_some] at h
  have hp := List.pairwise_iff_getElem.mp this
  rcases Nat.lt_trichotomy i j with q | q | q
  · exact absurd h (hp i j hi hj q)
  · exact q
  · exact absurd h.symm (hp j i hj hi q)
/-- what stands while offers are bought -/
def zBg (T V : ZD2) (i : Nat) : Prop := zIv V ∧ zEx V ∧ zIm T V ∧ V 1 = T 1 ∧ ∀ j, i ≤ j → j < (sL T).length → V 3 (5 * (sL T).getD j 0) = T 3 (5 * (sL T).getD j 0)
theorem zBg_step {V : ZD2} {i : Nat} (B : zBg T V i) (hi : i < (sL T).length) : sIn V ((sL T).getD i 0) = true ∧ zBg T (sBuyX (sL T) i V) (i + 1) := by
  obtain ⟨I, E, M, h1, h3⟩ := B
  obtain ⟨r1, r2⟩ := sL_in (T := T) sL_all hi
  have hin : sIn V ((sL T).getD i 0) = true := by
    unfold sIn at r2 ⊢
    rw [h3 i (Nat.le_refl _) hi]
    exact r2
  refine ⟨hin, zIv_buyX I r1 hin, zEx_buyX I E r1 hin, uBuyX_im M, uBuyX_1.trans h1, fun j h2 hj => ?_⟩
  unfold sBuyX
  rw [uBuyX_3 (fun e => by have := sL_at hj hi e; omega)]
  exact h3 j (by omega) hj
theorem m268 {n : Nat} (I : zIv T) (E : zEx T) (S : zRs D T) (R : zRd s T) (h2 : n ≤ 72) : ∃ D' s', zev X 268 0 [.ref 168, .int (zi n), zJ, zJ, zJ, zJ, zJ] [] (zHP (zrow D 172 s) O, k) = some (.inl (some (.int (zi (min n (sL T).length)))), (zHP (zrow D' 172 s') O, k)) ∧ zFrM D D' ∧ zRd s' (rAsk T n) ∧ zIv (rAsk T n) ∧ zEx (rAsk T n) ∧ zIm T (rAsk T n) := by
  have hl := zsL_len I
  obtain ⟨D', q1, q2, q3, q4⟩ := m211 (X := X) (O := O) (k := k) I S R (zIv_wok I)
  have S' := zRs_fr q2 S
  have hmin : min n (sL T).length ≤ (sL T).length := Nat.min_le_right _ _
  have h540 : ¬ 540 ≤ 5 := by omega
  have key : ∀ d i V s v4 v5 v6, i + d = min n (sL T).length → zBg T V i → zRd s V → ∃ s', zev X 268 15 [.ref 168, .int (zi n), .int (zi (min n (sL T).length)), .int (zi i), v4, v5, v6] [] (zHP (zrow D' 172 s) O, k) = some (.inl (some (.int (zi (min n (sL T).length)))), (zHP (zrow D' 172 (zu s' 5 (s' 5 + zi (min n (sL T).length)))) O, k)) ∧ zRd s' (zfo (sBuyX (sL T)) d i V) ∧ zBg T (zfo (sBuyX (sL T)) d i V) (i + d) := by
    intro d
    induction d with
    | zero =>
      intro i V s v4 v5 v6 hi B RV
      have e : i = min n (sL T).length := by omega
      refine ⟨s, ?_, RV, B⟩
      refine b268_15.trans ?_
      rw [e]
      simp (disch := first | assumption | omega) only [↓zn_l, zl_0, zl_1, zl_2, zl_3, zl_4, zl_5, zl_6, zl_7, zl_8, zl_9, zl_10, zl_11, zl_12, zl_13, zl_14, zl_15, zl_16, zl_17, zl_18, zl_19, zl_20, zl_21, zl_22, zl_23, zl_24, zl_25, zl_26, zl_27, zl_28, zl_29, zl_30, zl_31, zl_32, zl_36, zl_46, zl_48, zl_50, zl_57, zl_63, zl_64, zl_72, zl_97, zl_99, zl_100, zl_101, zl_122, zl_127, zl_200, zl_255, zl_406, zl_534, zl_540, zl_600, zl_9999, zl_33, zl_34, zl_35, zl_37, zl_38, zl_39, zl_40, zl_41, zl_42, zl_43, zl_44, zl_45, zl_47, zl_49, zl_52, zl_53, zl_54, zl_55, zl_58, zl_59, zl_60, zl_61, zl_62, zl_65, zl_70, zl_71, zl_98, zl_102, zl_103, zl_104, zl_105, zl_110, zl_111, zl_115, zl_120, zl_123, zl_126, zl_128, zl_256, zl_1000, zl_1024, zcon_inl, zcon_inr, Option.toList_some, Option.toList_none, List.cons_append, List.nil_append, List.append_nil, Nat.add_zero, zbind_some, zi_toNat, zi_lt, zi_inj, zi_add, zi_mul, zi_ne_zn, zn_ne_zi, zn_lt_zi, zi_lt_zn, Nat.not_lt_zero, false_or, if_true, if_false, true_or, or_false, Nat.reduceEqDiff, eq_self, Nat.lt_irrefl, h540, zrow_self, zw_s]
    | succ d ih =>
      intro i V s v4 v5 v6 hi B RV
      have hi2 : i < (sL T).length := by omega
      obtain ⟨hin, B2⟩ := zBg_step B hi2
      obtain ⟨r1, r2⟩ := sL_in (T := T) sL_all hi2
      obtain ⟨s1, w4, w5, w6, e1, R1⟩ := m268step (X := X) (O := O) (k := k) (n := zi (min n (sL T).length)) (m := zi n) (v4 := v4) (v5 := v5) (v6 := v6) B.1 (zRs_im S' B.2.2.1 (zIv_np6 I)) RV r1 hin (zML_at q3 hi2) (show i < 72 by omega) (by rw [zi_lt (by omega) (by omega)]; omega)
      obtain ⟨s', e2, R2, B3⟩ := ih (i + 1) (sBuyX (sL T) i V) s1 w4 w5 w6 (by omega) B2 R1
      have ez : zfo (sBuyX (sL T)) (d + 1) i V = zfo (sBuyX (sL T)) d (i + 1) (sBuyX (sL T) i V) := by rw [zfo]
      rw [ez, show i + (d + 1) = i + 1 + d by omega]
      exact ⟨s', e1.trans e2, R2, B3⟩
  obtain ⟨s', e, R', B'⟩ := key (min n (sL T).length) 0 T s zJ zJ zJ (by omega) ⟨I, E, zIm_rfl, rfl, fun _ _ _ => rfl⟩ R
  have ask : rAsk T n = zw (zfo (sBuyX (sL T)) (min n (sL T).length) 0 T) 1 10 (T 1 10 + zi (min n (sL T).length)) := by
    have e0 : zw T 1 10 (T 1 10) = T := zw_same rfl
    unfold rAsk
    rw [← sBuyX_eq, e0]
  have e5 : s' 5 = T 1 10 := by
    have := zRt_all.mp R'.1 5 (by omega)
    rw [this, B'.2.2.2.1]
  refine ⟨D', zu s' 5 (s' 5 + zi (min n (sL T).length)), ?_, q2, ?_, ?_, ?_, ?_⟩
  · rw [b268_0, q1, zcon_inl]
    refine b268_4.trans ?_
    have em : (if zrow D' 172 s 168 39 < zi n then zrow D' 172 s 168 39 else zi n) = zi (min n (sL T).length) := by
      rw [e168s, q3.1, zmin (by omega) (by omega), Nat.min_comm]
    rw [em, zl_0]
    exact e
  · rw [ask, e5]
    exact zRd_w1 (i := 5) R' (by omega) (by omega)
  · rw [ask]; exact zIv_w1 B'.1 (by omega) (by omega) (by omega)
  · rw [ask]; exact zEx_w1 B'.2.1
  · rw [ask]; exact zIm_w B'.2.2.1 (by omega) (by omega) (by omega)
end
