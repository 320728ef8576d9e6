/-! Which page is taken next; the offers in their order. -/
section
variable {X : ZX} {D T : ZD2} {O : ZO2} {k : Nat × Nat × Nat} {m : Nat}
theorem zloopG {α β : Type} {P : Nat → α → β → Option ZR} {Q : α → Option ZR} {f : Nat → α → α} {n : Nat} {J : Nat → α → Prop} {ok : β → Prop} (h1 : ∀ i a v, i < n → J i a → ok v → ∃ v', ok v' ∧ P i a v = P (i + 1) (f i a) v' ∧ J (i + 1) (f i a)) (h2 : ∀ a v, J n a → ok v → P n a v = Q a) : ∀ d i a v, i + d = n → J i a → ok v → P i a v = Q (zfo f d i a) ∧ J n (zfo f d i a)
  | 0, i, a, v, h, hJ, hv => by
    have e : i = n := by omega
    subst e
    exact ⟨h2 a v hJ hv, hJ⟩
  | d + 1, i, a, v, h, hJ, hv => by
    obtain ⟨v', e0, e1, e2⟩ := h1 i a v (by omega) hJ hv
    obtain ⟨e3, e4⟩ := zloopG h1 h2 d (i + 1) (f i a) v' (by omega) e2 e0
    exact ⟨e1.trans e3, e4⟩
def sIdl (T : ZD2) (l : Bool) (a n : Nat) : Option Nat := zfo (sBest T fun r => if l then sLoose T r else sIn T r) (n - a) a none
theorem sBest_sp {T : ZD2} {w : Nat → Bool} : ∀ d a o, (∀ r, o = some r → w r = true) → ∀ r, zfo (sBest T w) d a o = some r → w r = true
  | 0, _, _, h, r, hr => h r hr
  | d + 1, a, o, h, r, hr => by
    refine sBest_sp d (a + 1) (sBest T w a o) (fun r hr => ?_) r hr
    rcases sBest_or T w a o with e | e
    · unfold sBest at hr
      cases hq : sBq T w a o
      · rw [hq] at hr
        exact h r (by simpa using hr)
      · rw [hq] at hr
        have : r = a := by simpa using hr.symm
        rw [this]
        unfold sBq at hq
        simp only [Bool.and_eq_true] at hq
        exact hq.1
    · exact h r (e ▸ hr)
theorem c48i {a n : Nat} {l : Bool} (hm : zisM m) (h : a ≤ n) (hn : n ≤ 72) (ha : ∀ r, r < 72 → zAt T r) : zev X 48 0 [.ref m, .int (zi a), .int (zi n), .int (zb l), zJ, zJ, zJ] [] (zHP (zmt D m T) O, k) = some (.inl (some (.int (zo (sIdl T l a n)))), (zHP (zmt D m T) O, k)) := (c48 hm h hn ha).1
theorem sIdl_sp {a n r : Nat} {l : Bool} (hm : zisM m) (h : a ≤ n) (hn : n ≤ 72) (ha : ∀ r, r < 72 → zAt T r) (hr : sIdl T l a n = some r) : r < n ∧ (if l then sLoose T r else sIn T r) = true :=
  ⟨(c48 (X := (0, fun _ => 0)) (D := fun _ _ => 0) (O := (fun _ => 0, fun _ => 0)) (k := (0, 0, 0)) hm h hn ha).2 r hr, sBest_sp (T := T) (w := fun r => if l then sLoose T r else sIn T r) _ _ none (by intro r h; cases h) r hr⟩
def sHeld (T : ZD2) (p : Nat) : Int32 := zPop (zfo (sSet T p false) 12 0 0)
def sTakeF (T : ZD2) (p : Nat) (a : Option Nat × Int32) : Option Nat × Int32 := match sIdl T true (12 * p) (12 * (p + 1)) with
  | none => a
  | some r => if a.2 < sHeld T p then (some r, sHeld T p) else a
def sTaken (T : ZD2) : Option Nat := (zfo (sTakeF T) (sNp T) 0 (none, zi 0)).1
def rTake (T : ZD2) : ZD2 := match sTaken T with | none => T | some r => uTake T r (sFr T r)
theorem c58 (hm : zisM m) (ha : ∀ r, r < 72 → zAt T r) (hn : T 1 0 = zi (sNp T)) (h6 : sNp T ≤ 6) : zev X 58 0 [.ref m, zJ, zJ, zJ, zJ, zJ] [] (zHP (zmt D m T) O, k) = some (.inl (some (.int (zo (sTaken T)))), (zHP (zmt D m (rTake T)) O, k)) ∧ ∀ r, sTaken T = some r → r < 72 ∧ sLoose T r = true := by
  have key := zloopG (β := Value × Value) (P := fun i a v => zev X 58 6 [.ref m, .int (zo a.1), .int a.2, .int (zi i), v.1, v.2] [] (zHP (zmt D m T) O, k)) (Q := fun a => some (.inl (some (.int (zo a.1))), (zHP (zmt D m (match a.1 with | none => T | some r => uTake T r (sFr T r))) O, k))) (f := sTakeF T) (n := sNp T) (J := fun _ a => ∀ r, a.1 = some r → r < 72 ∧ sLoose T r = true) (ok := fun v => v.1.category = 1 ∧ v.2.category = 1) ?_ ?_ (sNp T) 0 (none, zi 0) (zJ, zJ) (by omega) (by intro r h; cases h) ⟨rfl, rfl⟩
  · refine ⟨?_, key.2⟩
    simp only [b58_0, ↓zn_l, zl_0, zl_1, zl_2, zl_3, zl_4, zl_5, zl_6, zl_7, zl_8, zl_9, zl_10, zl_11, zl_12, zl_13, zl_14, zl_15, zl_16, zl_17, zl_18, zl_19, zl_20, zl_21, zl_22, zl_23, zl_24, zl_25, zl_26, zl_27, zl_28, zl_29, zl_30, zl_31, zl_32, zl_36, zl_46, zl_48, zl_50, zl_57, zl_63, zl_64, zl_72, zl_97, zl_99, zl_100, zl_101, zl_122, zl_127, zl_200, zl_255, zl_406, zl_534, zl_540, zl_600, zl_9999, zl_33, zl_34, zl_35, zl_37, zl_38, zl_39, zl_40, zl_41, zl_42, zl_43, zl_44, zl_45, zl_47, zl_49, zl_52, zl_53, zl_54, zl_55, zl_58, zl_59, zl_60, zl_61, zl_62, zl_65, zl_70, zl_71, zl_98, zl_102, zl_103, zl_104, zl_105, zl_110, zl_111, zl_115, zl_120, zl_123, zl_126, zl_128, zl_256, zl_1000, zl_1024]
    exact key.1
  · intro i a v hi hJ hv
    have hi6 : i < 6 := by omega
    have e40 := @c40 X D T O k m i false hm hi6 ha
    rw [zb_f] at e40
    have e48 := @c48i X D T O k m (12 * i) (12 * (i + 1)) true hm (by omega) (by omega) ha
    rw [zb_t] at e48
    refine ⟨(.int (sHeld T i), .int (zo (sIdl T true (12 * i) (12 * (i + 1))))), ⟨rfl, rfl⟩, ?_, ?_⟩
    · refine (b58_6 hm).trans ?_
      simp (disch := first | assumption | omega) only [b58_11, c18, hn, ↓zn_l, zl_0, zl_1, zl_2, zl_3, zl_4, zl_5, zl_6, zl_7, zl_8, zl_9, zl_10, zl_11, zl_12, zl_13, zl_14, zl_15, zl_16, zl_17, zl_18, zl_19, zl_20, zl_21, zl_22, zl_23, zl_24, zl_25, zl_26, zl_27, zl_28, zl_29, zl_30, zl_31, zl_32, zl_36, zl_46, zl_48, zl_50, zl_57, zl_63, zl_64, zl_72, zl_97, zl_99, zl_100, zl_101, zl_122, zl_127, zl_200, zl_255, zl_406, zl_534, zl_540, zl_600, zl_9999, zl_33, zl_34, zl_35, zl_37, zl_38, zl_39, zl_40, zl_41, zl_42, zl_43, zl_44, zl_45, zl_47, zl_49, zl_52, zl_53, zl_54, zl_55, zl_58, zl_59, zl_60, zl_61, zl_62, zl_65, zl_70, zl_71, zl_98, zl_102, zl_103, zl_104, zl_105, zl_110, zl_111, zl_115, zl_120, zl_123, zl_126, zl_128, zl_256, zl_1000, zl_1024, zcon_inl, zcon_inr, Option.toList_some, Option.toList_none, List.cons_append, List.nil_append, List.append_nil, Nat.add_zero, zbind_some, zi_toNat, zi_lt, zi_inj, zi_add, zi_mul, zi_ne_zn, zn_ne_zi, zn_lt_zi, zi_lt_zn, Nat.not_lt_zero, false_or, if_true, if_false, true_or, or_false, hi, e40, b58_20, c351, b58_23, c21, b58_31, b58_38, e48]
      change zev X 58 42 [.ref m, .int (zo a.1), .int a.2, .int (zi i), .int (sHeld T i), v.2] [.int (zo (sIdl T true (12 * i) (12 * (i + 1))))] _ = _
      refine b58_42.trans ?_
      unfold sTakeF
      cases hs : sIdl T true (12 * i) (12 * (i + 1)) with
      | none => simp (disch := first | assumption | omega) only [↓zn_l, zl_0, zl_1, zl_2, zl_3, zl_4, zl_5, zl_6, zl_7, zl_8, zl_9, zl_10, zl_11, zl_12, zl_13, zl_14, zl_15, zl_16, zl_17, zl_18, zl_19, zl_20, zl_21, zl_22, zl_23, zl_24, zl_25, zl_26, zl_27, zl_28, zl_29, zl_30, zl_31, zl_32, zl_36, zl_46, zl_48, zl_50, zl_57, zl_63, zl_64, zl_72, zl_97, zl_99, zl_100, zl_101, zl_122, zl_127, zl_200, zl_255, zl_406, zl_534, zl_540, zl_600, zl_9999, zl_33, zl_34, zl_35, zl_37, zl_38, zl_39, zl_40, zl_41, zl_42, zl_43, zl_44, zl_45, zl_47, zl_49, zl_52, zl_53, zl_54, zl_55, zl_58, zl_59, zl_60, zl_61, zl_62, zl_65, zl_70, zl_71, zl_98, zl_102, zl_103, zl_104, zl_105, zl_110, zl_111, zl_115, zl_120, zl_123, zl_126, zl_128, zl_256, zl_1000, zl_1024, zcon_inl, zcon_inr, Option.toList_some, Option.toList_none, List.cons_append, List.nil_append, List.append_nil, Nat.add_zero, zbind_some, zi_toNat, zi_lt, zi_inj, zi_add, zi_mul, zi_ne_zn, zn_ne_zi, zn_lt_zi, zi_lt_zn, Nat.not_lt_zero, false_or, if_true, if_false, true_or, or_false, zo]
      | some r =>
        have hr := (sIdl_sp hm (by omega) (by omega) ha hs).1
        have hr2 : r < 2147483648 := by omega
        by_cases hlt : a.2 < sHeld T i <;> simp (disch := first | assumption | omega) only [↓zn_l, zl_0, zl_1, zl_2, zl_3, zl_4, zl_5, zl_6, zl_7, zl_8, zl_9, zl_10, zl_11, zl_12, zl_13, zl_14, zl_15, zl_16, zl_17, zl_18, zl_19, zl_20, zl_21, zl_22, zl_23, zl_24, zl_25, zl_26, zl_27, zl_28, zl_29, zl_30, zl_31, zl_32, zl_36, zl_46, zl_48, zl_50, zl_57, zl_63, zl_64, zl_72, zl_97, zl_99, zl_100, zl_101, zl_122, zl_127, zl_200, zl_255, zl_406, zl_534, zl_540, zl_600, zl_9999, zl_33, zl_34, zl_35, zl_37, zl_38, zl_39, zl_40, zl_41, zl_42, zl_43, zl_44, zl_45, zl_47, zl_49, zl_52, zl_53, zl_54, zl_55, zl_58, zl_59, zl_60, zl_61, zl_62, zl_65, zl_70, zl_71, zl_98, zl_102, zl_103, zl_104, zl_105, zl_110, zl_111, zl_115, zl_120, zl_123, zl_126, zl_128, zl_256, zl_1000, zl_1024, zcon_inl, zcon_inr, Option.toList_some, Option.toList_none, List.cons_append, List.nil_append, List.append_nil, Nat.add_zero, zbind_some, zi_toNat, zi_lt, zi_inj, zi_add, zi_mul, zi_ne_zn, zn_ne_zi, zn_lt_zi, zi_lt_zn, Nat.not_lt_zero, false_or, if_true, if_false, true_or, or_false, zo, hlt]
    · intro r hr
      unfold sTakeF at hr
      cases hs : sIdl T true (12 * i) (12 * (i + 1)) with
      | none =>
        rw [hs] at hr
        exact hJ r hr
      | some r' =>
        rw [hs] at hr
        by_cases hlt : a.2 < sHeld T i
        · simp only [hlt, if_true] at hr
          cases hr
          obtain ⟨h1, h2⟩ := sIdl_sp hm (by omega) (by omega) ha hs
          exact ⟨by omega, by simpa using h2⟩
        · simp only [hlt, if_false] at hr
          exact hJ r hr
  · intro a v hJ _
    refine (b58_6 hm).trans ?_
    simp (disch := first | assumption | omega) only [b58_11, c18, hn, ↓zn_l, zl_0, zl_1, zl_2, zl_3, zl_4, zl_5, zl_6, zl_7, zl_8, zl_9, zl_10, zl_11, zl_12, zl_13, zl_14, zl_15, zl_16, zl_17, zl_18, zl_19, zl_20, zl_21, zl_22, zl_23, zl_24, zl_25, zl_26, zl_27, zl_28, zl_29, zl_30, zl_31, zl_32, zl_36, zl_46, zl_48, zl_50, zl_57, zl_63, zl_64, zl_72, zl_97, zl_99, zl_100, zl_101, zl_122, zl_127, zl_200, zl_255, zl_406, zl_534, zl_540, zl_600, zl_9999, zl_33, zl_34, zl_35, zl_37, zl_38, zl_39, zl_40, zl_41, zl_42, zl_43, zl_44, zl_45, zl_47, zl_49, zl_52, zl_53, zl_54, zl_55, zl_58, zl_59, zl_60, zl_61, zl_62, zl_65, zl_70, zl_71, zl_98, zl_102, zl_103, zl_104, zl_105, zl_110, zl_111, zl_115, zl_120, zl_123, zl_126, zl_128, zl_256, zl_1000, zl_1024, zcon_inl, zcon_inr, Option.toList_some, Option.toList_none, List.cons_append, List.nil_append, List.append_nil, Nat.add_zero, zbind_some, zi_toNat, zi_lt, zi_inj, zi_add, zi_mul, zi_ne_zn, zn_ne_zi, zn_lt_zi, zi_lt_zn, Nat.not_lt_zero, false_or, if_true, if_false, true_or, or_false, Nat.lt_irrefl]
    obtain ⟨o, q⟩ := a
    cases o with
    | none => simp (disch := first | assumption | omega) only [zo, ↓zn_l, zl_0, zl_1, zl_2, zl_3, zl_4, zl_5, zl_6, zl_7, zl_8, zl_9, zl_10, zl_11, zl_12, zl_13, zl_14, zl_15, zl_16, zl_17, zl_18, zl_19, zl_20, zl_21, zl_22, zl_23, zl_24, zl_25, zl_26, zl_27, zl_28, zl_29, zl_30, zl_31, zl_32, zl_36, zl_46, zl_48, zl_50, zl_57, zl_63, zl_64, zl_72, zl_97, zl_99, zl_100, zl_101, zl_122, zl_127, zl_200, zl_255, zl_406, zl_534, zl_540, zl_600, zl_9999, zl_33, zl_34, zl_35, zl_37, zl_38, zl_39, zl_40, zl_41, zl_42, zl_43, zl_44, zl_45, zl_47, zl_49, zl_52, zl_53, zl_54, zl_55, zl_58, zl_59, zl_60, zl_61, zl_62, zl_65, zl_70, zl_71, zl_98, zl_102, zl_103, zl_104, zl_105, zl_110, zl_111, zl_115, zl_120, zl_123, zl_126, zl_128, zl_256, zl_1000, zl_1024, zcon_inl, zcon_inr, Option.toList_some, Option.toList_none, List.cons_append, List.nil_append, List.append_nil, Nat.add_zero, zbind_some, zi_toNat, zi_lt, zi_inj, zi_add, zi_mul, zi_ne_zn, zn_ne_zi, zn_lt_zi, zi_lt_zn, Nat.not_lt_zero, false_or, if_true, if_false, true_or, or_false, b58_78]
    | some r =>
      obtain ⟨hr, hl⟩ := hJ r rfl
      have hin : sIn T r = true := by
        unfold sLoose at hl
        simp only [Bool.and_eq_true] at hl
        exact hl.1.1.1
      obtain ⟨h1, h2⟩ := sFr_of (ha r hr) hin
      have e59 := @c59 X D T O k m r (sFr T r) hm hr h1 h2
      simp (disch := first | assumption | omega) only [zo, ↓zn_l, zl_0, zl_1, zl_2, zl_3, zl_4, zl_5, zl_6, zl_7, zl_8, zl_9, zl_10, zl_11, zl_12, zl_13, zl_14, zl_15, zl_16, zl_17, zl_18, zl_19, zl_20, zl_21, zl_22, zl_23, zl_24, zl_25, zl_26, zl_27, zl_28, zl_29, zl_30, zl_31, zl_32, zl_36, zl_46, zl_48, zl_50, zl_57, zl_63, zl_64, zl_72, zl_97, zl_99, zl_100, zl_101, zl_122, zl_127, zl_200, zl_255, zl_406, zl_534, zl_540, zl_600, zl_9999, zl_33, zl_34, zl_35, zl_37, zl_38, zl_39, zl_40, zl_41, zl_42, zl_43, zl_44, zl_45, zl_47, zl_49, zl_52, zl_53, zl_54, zl_55, zl_58, zl_59, zl_60, zl_61, zl_62, zl_65, zl_70, zl_71, zl_98, zl_102, zl_103, zl_104, zl_105, zl_110, zl_111, zl_115, zl_120, zl_123, zl_126, zl_128, zl_256, zl_1000, zl_1024, zcon_inl, zcon_inr, Option.toList_some, Option.toList_none, List.cons_append, List.nil_append, List.append_nil, Nat.add_zero, zbind_some, zi_toNat, zi_lt, zi_inj, zi_add, zi_mul, zi_ne_zn, zn_ne_zi, zn_lt_zi, zi_lt_zn, Nat.not_lt_zero, false_or, if_true, if_false, true_or, or_false, e59, b58_78]
end
