/-! The frames that a program holds, in both. -/
theorem ybit1 : ∀ f, f < 64 → yn ((1 : Int64) <<< ((zi f).toInt64 &&& 63)) = 2 ^ f := by decide +kernel
/-- whether a frame holds one of the pages i .. i+d of a program -/
def sHas (T : ZD2) (p f d i : Nat) : Bool := zfo (fun g h => h || decide (T 3 (5 * (12 * p + g)) = zi f)) d i false
theorem sHas_acc (T : ZD2) (p f : Nat) : ∀ d i h, zfo (fun g h => h || decide (T 3 (5 * (12 * p + g)) = zi f)) d i h = (h || sHas T p f d i)
  | 0, _, h => by simp [sHas, zfo]
  | d + 1, i, h => by
    have e : sHas T p f (d + 1) i = (decide (T 3 (5 * (12 * p + i)) = zi f) || sHas T p f d (i + 1)) := by
      show zfo (fun g h => h || decide (T 3 (5 * (12 * p + g)) = zi f)) d (i + 1) (false || decide (T 3 (5 * (12 * p + i)) = zi f)) = _
      rw [sHas_acc T p f d (i + 1), Bool.false_or]
    rw [zfo, sHas_acc T p f d (i + 1), e, Bool.or_assoc]
def sHasD (T : ZD2) (p : Nat) (o : Bool) (f d : Nat) : Bool := sHas T p f d 0 && (!o || sDirty T f)
theorem sHas_split (T : ZD2) (p f d e : Nat) : sHas T p f (d + e) 0 = (sHas T p f d 0 || sHas T p f e d) := by
  unfold sHas
  rw [zfo_add, sHas_acc, Nat.zero_add]
  rfl
section
variable {T : ZD2}
theorem sSet_bits {p : Nat} {o : Bool} (I : zIv T) (hp : p < 6) : ∀ d, d ≤ 12 → ∀ f, (yn (zfo (sSet T p o) d 0 0)).testBit f = (decide (f < 64) && sHasD T p o f d) := by
  intro d
  induction d with
  | zero =>
    intro _ f
    have e : yn (zfo (sSet T p o) 0 0 0) = 0 := rfl
    rw [e, Nat.zero_testBit]
    simp [sHasD, sHas, zfo]
  | succ d ih =>
    intro hd f
    have ih := ih (by omega)
    have e1 : zfo (sSet T p o) (d + 1) 0 0 = sSet T p o d (zfo (sSet T p o) d 0 0) := by rw [zfo_add]; simp [zfo]
    have e2 : sHas T p f (d + 1) 0 = (sHas T p f d 0 || decide (T 3 (5 * (12 * p + d)) = zi f)) := by
      rw [sHas_split]
      simp [sHas, zfo]
    rw [e1]
    unfold sHasD at ih ⊢
    rw [e2]
    generalize zfo (sSet T p o) d 0 0 = z at ih ⊢
    unfold sSet
    rcases zIv_at I (12 * p + d) (by omega) with h | ⟨g, hg, h⟩
    · have hi : sIn T (12 * p + d) = false := by unfold sIn; simp [h]
      rw [hi, Bool.false_and, if_neg (by simp), ih f, h]
      by_cases hf : f < 64
      · rw [decide_eq_false (p := zn = zi f) (fun q => (zn_ne_zi (by omega)).mp q), Bool.or_false]
      · simp [hf]
    · have hi : sIn T (12 * p + d) = true := by unfold sIn; rw [h]; simp (disch := first | assumption | omega) [zi_ne_zn]
      have hfr : sFr T (12 * p + d) = g := by unfold sFr; rw [h, zi_toNat (by omega)]
      rw [hi, Bool.true_and, hfr, h]
      by_cases hc : (!o || sDirty T g) = true
      · rw [if_pos hc, yn_or, Nat.testBit_or, ih f, ybit1 g hg, Nat.testBit_two_pow]
        by_cases hf : f < 64
        · by_cases e : g = f
          · subst e
            simp [hf, hc]
          · have e3 : ¬ zi g = zi f := by rw [zi_inj (by omega) (by omega)]; exact e
            simp [hf, e, e3]
        · have e : ¬ g = f := by omega
          simp [hf, e]
      · rw [if_neg hc, ih f]
        by_cases e : g = f
        · subst e
          have : (!o || sDirty T g) = false := by simpa using hc
          simp [this]
        · by_cases hf : f < 64
          · have e3 : ¬ zi g = zi f := by rw [zi_inj (by omega) (by omega)]; exact e
            simp [hf, e3]
          · simp [hf]
/-- how many frames -/
def sMany (T : ZD2) (p : Nat) (o : Bool) : Nat := zct (fun f => sHasD T p o f 12) (sNf T) 0 0
theorem sHas_false {p f d i : Nat} (h : ∀ g, i ≤ g → g < i + d → T 3 (5 * (12 * p + g)) ≠ zi f) : sHas T p f d i = false := by
  unfold sHas
  exact zfo_id d i false fun j b h1 h2 => by rw [decide_eq_false (h j h1 h2), Bool.or_false]
theorem zPop_held {p : Nat} {o : Bool} (I : zIv T) (hp : p < 6) : zPop (zfo (sSet T p o) 12 0 0) = zi (sMany T p o) := by
  rw [zPop_ct]
  congr 1
  unfold ysum sMany
  have n4 := zIv_nf64 I
  have e : zct (fun i => (yn (zfo (sSet T p o) 12 0 0)).testBit i) 64 0 0 = zct (fun f => sHasD T p o f 12) 64 0 0 := zct_congr fun j _ h2 => by
    rw [sSet_bits I hp 12 (by omega), decide_eq_true (by omega), Bool.true_and]
  rw [e]
  have := zct_pad (p := fun f => sHasD T p o f 12) (d := sNf T) (e := 64 - sNf T) (i := 0) (c := 0) (fun j h1 h2 => by
    unfold sHasD
    rw [sHas_false, Bool.false_and]
    intro g hg1 hg2 q
    have := zIv_lt I (f := j) (r := 12 * p + g) (by omega) q (by omega)
    omega)
  rwa [show sNf T + (64 - sNf T) = 64 by omega] at this
theorem sHas_pgs {p f : Nat} (I : zIv T) (hp : p < 6) (hf : f < 64) : sHas T p f 12 0 = sHas T p f (sPgs T p) 0 := by
  obtain ⟨g1, g2⟩ := zIv_pg I hp
  have := sHas_split T p f (sPgs T p) (12 - sPgs T p)
  rw [show sPgs T p + (12 - sPgs T p) = 12 by omega] at this
  rw [this, sHas_false (d := 12 - sPgs T p), Bool.or_false]
  intro g h1 h2
  rw [(I.2.2.2.1.2 p g hp (by omega) (Or.inr h1)).1]
  exact fun q => (zn_ne_zi (by omega)).mp q
end
section
variable {X : ZX} {D T : ZD2} {s : Nat → Int32} {O : ZO2} {k : Nat × Nat × Nat}
theorem m225 {p : Nat} {o : Bool} (I : zIv T) (S : zRs D T) (R : zRd s T) (hp : p < sNp T) : zev X 225 0 [.ref 168, .int (zi p), .int (zb o), zJ, zJ, zJ, zJ] [] (zHP (zrow D 172 s) O, k) = some (.inl (some (.int (zi (sMany T p o)))), (zHP (zrow D 172 s) O, k)) := by
  have n2 := zIv_np6 I
  have n3 := zIv_nf I
  have n4 := zIv_nf64 I
  have hp6 : p < 6 := by omega
  have h6 : ¬ 6 ≤ p := by omega
  obtain ⟨g1, g2⟩ := zIv_pg I hp6
  have eP : D 170 p = zi (sPgs T p) := (S.2.1 p hp).trans g1
  have inner : ∀ f c, f < sNf T → ∀ d i h, i + d = sPgs T p → zev X 225 20 [.ref 168, .int (zi p), .int (zb o), .int (zi c), .int (zi f), .int (zb h), .int (zi i)] [] (zHP (zrow D 172 s) O, k) = zev X 225 20 [.ref 168, .int (zi p), .int (zb o), .int (zi c), .int (zi f), .int (zb (h || sHas T p f d i)), .int (zi (sPgs T p))] [] (zHP (zrow D 172 s) O, k) := by
    intro f c hf d
    induction d with
    | zero =>
      intro i h hi
      have : i = sPgs T p := by omega
      subst this
      simp [sHas, zfo]
    | succ d ih =>
      intro i h hi
      have hi2 : i < sPgs T p := by omega
      have e208 := @m208 X D s O k p i 0 hp6 (by omega) (by omega)
      rw [Nat.add_zero (46 + 5 * (12 * p + i)), (R.2.2.1 (12 * p + i) (by omega)).1] at e208
      have e : sHas T p f (d + 1) i = (decide (T 3 (5 * (12 * p + i)) = zi f) || sHas T p f d (i + 1)) := by
        unfold sHas
        rw [zfo, sHas_acc, Bool.false_or]
        rfl
      rw [e, ← Bool.or_assoc, ← ih (i + 1) (h || decide (T 3 (5 * (12 * p + i)) = zi f)) (by omega)]
      refine b225_20.trans ?_
      simp (disch := first | assumption | omega) only [↓zn_l, zl_0, zl_1, zl_2, zl_3, zl_4, zl_5, zl_6, zl_7, zl_8, zl_9, zl_10, zl_11, zl_12, zl_13, zl_14, zl_15, zl_16, zl_17, zl_18, zl_19, zl_20, zl_21, zl_22, zl_23, zl_24, zl_25, zl_26, zl_27, zl_28, zl_29, zl_30, zl_31, zl_32, zl_36, zl_46, zl_48, zl_50, zl_57, zl_63, zl_64, zl_72, zl_97, zl_99, zl_100, zl_101, zl_122, zl_127, zl_200, zl_255, zl_406, zl_534, zl_540, zl_600, zl_9999, zl_33, zl_34, zl_35, zl_37, zl_38, zl_39, zl_40, zl_41, zl_42, zl_43, zl_44, zl_45, zl_47, zl_49, zl_52, zl_53, zl_54, zl_55, zl_58, zl_59, zl_60, zl_61, zl_62, zl_65, zl_70, zl_71, zl_98, zl_102, zl_103, zl_104, zl_105, zl_110, zl_111, zl_115, zl_120, zl_123, zl_126, zl_128, zl_256, zl_1000, zl_1024, zcon_inl, zcon_inr, Option.toList_some, Option.toList_none, List.cons_append, List.nil_append, List.append_nil, Nat.add_zero, zbind_some, zi_toNat, zi_lt, zi_inj, zi_add, zi_mul, zi_ne_zn, zn_ne_zi, zn_lt_zi, zi_lt_zn, Nat.not_lt_zero, false_or, if_true, if_false, true_or, or_false, Nat.reduceEqDiff, eq_self, h6, e170s, eP, hi2, zb_0]
      cases h
      · simp only [if_true, e208, ↓zn_l, zl_0, zl_1, zl_2, zl_3, zl_4, zl_5, zl_6, zl_7, zl_8, zl_9, zl_10, zl_11, zl_12, zl_13, zl_14, zl_15, zl_16, zl_17, zl_18, zl_19, zl_20, zl_21, zl_22, zl_23, zl_24, zl_25, zl_26, zl_27, zl_28, zl_29, zl_30, zl_31, zl_32, zl_36, zl_46, zl_48, zl_50, zl_57, zl_63, zl_64, zl_72, zl_97, zl_99, zl_100, zl_101, zl_122, zl_127, zl_200, zl_255, zl_406, zl_534, zl_540, zl_600, zl_9999, zl_33, zl_34, zl_35, zl_37, zl_38, zl_39, zl_40, zl_41, zl_42, zl_43, zl_44, zl_45, zl_47, zl_49, zl_52, zl_53, zl_54, zl_55, zl_58, zl_59, zl_60, zl_61, zl_62, zl_65, zl_70, zl_71, zl_98, zl_102, zl_103, zl_104, zl_105, zl_110, zl_111, zl_115, zl_120, zl_123, zl_126, zl_128, zl_256, zl_1000, zl_1024, zcon_inl, zcon_inr, Option.toList_some, Option.toList_none, List.cons_append, List.nil_append, List.append_nil, Nat.add_zero, zbind_some]
        refine b225_44.trans ?_
        by_cases q : T 3 (5 * (12 * p + i)) = zi f <;> simp only [q, ↓zn_l, zl_0, zl_1, zl_2, zl_3, zl_4, zl_5, zl_6, zl_7, zl_8, zl_9, zl_10, zl_11, zl_12, zl_13, zl_14, zl_15, zl_16, zl_17, zl_18, zl_19, zl_20, zl_21, zl_22, zl_23, zl_24, zl_25, zl_26, zl_27, zl_28, zl_29, zl_30, zl_31, zl_32, zl_36, zl_46, zl_48, zl_50, zl_57, zl_63, zl_64, zl_72, zl_97, zl_99, zl_100, zl_101, zl_122, zl_127, zl_200, zl_255, zl_406, zl_534, zl_540, zl_600, zl_9999, zl_33, zl_34, zl_35, zl_37, zl_38, zl_39, zl_40, zl_41, zl_42, zl_43, zl_44, zl_45, zl_47, zl_49, zl_52, zl_53, zl_54, zl_55, zl_58, zl_59, zl_60, zl_61, zl_62, zl_65, zl_70, zl_71, zl_98, zl_102, zl_103, zl_104, zl_105, zl_110, zl_111, zl_115, zl_120, zl_123, zl_126, zl_128, zl_256, zl_1000, zl_1024, zi_add, if_true, if_false, decide_true, decide_false, Bool.or_true, Bool.or_false, zb_t, zb_f]
      · simp only [if_false, Bool.true_eq_false, Bool.true_or, zb_t, ↓zn_l, zl_0, zl_1, zl_2, zl_3, zl_4, zl_5, zl_6, zl_7, zl_8, zl_9, zl_10, zl_11, zl_12, zl_13, zl_14, zl_15, zl_16, zl_17, zl_18, zl_19, zl_20, zl_21, zl_22, zl_23, zl_24, zl_25, zl_26, zl_27, zl_28, zl_29, zl_30, zl_31, zl_32, zl_36, zl_46, zl_48, zl_50, zl_57, zl_63, zl_64, zl_72, zl_97, zl_99, zl_100, zl_101, zl_122, zl_127, zl_200, zl_255, zl_406, zl_534, zl_540, zl_600, zl_9999, zl_33, zl_34, zl_35, zl_37, zl_38, zl_39, zl_40, zl_41, zl_42, zl_43, zl_44, zl_45, zl_47, zl_49, zl_52, zl_53, zl_54, zl_55, zl_58, zl_59, zl_60, zl_61, zl_62, zl_65, zl_70, zl_71, zl_98, zl_102, zl_103, zl_104, zl_105, zl_110, zl_111, zl_115, zl_120, zl_123, zl_126, zl_128, zl_256, zl_1000, zl_1024, zi_add]
  have fin : ∀ f c (b : Bool) (h : Bool), zev X 225 89 [.ref 168, .int (zi p), .int (zb o), .int (zi c), .int (zi f), .int (zb h), .int (zi (sPgs T p))] [.int (zb b), .int (zi c)] (zHP (zrow D 172 s) O, k) = zev X 225 5 [.ref 168, .int (zi p), .int (zb o), .int (zi (if b then c + 1 else c)), .int (zi (f + 1)), .int (zb h), .int (zi (sPgs T p))] [] (zHP (zrow D 172 s) O, k) := by
    intro f c b h
    refine b225_89.trans ?_
    cases b
    · simp (disch := first | assumption | omega) only [zb_f, ↓zn_l, zl_0, zl_1, zl_2, zl_3, zl_4, zl_5, zl_6, zl_7, zl_8, zl_9, zl_10, zl_11, zl_12, zl_13, zl_14, zl_15, zl_16, zl_17, zl_18, zl_19, zl_20, zl_21, zl_22, zl_23, zl_24, zl_25, zl_26, zl_27, zl_28, zl_29, zl_30, zl_31, zl_32, zl_36, zl_46, zl_48, zl_50, zl_57, zl_63, zl_64, zl_72, zl_97, zl_99, zl_100, zl_101, zl_122, zl_127, zl_200, zl_255, zl_406, zl_534, zl_540, zl_600, zl_9999, zl_33, zl_34, zl_35, zl_37, zl_38, zl_39, zl_40, zl_41, zl_42, zl_43, zl_44, zl_45, zl_47, zl_49, zl_52, zl_53, zl_54, zl_55, zl_58, zl_59, zl_60, zl_61, zl_62, zl_65, zl_70, zl_71, zl_98, zl_102, zl_103, zl_104, zl_105, zl_110, zl_111, zl_115, zl_120, zl_123, zl_126, zl_128, zl_256, zl_1000, zl_1024, zaddz, zi_add, Bool.false_eq_true, if_false]
    · simp (disch := first | assumption | omega) only [zb_t, ↓zn_l, zl_0, zl_1, zl_2, zl_3, zl_4, zl_5, zl_6, zl_7, zl_8, zl_9, zl_10, zl_11, zl_12, zl_13, zl_14, zl_15, zl_16, zl_17, zl_18, zl_19, zl_20, zl_21, zl_22, zl_23, zl_24, zl_25, zl_26, zl_27, zl_28, zl_29, zl_30, zl_31, zl_32, zl_36, zl_46, zl_48, zl_50, zl_57, zl_63, zl_64, zl_72, zl_97, zl_99, zl_100, zl_101, zl_122, zl_127, zl_200, zl_255, zl_406, zl_534, zl_540, zl_600, zl_9999, zl_33, zl_34, zl_35, zl_37, zl_38, zl_39, zl_40, zl_41, zl_42, zl_43, zl_44, zl_45, zl_47, zl_49, zl_52, zl_53, zl_54, zl_55, zl_58, zl_59, zl_60, zl_61, zl_62, zl_65, zl_70, zl_71, zl_98, zl_102, zl_103, zl_104, zl_105, zl_110, zl_111, zl_115, zl_120, zl_123, zl_126, zl_128, zl_256, zl_1000, zl_1024, zi_add, if_true]
  rw [b225_0]
  simp only [↓zn_l, zl_0, zl_1, zl_2, zl_3, zl_4, zl_5, zl_6, zl_7, zl_8, zl_9, zl_10, zl_11, zl_12, zl_13, zl_14, zl_15, zl_16, zl_17, zl_18, zl_19, zl_20, zl_21, zl_22, zl_23, zl_24, zl_25, zl_26, zl_27, zl_28, zl_29, zl_30, zl_31, zl_32, zl_36, zl_46, zl_48, zl_50, zl_57, zl_63, zl_64, zl_72, zl_97, zl_99, zl_100, zl_101, zl_122, zl_127, zl_200, zl_255, zl_406, zl_534, zl_540, zl_600, zl_9999, zl_33, zl_34, zl_35, zl_37, zl_38, zl_39, zl_40, zl_41, zl_42, zl_43, zl_44, zl_45, zl_47, zl_49, zl_52, zl_53, zl_54, zl_55, zl_58, zl_59, zl_60, zl_61, zl_62, zl_65, zl_70, zl_71, zl_98, zl_102, zl_103, zl_104, zl_105, zl_110, zl_111, zl_115, zl_120, zl_123, zl_126, zl_128, zl_256, zl_1000, zl_1024]
  refine (zloopG (β := Value × Value) (ok := fun v => v.1.category = 1 ∧ v.2.category = 1) (P := fun i a v => zev X 225 5 [.ref 168, .int (zi p), .int (zb o), .int (zi a), .int (zi i), v.1, v.2] [] (zHP (zrow D 172 s) O, k)) (Q := fun a => some (.inl (some (.int (zi a))), (zHP (zrow D 172 s) O, k))) (f := fun f c => if sHasD T p o f 12 then c + 1 else c) (n := sNf T) (J := fun _ _ => True) ?_ ?_ (sNf T) 0 0 (zJ, zJ) (by omega) trivial ⟨rfl, rfl⟩).1
  · intro i a v hi _ hv
    have hi64 : i < 64 := by omega
    refine ⟨(.int (zb (sHas T p i 12 0)), .int (zi (sPgs T p))), ⟨rfl, rfl⟩, ?_, trivial⟩
    refine b225_5.trans ?_
    simp (disch := first | assumption | omega) only [e168s, S.1.2.1, n3, ↓zn_l, zl_0, zl_1, zl_2, zl_3, zl_4, zl_5, zl_6, zl_7, zl_8, zl_9, zl_10, zl_11, zl_12, zl_13, zl_14, zl_15, zl_16, zl_17, zl_18, zl_19, zl_20, zl_21, zl_22, zl_23, zl_24, zl_25, zl_26, zl_27, zl_28, zl_29, zl_30, zl_31, zl_32, zl_36, zl_46, zl_48, zl_50, zl_57, zl_63, zl_64, zl_72, zl_97, zl_99, zl_100, zl_101, zl_122, zl_127, zl_200, zl_255, zl_406, zl_534, zl_540, zl_600, zl_9999, zl_33, zl_34, zl_35, zl_37, zl_38, zl_39, zl_40, zl_41, zl_42, zl_43, zl_44, zl_45, zl_47, zl_49, zl_52, zl_53, zl_54, zl_55, zl_58, zl_59, zl_60, zl_61, zl_62, zl_65, zl_70, zl_71, zl_98, zl_102, zl_103, zl_104, zl_105, zl_110, zl_111, zl_115, zl_120, zl_123, zl_126, zl_128, zl_256, zl_1000, zl_1024, zcon_inl, zcon_inr, Option.toList_some, Option.toList_none, List.cons_append, List.nil_append, List.append_nil, Nat.add_zero, zbind_some, zi_toNat, zi_lt, zi_inj, zi_add, zi_mul, zi_ne_zn, zn_ne_zi, zn_lt_zi, zi_lt_zn, Nat.not_lt_zero, false_or, if_true, if_false, true_or, or_false, Nat.reduceEqDiff, eq_self, hi]
    have e := inner i a hi (sPgs T p) 0 false (by omega)
    rw [zb_f, Bool.false_or, ← sHas_pgs I hp6 hi64] at e
    rw [e]
    refine b225_20.trans ?_
    simp (disch := first | assumption | omega) only [↓zn_l, zl_0, zl_1, zl_2, zl_3, zl_4, zl_5, zl_6, zl_7, zl_8, zl_9, zl_10, zl_11, zl_12, zl_13, zl_14, zl_15, zl_16, zl_17, zl_18, zl_19, zl_20, zl_21, zl_22, zl_23, zl_24, zl_25, zl_26, zl_27, zl_28, zl_29, zl_30, zl_31, zl_32, zl_36, zl_46, zl_48, zl_50, zl_57, zl_63, zl_64, zl_72, zl_97, zl_99, zl_100, zl_101, zl_122, zl_127, zl_200, zl_255, zl_406, zl_534, zl_540, zl_600, zl_9999, zl_33, zl_34, zl_35, zl_37, zl_38, zl_39, zl_40, zl_41, zl_42, zl_43, zl_44, zl_45, zl_47, zl_49, zl_52, zl_53, zl_54, zl_55, zl_58, zl_59, zl_60, zl_61, zl_62, zl_65, zl_70, zl_71, zl_98, zl_102, zl_103, zl_104, zl_105, zl_110, zl_111, zl_115, zl_120, zl_123, zl_126, zl_128, zl_256, zl_1000, zl_1024, zcon_inl, zcon_inr, Option.toList_some, Option.toList_none, List.cons_append, List.nil_append, List.append_nil, Nat.add_zero, zbind_some, zi_toNat, zi_lt, zi_inj, zi_add, zi_mul, zi_ne_zn, zn_ne_zi, zn_lt_zi, zi_lt_zn, Nat.not_lt_zero, false_or, if_true, if_false, true_or, or_false, Nat.reduceEqDiff, eq_self, h6, e170s, eP, Nat.lt_irrefl, zb_0]
    unfold sHasD
    cases hh : sHas T p i 12 0
    · simp only [if_true, m204_0, ↓zn_l, zl_0, zl_1, zl_2, zl_3, zl_4, zl_5, zl_6, zl_7, zl_8, zl_9, zl_10, zl_11, zl_12, zl_13, zl_14, zl_15, zl_16, zl_17, zl_18, zl_19, zl_20, zl_21, zl_22, zl_23, zl_24, zl_25, zl_26, zl_27, zl_28, zl_29, zl_30, zl_31, zl_32, zl_36, zl_46, zl_48, zl_50, zl_57, zl_63, zl_64, zl_72, zl_97, zl_99, zl_100, zl_101, zl_122, zl_127, zl_200, zl_255, zl_406, zl_534, zl_540, zl_600, zl_9999, zl_33, zl_34, zl_35, zl_37, zl_38, zl_39, zl_40, zl_41, zl_42, zl_43, zl_44, zl_45, zl_47, zl_49, zl_52, zl_53, zl_54, zl_55, zl_58, zl_59, zl_60, zl_61, zl_62, zl_65, zl_70, zl_71, zl_98, zl_102, zl_103, zl_104, zl_105, zl_110, zl_111, zl_115, zl_120, zl_123, zl_126, zl_128, zl_256, zl_1000, zl_1024, zcon_inl, zcon_inr, Option.toList_some, Option.toList_none, List.cons_append, List.nil_append, List.append_nil, Nat.add_zero, zbind_some, Bool.false_and]
      exact fin i a false false
    · simp only [if_false, Bool.true_eq_false, Bool.true_and]
      cases o
      · simp only [if_true, m204_1, ↓zn_l, zl_0, zl_1, zl_2, zl_3, zl_4, zl_5, zl_6, zl_7, zl_8, zl_9, zl_10, zl_11, zl_12, zl_13, zl_14, zl_15, zl_16, zl_17, zl_18, zl_19, zl_20, zl_21, zl_22, zl_23, zl_24, zl_25, zl_26, zl_27, zl_28, zl_29, zl_30, zl_31, zl_32, zl_36, zl_46, zl_48, zl_50, zl_57, zl_63, zl_64, zl_72, zl_97, zl_99, zl_100, zl_101, zl_122, zl_127, zl_200, zl_255, zl_406, zl_534, zl_540, zl_600, zl_9999, zl_33, zl_34, zl_35, zl_37, zl_38, zl_39, zl_40, zl_41, zl_42, zl_43, zl_44, zl_45, zl_47, zl_49, zl_52, zl_53, zl_54, zl_55, zl_58, zl_59, zl_60, zl_61, zl_62, zl_65, zl_70, zl_71, zl_98, zl_102, zl_103, zl_104, zl_105, zl_110, zl_111, zl_115, zl_120, zl_123, zl_126, zl_128, zl_256, zl_1000, zl_1024, zcon_inl, zcon_inr, Option.toList_some, Option.toList_none, List.cons_append, List.nil_append, List.append_nil, Nat.add_zero, zbind_some, Bool.not_false, Bool.true_or]
        exact fin i a true true
      · have e219 := m219 (X := X) (D := D) (O := O) (k := k) I R hi
        simp only [if_false, Bool.true_eq_false, e219, ↓zn_l, zl_0, zl_1, zl_2, zl_3, zl_4, zl_5, zl_6, zl_7, zl_8, zl_9, zl_10, zl_11, zl_12, zl_13, zl_14, zl_15, zl_16, zl_17, zl_18, zl_19, zl_20, zl_21, zl_22, zl_23, zl_24, zl_25, zl_26, zl_27, zl_28, zl_29, zl_30, zl_31, zl_32, zl_36, zl_46, zl_48, zl_50, zl_57, zl_63, zl_64, zl_72, zl_97, zl_99, zl_100, zl_101, zl_122, zl_127, zl_200, zl_255, zl_406, zl_534, zl_540, zl_600, zl_9999, zl_33, zl_34, zl_35, zl_37, zl_38, zl_39, zl_40, zl_41, zl_42, zl_43, zl_44, zl_45, zl_47, zl_49, zl_52, zl_53, zl_54, zl_55, zl_58, zl_59, zl_60, zl_61, zl_62, zl_65, zl_70, zl_71, zl_98, zl_102, zl_103, zl_104, zl_105, zl_110, zl_111, zl_115, zl_120, zl_123, zl_126, zl_128, zl_256, zl_1000, zl_1024, zcon_inl, zcon_inr, Option.toList_some, Option.toList_none, List.cons_append, List.nil_append, List.append_nil, Nat.add_zero, zbind_some, Bool.not_true, Bool.false_or]
        refine b225_78.trans ?_
        simp only [↓zn_l, zl_0, zl_1, zl_2, zl_3, zl_4, zl_5, zl_6, zl_7, zl_8, zl_9, zl_10, zl_11, zl_12, zl_13, zl_14, zl_15, zl_16, zl_17, zl_18, zl_19, zl_20, zl_21, zl_22, zl_23, zl_24, zl_25, zl_26, zl_27, zl_28, zl_29, zl_30, zl_31, zl_32, zl_36, zl_46, zl_48, zl_50, zl_57, zl_63, zl_64, zl_72, zl_97, zl_99, zl_100, zl_101, zl_122, zl_127, zl_200, zl_255, zl_406, zl_534, zl_540, zl_600, zl_9999, zl_33, zl_34, zl_35, zl_37, zl_38, zl_39, zl_40, zl_41, zl_42, zl_43, zl_44, zl_45, zl_47, zl_49, zl_52, zl_53, zl_54, zl_55, zl_58, zl_59, zl_60, zl_61, zl_62, zl_65, zl_70, zl_71, zl_98, zl_102, zl_103, zl_104, zl_105, zl_110, zl_111, zl_115, zl_120, zl_123, zl_126, zl_128, zl_256, zl_1000, zl_1024, zb_0]
        cases sDirty T i
        · simp only [if_true, m204_0, ↓zn_l, zl_0, zl_1, zl_2, zl_3, zl_4, zl_5, zl_6, zl_7, zl_8, zl_9, zl_10, zl_11, zl_12, zl_13, zl_14, zl_15, zl_16, zl_17, zl_18, zl_19, zl_20, zl_21, zl_22, zl_23, zl_24, zl_25, zl_26, zl_27, zl_28, zl_29, zl_30, zl_31, zl_32, zl_36, zl_46, zl_48, zl_50, zl_57, zl_63, zl_64, zl_72, zl_97, zl_99, zl_100, zl_101, zl_122, zl_127, zl_200, zl_255, zl_406, zl_534, zl_540, zl_600, zl_9999, zl_33, zl_34, zl_35, zl_37, zl_38, zl_39, zl_40, zl_41, zl_42, zl_43, zl_44, zl_45, zl_47, zl_49, zl_52, zl_53, zl_54, zl_55, zl_58, zl_59, zl_60, zl_61, zl_62, zl_65, zl_70, zl_71, zl_98, zl_102, zl_103, zl_104, zl_105, zl_110, zl_111, zl_115, zl_120, zl_123, zl_126, zl_128, zl_256, zl_1000, zl_1024, zcon_inl, zcon_inr, Option.toList_some, Option.toList_none, List.cons_append, List.nil_append, List.append_nil, Nat.add_zero, zbind_some]
          exact fin i a false true
        · simp only [if_false, Bool.true_eq_false, m204_1, ↓zn_l, zl_0, zl_1, zl_2, zl_3, zl_4, zl_5, zl_6, zl_7, zl_8, zl_9, zl_10, zl_11, zl_12, zl_13, zl_14, zl_15, zl_16, zl_17, zl_18, zl_19, zl_20, zl_21, zl_22, zl_23, zl_24, zl_25, zl_26, zl_27, zl_28, zl_29, zl_30, zl_31, zl_32, zl_36, zl_46, zl_48, zl_50, zl_57, zl_63, zl_64, zl_72, zl_97, zl_99, zl_100, zl_101, zl_122, zl_127, zl_200, zl_255, zl_406, zl_534, zl_540, zl_600, zl_9999, zl_33, zl_34, zl_35, zl_37, zl_38, zl_39, zl_40, zl_41, zl_42, zl_43, zl_44, zl_45, zl_47, zl_49, zl_52, zl_53, zl_54, zl_55, zl_58, zl_59, zl_60, zl_61, zl_62, zl_65, zl_70, zl_71, zl_98, zl_102, zl_103, zl_104, zl_105, zl_110, zl_111, zl_115, zl_120, zl_123, zl_126, zl_128, zl_256, zl_1000, zl_1024, zcon_inl, zcon_inr, Option.toList_some, Option.toList_none, List.cons_append, List.nil_append, List.append_nil, Nat.add_zero, zbind_some]
          exact fin i a true true
  · intro a v _ _
    refine b225_5.trans ?_
    simp (disch := first | assumption | omega) only [e168s, S.1.2.1, n3, ↓zn_l, zl_0, zl_1, zl_2, zl_3, zl_4, zl_5, zl_6, zl_7, zl_8, zl_9, zl_10, zl_11, zl_12, zl_13, zl_14, zl_15, zl_16, zl_17, zl_18, zl_19, zl_20, zl_21, zl_22, zl_23, zl_24, zl_25, zl_26, zl_27, zl_28, zl_29, zl_30, zl_31, zl_32, zl_36, zl_46, zl_48, zl_50, zl_57, zl_63, zl_64, zl_72, zl_97, zl_99, zl_100, zl_101, zl_122, zl_127, zl_200, zl_255, zl_406, zl_534, zl_540, zl_600, zl_9999, zl_33, zl_34, zl_35, zl_37, zl_38, zl_39, zl_40, zl_41, zl_42, zl_43, zl_44, zl_45, zl_47, zl_49, zl_52, zl_53, zl_54, zl_55, zl_58, zl_59, zl_60, zl_61, zl_62, zl_65, zl_70, zl_71, zl_98, zl_102, zl_103, zl_104, zl_105, zl_110, zl_111, zl_115, zl_120, zl_123, zl_126, zl_128, zl_256, zl_1000, zl_1024, zcon_inl, zcon_inr, Option.toList_some, Option.toList_none, List.cons_append, List.nil_append, List.append_nil, Nat.add_zero, zbind_some, zi_toNat, zi_lt, zi_inj, zi_add, zi_mul, zi_ne_zn, zn_ne_zi, zn_lt_zi, zi_lt_zn, Nat.not_lt_zero, false_or, if_true, if_false, true_or, or_false, Nat.reduceEqDiff, eq_self, Nat.lt_irrefl]
end
