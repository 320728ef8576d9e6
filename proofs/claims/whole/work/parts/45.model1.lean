/-! The model's cells against a machine's tables; its small methods. -/
theorem zfo_add {α : Type} (f : Nat → α → α) : ∀ d e i a, zfo f (d + e) i a = zfo f e (i + d) (zfo f d i a)
  | 0, e, i, a => by rw [Nat.zero_add]; rfl
  | d + 1, e, i, a => by
    rw [show d + 1 + e = (d + e) + 1 by omega, zfo, zfo, zfo_add f d e (i + 1), show i + 1 + d = i + (d + 1) by omega]
theorem zfo_id {α : Type} {f : Nat → α → α} : ∀ d i a, (∀ j b, i ≤ j → j < i + d → f j b = b) → zfo f d i a = a
  | 0, _, _, _ => rfl
  | d + 1, i, a, h => by rw [zfo, h i a (Nat.le_refl _) (by omega), zfo_id d (i + 1) a fun j b h1 h2 => h j b (by omega) (by omega)]
theorem zfo_pad {α : Type} {f : Nat → α → α} {d e i : Nat} {a : α} (h : ∀ j b, i + d ≤ j → j < i + d + e → f j b = b) : zfo f (d + e) i a = zfo f d i a := by
  rw [zfo_add]
  exact zfo_id e (i + d) _ h
theorem zfo_shift {α : Type} {f g : Nat → α → α} {s : Nat} (h : ∀ j a, f j a = g (s + j) a) : ∀ d i a, zfo f d i a = zfo g d (s + i) a
  | 0, _, _ => rfl
  | d + 1, i, a => by rw [zfo, zfo, h, zfo_shift h d (i + 1), show s + (i + 1) = s + i + 1 by omega]
theorem zct_pad {p : Nat → Bool} {d e i c : Nat} (h : ∀ j, i + d ≤ j → j < i + d + e → p j = false) : zct p (d + e) i c = zct p d i c := zfo_pad fun j b h1 h2 => by rw [h j h1 h2]; rfl
theorem zct_shift {p q : Nat → Bool} {s : Nat} (h : ∀ j, p j = q (s + j)) (d i c : Nat) : zct p d i c = zct q d (s + i) c := zfo_shift (fun j a => by rw [h j]) d i c
theorem zct_congr {p q : Nat → Bool} {d i c : Nat} (h : ∀ j, i ≤ j → j < i + d → p j = q j) : zct p d i c = zct q d i c := zfo_congr d i c fun j a h1 h2 => by rw [h j h1 h2]
theorem znest {q : Nat → Bool} {pg : Nat → Nat} {np : Nat} (hn : np ≤ 6) (hp : ∀ p, p < 6 → pg p ≤ 12) (h : ∀ p g, p < 6 → g < 12 → (np ≤ p ∨ pg p ≤ g) → q (12 * p + g) = false) : zfo (fun p c => zct (fun g => q (12 * p + g)) (pg p) 0 c) np 0 0 = zct q 72 0 0 := by
  have e1 : ∀ p c, p < 6 → zct (fun g => q (12 * p + g)) (pg p) 0 c = zct q 12 (12 * p) c := by
    intro p c h6
    have hp12 := hp p h6
    have e := zct_pad (p := fun g => q (12 * p + g)) (d := pg p) (e := 12 - pg p) (i := 0) (c := c) (fun j h1 h2 => h p j h6 (by omega) (Or.inr (by omega)))
    rw [show pg p + (12 - pg p) = 12 by omega] at e
    rw [← e, zct_shift (q := q) (s := 12 * p) (fun j => rfl) 12 0 c]
    rfl
  have e2 : zfo (fun p c => zct (fun g => q (12 * p + g)) (pg p) 0 c) np 0 0 = zfo (fun p c => zct q 12 (12 * p) c) np 0 0 := zfo_congr np 0 0 fun p c _ h2 => e1 p c (by omega)
  have e3 : zfo (fun p c => zct q 12 (12 * p) c) 6 0 0 = zfo (fun p c => zct q 12 (12 * p) c) np 0 0 := by
    have := zfo_pad (f := fun p c => zct q 12 (12 * p) c) (d := np) (e := 6 - np) (i := 0) (a := 0) (fun p c h1 h2 => by
      rw [← e1 p c (by omega)]
      exact zfo_id _ _ _ fun j b h3 h4 => by
        have hpp := hp p (by omega)
        show (if q (12 * p + j) = true then b + 1 else b) = b
        rw [h p j (by omega) (by omega) (Or.inl (by omega))]
        rfl)
    rwa [show np + (6 - np) = 6 by omega] at this
  rw [e2, ← e3]
  have e4 : ∀ a b i c, zct q (a + b) i c = zct q b (i + a) (zct q a i c) := fun a b i c => zfo_add _ a b i c
  show zct q 12 60 (zct q 12 48 (zct q 12 36 (zct q 12 24 (zct q 12 12 (zct q 12 0 0))))) = _
  rw [show (72 : Nat) = 12 + (12 + (12 + (12 + (12 + 12)))) from rfl, e4, e4, e4, e4, e4]
/-- what the model holds still of a machine -/
def zRs (D T : ZD2) : Prop := (D 168 7 = T 1 0 ∧ D 168 2 = T 0 0 ∧ D 168 3 = T 0 1 ∧ D 168 4 = T 0 2 ∧ D 168 5 = T 0 3 ∧ D 168 6 = T 0 4) ∧ (∀ p, p < sNp T → D 170 p = T 2 (12 * p + 1)) ∧ ∀ p, p < sNp T → D 171 p = T 2 (12 * p + 2)
def zRt (s : Nat → Int32) (T : ZD2) : Prop := (s 0 = T 1 5 ∧ s 1 = T 1 6 ∧ s 2 = T 1 7 ∧ s 3 = T 1 8 ∧ s 4 = T 1 9) ∧ s 5 = T 1 10 ∧ s 6 = T 1 11 ∧ s 7 = T 1 12 ∧ s 8 = T 1 13 ∧ s 9 = T 1 14
def zRp (s : Nat → Int32) (T : ZD2) : Prop := ∀ p, p < sNp T → s (10 + 6 * p) = T 2 (12 * p) ∧ s (10 + 6 * p + 1) = T 2 (12 * p + 3) ∧ s (10 + 6 * p + 2) = T 2 (12 * p + 4) ∧ s (10 + 6 * p + 3) = T 2 (12 * p + 8) ∧ s (10 + 6 * p + 4) = T 2 (12 * p + 9) ∧ s (10 + 6 * p + 5) = T 2 (12 * p + 10)
def zRg2 (s : Nat → Int32) (T : ZD2) : Prop := ∀ r, r < 72 → s (46 + 5 * r) = T 3 (5 * r) ∧ s (46 + 5 * r + 1) = T 3 (5 * r + 1) ∧ s (46 + 5 * r + 2) = T 3 (5 * r + 2) ∧ s (46 + 5 * r + 3) = T 3 (5 * r + 3) ∧ (T 3 (5 * r + 3) ≠ zn → s (46 + 5 * r + 4) = T 3 (5 * r + 4))
def zRf (s : Nat → Int32) (T : ZD2) : Prop := ∀ f, f < sNf T → s (406 + 2 * f + 1) = T 4 (3 * f + 1) ∧ (T 4 (3 * f) = zi 0 → (T 4 (3 * f + 2) = zn ∧ ¬ T 1 5 < s (406 + 2 * f)) ∨ (T 4 (3 * f + 2) = s (406 + 2 * f) ∧ T 1 5 < s (406 + 2 * f)))
def zRq (s : Nat → Int32) (T : ZD2) : Prop := ∀ q, q < 6 → s (534 + q) = T 5 q
def zRd (s : Nat → Int32) (T : ZD2) : Prop := zRt s T ∧ zRp s T ∧ zRg2 s T ∧ zRf s T ∧ zRq s T
def zu (s : Nat → Int32) (j : Nat) (v : Int32) : Nat → Int32 := fun i => if i = j then v else s i
theorem zu_self (s : Nat → Int32) (j : Nat) (v : Int32) : zu s j v j = v := if_pos rfl
theorem zu_ne {s : Nat → Int32} {i j : Nat} {v : Int32} (h : i ≠ j) : zu s j v i = s i := if_neg h
theorem zw_s (D : ZD2) (s : Nat → Int32) (j : Nat) (v : Int32) : zw (zrow D 172 s) 172 j v = zrow D 172 (zu s j v) := by
  rw [zw_zrow, zrow_zrow, zrow_self]
  rfl
theorem zw_so {D : ZD2} {s : Nat → Int32} {a j : Nat} {v : Int32} (h : a ≠ 172) : zw (zrow D 172 s) a j v = zrow (zw D a j v) 172 s := by
  funext b i
  unfold zw zrow
  by_cases h1 : b = 172
  · subst h1
    rw [if_neg (fun q => h q.1.symm), if_pos rfl, if_pos rfl]
  · rw [if_neg h1, if_neg h1]
section
variable {X : ZX} {D T : ZD2} {s : Nat → Int32} {O : ZO2} {k : Nat × Nat × Nat}
theorem m195 {p g : Nat} : zev X 195 0 [.int (zi p), .int (zi g)] [] (zHP D O, k) = some (.inl (some (.int (zi (46 + 5 * (12 * p + g))))), (zHP D O, k)) := by
  simp (disch := first | assumption | omega) only [b195_0, ↓zn_l, zl_0, zl_1, zl_2, zl_3, zl_4, zl_5, zl_6, zl_7, zl_8, zl_9, zl_10, zl_11, zl_12, zl_13, zl_14, zl_15, zl_16, zl_17, zl_18, zl_19, zl_20, zl_21, zl_22, zl_23, zl_24, zl_25, zl_26, zl_27, zl_28, zl_29, zl_30, zl_31, zl_32, zl_36, zl_46, zl_48, zl_50, zl_57, zl_63, zl_64, zl_72, zl_97, zl_99, zl_100, zl_101, zl_122, zl_127, zl_200, zl_255, zl_406, zl_534, zl_540, zl_600, zl_9999, zl_33, zl_34, zl_35, zl_37, zl_38, zl_39, zl_40, zl_41, zl_42, zl_43, zl_44, zl_45, zl_47, zl_49, zl_52, zl_53, zl_54, zl_55, zl_58, zl_59, zl_60, zl_61, zl_62, zl_65, zl_70, zl_71, zl_98, zl_102, zl_103, zl_104, zl_105, zl_110, zl_111, zl_115, zl_120, zl_123, zl_126, zl_128, zl_256, zl_1000, zl_1024, zcon_inl, zcon_inr, Option.toList_some, Option.toList_none, List.cons_append, List.nil_append, List.append_nil, Nat.add_zero, zbind_some, zi_toNat, zi_lt, zi_inj, zi_add, zi_mul, zi_ne_zn, zn_ne_zi, zn_lt_zi, zi_lt_zn, Nat.not_lt_zero, false_or, if_true, if_false, true_or, or_false]
theorem m204 (b : Bool) : zev X 204 0 [.int (zb b)] [] (zHP D O, k) = some (.inl (some (.int (zb b))), (zHP D O, k)) := by
  rw [b204_0, zl_0, zl_1]
  cases b
  · rw [if_pos (by rfl)]; rfl
  · rw [if_neg (by rw [zb_0]; simp)]; rfl
theorem m203 {p w : Nat} (hp : p < 6) (hw : w < 6) : zev X 203 0 [.ref 168, .int (zi p), .int (zi w)] [] (zHP (zrow D 172 s) O, k) = some (.inl (some (.int (s (10 + 6 * p + w)))), (zHP (zrow D 172 s) O, k)) := by
  have h : ¬ 540 ≤ 10 + 6 * p + w := by omega
  simp (disch := first | assumption | omega) only [b203_0, ↓zn_l, zl_0, zl_1, zl_2, zl_3, zl_4, zl_5, zl_6, zl_7, zl_8, zl_9, zl_10, zl_11, zl_12, zl_13, zl_14, zl_15, zl_16, zl_17, zl_18, zl_19, zl_20, zl_21, zl_22, zl_23, zl_24, zl_25, zl_26, zl_27, zl_28, zl_29, zl_30, zl_31, zl_32, zl_36, zl_46, zl_48, zl_50, zl_57, zl_63, zl_64, zl_72, zl_97, zl_99, zl_100, zl_101, zl_122, zl_127, zl_200, zl_255, zl_406, zl_534, zl_540, zl_600, zl_9999, zl_33, zl_34, zl_35, zl_37, zl_38, zl_39, zl_40, zl_41, zl_42, zl_43, zl_44, zl_45, zl_47, zl_49, zl_52, zl_53, zl_54, zl_55, zl_58, zl_59, zl_60, zl_61, zl_62, zl_65, zl_70, zl_71, zl_98, zl_102, zl_103, zl_104, zl_105, zl_110, zl_111, zl_115, zl_120, zl_123, zl_126, zl_128, zl_256, zl_1000, zl_1024, zcon_inl, zcon_inr, Option.toList_some, Option.toList_none, List.cons_append, List.nil_append, List.append_nil, Nat.add_zero, zbind_some, zi_toNat, zi_lt, zi_inj, zi_add, zi_mul, zi_ne_zn, zn_ne_zi, zn_lt_zi, zi_lt_zn, Nat.not_lt_zero, false_or, if_true, if_false, true_or, or_false, h, zrow_self]
theorem m208 {p g w : Nat} (hp : p < 6) (hg : g < 12) (hw : w < 5) : zev X 208 0 [.ref 168, .int (zi p), .int (zi g), .int (zi w)] [] (zHP (zrow D 172 s) O, k) = some (.inl (some (.int (s (46 + 5 * (12 * p + g) + w)))), (zHP (zrow D 172 s) O, k)) := by
  have h : ¬ 540 ≤ 46 + 5 * (12 * p + g) + w := by omega
  have e := @m195 X (zrow D 172 s) O k p g
  simp (disch := first | assumption | omega) only [b208_0, e, b208_9, ↓zn_l, zl_0, zl_1, zl_2, zl_3, zl_4, zl_5, zl_6, zl_7, zl_8, zl_9, zl_10, zl_11, zl_12, zl_13, zl_14, zl_15, zl_16, zl_17, zl_18, zl_19, zl_20, zl_21, zl_22, zl_23, zl_24, zl_25, zl_26, zl_27, zl_28, zl_29, zl_30, zl_31, zl_32, zl_36, zl_46, zl_48, zl_50, zl_57, zl_63, zl_64, zl_72, zl_97, zl_99, zl_100, zl_101, zl_122, zl_127, zl_200, zl_255, zl_406, zl_534, zl_540, zl_600, zl_9999, zl_33, zl_34, zl_35, zl_37, zl_38, zl_39, zl_40, zl_41, zl_42, zl_43, zl_44, zl_45, zl_47, zl_49, zl_52, zl_53, zl_54, zl_55, zl_58, zl_59, zl_60, zl_61, zl_62, zl_65, zl_70, zl_71, zl_98, zl_102, zl_103, zl_104, zl_105, zl_110, zl_111, zl_115, zl_120, zl_123, zl_126, zl_128, zl_256, zl_1000, zl_1024, zcon_inl, zcon_inr, Option.toList_some, Option.toList_none, List.cons_append, List.nil_append, List.append_nil, Nat.add_zero, zbind_some, zi_toNat, zi_lt, zi_inj, zi_add, zi_mul, zi_ne_zn, zn_ne_zi, zn_lt_zi, zi_lt_zn, Nat.not_lt_zero, false_or, if_true, if_false, true_or, or_false, h, zrow_self]
theorem m209 {f w : Nat} (hf : f < 64) (hw : w < 2) : zev X 209 0 [.ref 168, .int (zi f), .int (zi w)] [] (zHP (zrow D 172 s) O, k) = some (.inl (some (.int (s (406 + 2 * f + w)))), (zHP (zrow D 172 s) O, k)) := by
  have h : ¬ 540 ≤ 406 + 2 * f + w := by omega
  simp (disch := first | assumption | omega) only [b209_0, ↓zn_l, zl_0, zl_1, zl_2, zl_3, zl_4, zl_5, zl_6, zl_7, zl_8, zl_9, zl_10, zl_11, zl_12, zl_13, zl_14, zl_15, zl_16, zl_17, zl_18, zl_19, zl_20, zl_21, zl_22, zl_23, zl_24, zl_25, zl_26, zl_27, zl_28, zl_29, zl_30, zl_31, zl_32, zl_36, zl_46, zl_48, zl_50, zl_57, zl_63, zl_64, zl_72, zl_97, zl_99, zl_100, zl_101, zl_122, zl_127, zl_200, zl_255, zl_406, zl_534, zl_540, zl_600, zl_9999, zl_33, zl_34, zl_35, zl_37, zl_38, zl_39, zl_40, zl_41, zl_42, zl_43, zl_44, zl_45, zl_47, zl_49, zl_52, zl_53, zl_54, zl_55, zl_58, zl_59, zl_60, zl_61, zl_62, zl_65, zl_70, zl_71, zl_98, zl_102, zl_103, zl_104, zl_105, zl_110, zl_111, zl_115, zl_120, zl_123, zl_126, zl_128, zl_256, zl_1000, zl_1024, zcon_inl, zcon_inr, Option.toList_some, Option.toList_none, List.cons_append, List.nil_append, List.append_nil, Nat.add_zero, zbind_some, zi_toNat, zi_lt, zi_inj, zi_add, zi_mul, zi_ne_zn, zn_ne_zi, zn_lt_zi, zi_lt_zn, Nat.not_lt_zero, false_or, if_true, if_false, true_or, or_false, h, zrow_self]
theorem m254 {p g w : Nat} {v : Int32} (hp : p < 6) (hg : g < 12) (hw : w < 5) : zev X 254 0 [.ref 168, .int (zi p), .int (zi g), .int (zi w), .int v] [] (zHP (zrow D 172 s) O, k) = some (.inl none, (zHP (zrow D 172 (zu s (46 + 5 * (12 * p + g) + w) v)) O, k)) := by
  have h : ¬ 540 ≤ 46 + 5 * (12 * p + g) + w := by omega
  have e := @m195 X (zrow D 172 s) O k p g
  simp (disch := first | assumption | omega) only [b254_0, e, b254_9, ↓zn_l, zl_0, zl_1, zl_2, zl_3, zl_4, zl_5, zl_6, zl_7, zl_8, zl_9, zl_10, zl_11, zl_12, zl_13, zl_14, zl_15, zl_16, zl_17, zl_18, zl_19, zl_20, zl_21, zl_22, zl_23, zl_24, zl_25, zl_26, zl_27, zl_28, zl_29, zl_30, zl_31, zl_32, zl_36, zl_46, zl_48, zl_50, zl_57, zl_63, zl_64, zl_72, zl_97, zl_99, zl_100, zl_101, zl_122, zl_127, zl_200, zl_255, zl_406, zl_534, zl_540, zl_600, zl_9999, zl_33, zl_34, zl_35, zl_37, zl_38, zl_39, zl_40, zl_41, zl_42, zl_43, zl_44, zl_45, zl_47, zl_49, zl_52, zl_53, zl_54, zl_55, zl_58, zl_59, zl_60, zl_61, zl_62, zl_65, zl_70, zl_71, zl_98, zl_102, zl_103, zl_104, zl_105, zl_110, zl_111, zl_115, zl_120, zl_123, zl_126, zl_128, zl_256, zl_1000, zl_1024, zcon_inl, zcon_inr, Option.toList_some, Option.toList_none, List.cons_append, List.nil_append, List.append_nil, Nat.add_zero, zbind_some, zi_toNat, zi_lt, zi_inj, zi_add, zi_mul, zi_ne_zn, zn_ne_zi, zn_lt_zi, zi_lt_zn, Nat.not_lt_zero, false_or, if_true, if_false, true_or, or_false, h, zw_s]
theorem m255 {f w : Nat} {v : Int32} (hf : f < 64) (hw : w < 2) : zev X 255 0 [.ref 168, .int (zi f), .int (zi w), .int v] [] (zHP (zrow D 172 s) O, k) = some (.inl none, (zHP (zrow D 172 (zu s (406 + 2 * f + w) v)) O, k)) := by
  have h : ¬ 540 ≤ 406 + 2 * f + w := by omega
  simp (disch := first | assumption | omega) only [b255_0, ↓zn_l, zl_0, zl_1, zl_2, zl_3, zl_4, zl_5, zl_6, zl_7, zl_8, zl_9, zl_10, zl_11, zl_12, zl_13, zl_14, zl_15, zl_16, zl_17, zl_18, zl_19, zl_20, zl_21, zl_22, zl_23, zl_24, zl_25, zl_26, zl_27, zl_28, zl_29, zl_30, zl_31, zl_32, zl_36, zl_46, zl_48, zl_50, zl_57, zl_63, zl_64, zl_72, zl_97, zl_99, zl_100, zl_101, zl_122, zl_127, zl_200, zl_255, zl_406, zl_534, zl_540, zl_600, zl_9999, zl_33, zl_34, zl_35, zl_37, zl_38, zl_39, zl_40, zl_41, zl_42, zl_43, zl_44, zl_45, zl_47, zl_49, zl_52, zl_53, zl_54, zl_55, zl_58, zl_59, zl_60, zl_61, zl_62, zl_65, zl_70, zl_71, zl_98, zl_102, zl_103, zl_104, zl_105, zl_110, zl_111, zl_115, zl_120, zl_123, zl_126, zl_128, zl_256, zl_1000, zl_1024, zcon_inl, zcon_inr, Option.toList_some, Option.toList_none, List.cons_append, List.nil_append, List.append_nil, Nat.add_zero, zbind_some, zi_toNat, zi_lt, zi_inj, zi_add, zi_mul, zi_ne_zn, zn_ne_zi, zn_lt_zi, zi_lt_zn, Nat.not_lt_zero, false_or, if_true, if_false, true_or, or_false, h, zw_s]
theorem m258 {p w : Nat} {v : Int32} (hp : p < 6) (hw : w < 6) : zev X 258 0 [.ref 168, .int (zi p), .int (zi w), .int v] [] (zHP (zrow D 172 s) O, k) = some (.inl none, (zHP (zrow D 172 (zu s (10 + 6 * p + w) (s (10 + 6 * p + w) + v))) O, k)) := by
  have h : ¬ 540 ≤ 10 + 6 * p + w := by omega
  simp (disch := first | assumption | omega) only [b258_0, ↓zn_l, zl_0, zl_1, zl_2, zl_3, zl_4, zl_5, zl_6, zl_7, zl_8, zl_9, zl_10, zl_11, zl_12, zl_13, zl_14, zl_15, zl_16, zl_17, zl_18, zl_19, zl_20, zl_21, zl_22, zl_23, zl_24, zl_25, zl_26, zl_27, zl_28, zl_29, zl_30, zl_31, zl_32, zl_36, zl_46, zl_48, zl_50, zl_57, zl_63, zl_64, zl_72, zl_97, zl_99, zl_100, zl_101, zl_122, zl_127, zl_200, zl_255, zl_406, zl_534, zl_540, zl_600, zl_9999, zl_33, zl_34, zl_35, zl_37, zl_38, zl_39, zl_40, zl_41, zl_42, zl_43, zl_44, zl_45, zl_47, zl_49, zl_52, zl_53, zl_54, zl_55, zl_58, zl_59, zl_60, zl_61, zl_62, zl_65, zl_70, zl_71, zl_98, zl_102, zl_103, zl_104, zl_105, zl_110, zl_111, zl_115, zl_120, zl_123, zl_126, zl_128, zl_256, zl_1000, zl_1024, zcon_inl, zcon_inr, Option.toList_some, Option.toList_none, List.cons_append, List.nil_append, List.append_nil, Nat.add_zero, zbind_some, zi_toNat, zi_lt, zi_inj, zi_add, zi_mul, zi_ne_zn, zn_ne_zi, zn_lt_zi, zi_lt_zn, Nat.not_lt_zero, false_or, if_true, if_false, true_or, or_false, h, zw_s, zrow_self]
theorem m260 {p w : Nat} {v : Int32} (hp : p < 6) (hw : w < 6) : zev X 260 0 [.ref 168, .int (zi p), .int (zi w), .int v] [] (zHP (zrow D 172 s) O, k) = some (.inl none, (zHP (zrow D 172 (zu s (10 + 6 * p + w) v)) O, k)) := by
  have h : ¬ 540 ≤ 10 + 6 * p + w := by omega
  simp (disch := first | assumption | omega) only [b260_0, ↓zn_l, zl_0, zl_1, zl_2, zl_3, zl_4, zl_5, zl_6, zl_7, zl_8, zl_9, zl_10, zl_11, zl_12, zl_13, zl_14, zl_15, zl_16, zl_17, zl_18, zl_19, zl_20, zl_21, zl_22, zl_23, zl_24, zl_25, zl_26, zl_27, zl_28, zl_29, zl_30, zl_31, zl_32, zl_36, zl_46, zl_48, zl_50, zl_57, zl_63, zl_64, zl_72, zl_97, zl_99, zl_100, zl_101, zl_122, zl_127, zl_200, zl_255, zl_406, zl_534, zl_540, zl_600, zl_9999, zl_33, zl_34, zl_35, zl_37, zl_38, zl_39, zl_40, zl_41, zl_42, zl_43, zl_44, zl_45, zl_47, zl_49, zl_52, zl_53, zl_54, zl_55, zl_58, zl_59, zl_60, zl_61, zl_62, zl_65, zl_70, zl_71, zl_98, zl_102, zl_103, zl_104, zl_105, zl_110, zl_111, zl_115, zl_120, zl_123, zl_126, zl_128, zl_256, zl_1000, zl_1024, zcon_inl, zcon_inr, Option.toList_some, Option.toList_none, List.cons_append, List.nil_append, List.append_nil, Nat.add_zero, zbind_some, zi_toNat, zi_lt, zi_inj, zi_add, zi_mul, zi_ne_zn, zn_ne_zi, zn_lt_zi, zi_lt_zn, Nat.not_lt_zero, false_or, if_true, if_false, true_or, or_false, h, zw_s]
theorem m252 : zev X 252 0 [.ref 168] [] (zHP (zrow D 172 s) O, k) = some (.inl (some (.int (zi 5))), (zHP (zrow D 172 (zu s 3 (s 3 + zi 1))) O, k)) := by
  have h : ¬ 540 ≤ 3 := by omega
  simp (disch := first | assumption | omega) only [b252_0, ↓zn_l, zl_0, zl_1, zl_2, zl_3, zl_4, zl_5, zl_6, zl_7, zl_8, zl_9, zl_10, zl_11, zl_12, zl_13, zl_14, zl_15, zl_16, zl_17, zl_18, zl_19, zl_20, zl_21, zl_22, zl_23, zl_24, zl_25, zl_26, zl_27, zl_28, zl_29, zl_30, zl_31, zl_32, zl_36, zl_46, zl_48, zl_50, zl_57, zl_63, zl_64, zl_72, zl_97, zl_99, zl_100, zl_101, zl_122, zl_127, zl_200, zl_255, zl_406, zl_534, zl_540, zl_600, zl_9999, zl_33, zl_34, zl_35, zl_37, zl_38, zl_39, zl_40, zl_41, zl_42, zl_43, zl_44, zl_45, zl_47, zl_49, zl_52, zl_53, zl_54, zl_55, zl_58, zl_59, zl_60, zl_61, zl_62, zl_65, zl_70, zl_71, zl_98, zl_102, zl_103, zl_104, zl_105, zl_110, zl_111, zl_115, zl_120, zl_123, zl_126, zl_128, zl_256, zl_1000, zl_1024, zcon_inl, zcon_inr, Option.toList_some, Option.toList_none, List.cons_append, List.nil_append, List.append_nil, Nat.add_zero, zbind_some, zi_toNat, zi_lt, zi_inj, zi_add, zi_mul, zi_ne_zn, zn_ne_zi, zn_lt_zi, zi_lt_zn, Nat.not_lt_zero, false_or, if_true, if_false, true_or, or_false, h, zw_s, zrow_self]
theorem m256 {p g : Nat} {v : Int32} (hp : p < 6) (hg : g < 12) : zev X 256 0 [.ref 168, .int (zi p), .int (zi g), .int v] [] (zHP (zrow D 172 s) O, k) = some (.inl none, (zHP (zrow D 172 (zu (zu s (46 + 5 * (12 * p + g)) v) (46 + 5 * (12 * p + g) + 1) (s 0))) O, k)) := by
  have h : ¬ 540 ≤ 0 := by omega
  simp (disch := first | assumption | omega) only [b256_0, b256_8, b256_21, m254, ↓zn_l, zl_0, zl_1, zl_2, zl_3, zl_4, zl_5, zl_6, zl_7, zl_8, zl_9, zl_10, zl_11, zl_12, zl_13, zl_14, zl_15, zl_16, zl_17, zl_18, zl_19, zl_20, zl_21, zl_22, zl_23, zl_24, zl_25, zl_26, zl_27, zl_28, zl_29, zl_30, zl_31, zl_32, zl_36, zl_46, zl_48, zl_50, zl_57, zl_63, zl_64, zl_72, zl_97, zl_99, zl_100, zl_101, zl_122, zl_127, zl_200, zl_255, zl_406, zl_534, zl_540, zl_600, zl_9999, zl_33, zl_34, zl_35, zl_37, zl_38, zl_39, zl_40, zl_41, zl_42, zl_43, zl_44, zl_45, zl_47, zl_49, zl_52, zl_53, zl_54, zl_55, zl_58, zl_59, zl_60, zl_61, zl_62, zl_65, zl_70, zl_71, zl_98, zl_102, zl_103, zl_104, zl_105, zl_110, zl_111, zl_115, zl_120, zl_123, zl_126, zl_128, zl_256, zl_1000, zl_1024, zcon_inl, zcon_inr, Option.toList_some, Option.toList_none, List.cons_append, List.nil_append, List.append_nil, Nat.add_zero, zbind_some, zi_toNat, zi_lt, zi_inj, zi_add, zi_mul, zi_ne_zn, zn_ne_zi, zn_lt_zi, zi_lt_zn, Nat.not_lt_zero, false_or, if_true, if_false, true_or, or_false, h, zrow_self, zu_ne]
theorem m261 {p g : Nat} (hp : p < 6) (hg : g < 12) : zev X 261 0 [.ref 168, .int (zi p), .int (zi g)] [] (zHP (zrow D 172 s) O, k) = some (.inl none, (zHP (zrow D 172 (zu (zu s (46 + 5 * (12 * p + g) + 3) zn) (46 + 5 * (12 * p + g) + 4) (zi 0))) O, k)) := by
  simp (disch := first | assumption | omega) only [b261_0, b261_8, b261_16, m254, ↓zn_l, zl_0, zl_1, zl_2, zl_3, zl_4, zl_5, zl_6, zl_7, zl_8, zl_9, zl_10, zl_11, zl_12, zl_13, zl_14, zl_15, zl_16, zl_17, zl_18, zl_19, zl_20, zl_21, zl_22, zl_23, zl_24, zl_25, zl_26, zl_27, zl_28, zl_29, zl_30, zl_31, zl_32, zl_36, zl_46, zl_48, zl_50, zl_57, zl_63, zl_64, zl_72, zl_97, zl_99, zl_100, zl_101, zl_122, zl_127, zl_200, zl_255, zl_406, zl_534, zl_540, zl_600, zl_9999, zl_33, zl_34, zl_35, zl_37, zl_38, zl_39, zl_40, zl_41, zl_42, zl_43, zl_44, zl_45, zl_47, zl_49, zl_52, zl_53, zl_54, zl_55, zl_58, zl_59, zl_60, zl_61, zl_62, zl_65, zl_70, zl_71, zl_98, zl_102, zl_103, zl_104, zl_105, zl_110, zl_111, zl_115, zl_120, zl_123, zl_126, zl_128, zl_256, zl_1000, zl_1024, zcon_inl, zcon_inr, Option.toList_some, Option.toList_none, List.cons_append, List.nil_append, List.append_nil, Nat.add_zero, zbind_some, zi_toNat, zi_lt, zi_inj, zi_add, zi_mul, zi_ne_zn, zn_ne_zi, zn_lt_zi, zi_lt_zn, Nat.not_lt_zero, false_or, if_true, if_false, true_or, or_false]
theorem m202 {p : Nat} (I : zIv T) (R : zRd s T) (hp : p < sNp T) : zev X 202 0 [.ref 168, .int (zi p)] [] (zHP (zrow D 172 s) O, k) = some (.inl (some (.int (zb (sEnd T p)))), (zHP (zrow D 172 s) O, k)) := by
  have n2 := zIv_np6 I
  have hp6 : p < 6 := by omega
  have e := (R.2.1 p hp).2.2.2.2.2
  have h01 := I.2.2.1.2 p hp6
  simp (disch := first | assumption | omega) only [b202_0, b202_6, m203, ↓zn_l, zl_0, zl_1, zl_2, zl_3, zl_4, zl_5, zl_6, zl_7, zl_8, zl_9, zl_10, zl_11, zl_12, zl_13, zl_14, zl_15, zl_16, zl_17, zl_18, zl_19, zl_20, zl_21, zl_22, zl_23, zl_24, zl_25, zl_26, zl_27, zl_28, zl_29, zl_30, zl_31, zl_32, zl_36, zl_46, zl_48, zl_50, zl_57, zl_63, zl_64, zl_72, zl_97, zl_99, zl_100, zl_101, zl_122, zl_127, zl_200, zl_255, zl_406, zl_534, zl_540, zl_600, zl_9999, zl_33, zl_34, zl_35, zl_37, zl_38, zl_39, zl_40, zl_41, zl_42, zl_43, zl_44, zl_45, zl_47, zl_49, zl_52, zl_53, zl_54, zl_55, zl_58, zl_59, zl_60, zl_61, zl_62, zl_65, zl_70, zl_71, zl_98, zl_102, zl_103, zl_104, zl_105, zl_110, zl_111, zl_115, zl_120, zl_123, zl_126, zl_128, zl_256, zl_1000, zl_1024, zcon_inl, zcon_inr, Option.toList_some, Option.toList_none, List.cons_append, List.nil_append, List.append_nil, Nat.add_zero, zbind_some, zi_toNat, zi_lt, zi_inj, zi_add, zi_mul, zi_ne_zn, zn_ne_zi, zn_lt_zi, zi_lt_zn, Nat.not_lt_zero, false_or, if_true, if_false, true_or, or_false, e]
  rcases h01 with h | h <;> simp (disch := first | assumption | omega) [sEnd, h, zi_inj, zb]
theorem m214 {p g : Nat} (R : zRd s T) (hp : p < 6) (hg : g < 12) : zev X 214 0 [.ref 168, .int (zi p), .int (zi g)] [] (zHP (zrow D 172 s) O, k) = some (.inl (some (.int (zb (sIn T (12 * p + g))))), (zHP (zrow D 172 s) O, k)) := by
  have e := (R.2.2.1 (12 * p + g) (by omega)).1
  simp (disch := first | assumption | omega) only [b214_0, b214_7, m208, ↓zn_l, zl_0, zl_1, zl_2, zl_3, zl_4, zl_5, zl_6, zl_7, zl_8, zl_9, zl_10, zl_11, zl_12, zl_13, zl_14, zl_15, zl_16, zl_17, zl_18, zl_19, zl_20, zl_21, zl_22, zl_23, zl_24, zl_25, zl_26, zl_27, zl_28, zl_29, zl_30, zl_31, zl_32, zl_36, zl_46, zl_48, zl_50, zl_57, zl_63, zl_64, zl_72, zl_97, zl_99, zl_100, zl_101, zl_122, zl_127, zl_200, zl_255, zl_406, zl_534, zl_540, zl_600, zl_9999, zl_33, zl_34, zl_35, zl_37, zl_38, zl_39, zl_40, zl_41, zl_42, zl_43, zl_44, zl_45, zl_47, zl_49, zl_52, zl_53, zl_54, zl_55, zl_58, zl_59, zl_60, zl_61, zl_62, zl_65, zl_70, zl_71, zl_98, zl_102, zl_103, zl_104, zl_105, zl_110, zl_111, zl_115, zl_120, zl_123, zl_126, zl_128, zl_256, zl_1000, zl_1024, zcon_inl, zcon_inr, Option.toList_some, Option.toList_none, List.cons_append, List.nil_append, List.append_nil, Nat.add_zero, zbind_some, zi_toNat, zi_lt, zi_inj, zi_add, zi_mul, zi_ne_zn, zn_ne_zi, zn_lt_zi, zi_lt_zn, Nat.not_lt_zero, false_or, if_true, if_false, true_or, or_false, e]
  by_cases h : T 3 (5 * (12 * p + g)) = zn <;> simp [sIn, h, zb]
theorem m207' {f : Nat} (n1 : T 1 0 = zi (sNp T)) (n2 : sNp T ≤ 6) (hpg : ∀ p, p < 6 → T 2 (12 * p + 1) = zi (sPgs T p) ∧ sPgs T p ≤ 12) (hz : ∀ p g, p < 6 → g < 12 → (sNp T ≤ p ∨ sPgs T p ≤ g) → T 3 (5 * (12 * p + g)) = zn) (S : zRs D T) (hA : ∀ r, r < 72 → s (46 + 5 * r) = T 3 (5 * r)) (hf : f < 64) : zev X 207 0 [.ref 168, .int (zi f), zJ, zJ, zJ] [] (zHP (zrow D 172 s) O, k) = some (.inl (some (.int (zi (sCnt T f)))), (zHP (zrow D 172 s) O, k)) := by
  have e168 : zrow D 172 s 168 = D 168 := zrow_ne (by omega)
  have e170 : zrow D 172 s 170 = D 170 := zrow_ne (by omega)
  have hinner : ∀ p, p < sNp T → ∀ d i c, i + d = sPgs T p → zev X 207 15 [.ref 168, .int (zi f), .int (zi c), .int (zi p), .int (zi i)] [] (zHP (zrow D 172 s) O, k) = zev X 207 4 [.ref 168, .int (zi f), .int (zi (zct (fun g => decide (T 3 (5 * (12 * p + g)) = zi f)) d i c)), .int (zi (p + 1)), .int (zi (sPgs T p))] [] (zHP (zrow D 172 s) O, k) := by
    intro p hp d
    have hp6 : p < 6 := by omega
    have h6 : ¬ 6 ≤ p := by omega
    obtain ⟨g1, g2⟩ := hpg p hp6
    have eP : D 170 p = zi (sPgs T p) := (S.2.1 p hp).trans g1
    induction d with
    | zero =>
      intro i c hi
      have : i = sPgs T p := by omega
      subst this
      refine b207_15.trans ?_
      simp (disch := first | assumption | omega) only [↓zn_l, zl_0, zl_1, zl_2, zl_3, zl_4, zl_5, zl_6, zl_7, zl_8, zl_9, zl_10, zl_11, zl_12, zl_13, zl_14, zl_15, zl_16, zl_17, zl_18, zl_19, zl_20, zl_21, zl_22, zl_23, zl_24, zl_25, zl_26, zl_27, zl_28, zl_29, zl_30, zl_31, zl_32, zl_36, zl_46, zl_48, zl_50, zl_57, zl_63, zl_64, zl_72, zl_97, zl_99, zl_100, zl_101, zl_122, zl_127, zl_200, zl_255, zl_406, zl_534, zl_540, zl_600, zl_9999, zl_33, zl_34, zl_35, zl_37, zl_38, zl_39, zl_40, zl_41, zl_42, zl_43, zl_44, zl_45, zl_47, zl_49, zl_52, zl_53, zl_54, zl_55, zl_58, zl_59, zl_60, zl_61, zl_62, zl_65, zl_70, zl_71, zl_98, zl_102, zl_103, zl_104, zl_105, zl_110, zl_111, zl_115, zl_120, zl_123, zl_126, zl_128, zl_256, zl_1000, zl_1024, zcon_inl, zcon_inr, Option.toList_some, Option.toList_none, List.cons_append, List.nil_append, List.append_nil, Nat.add_zero, zbind_some, zi_toNat, zi_lt, zi_inj, zi_add, zi_mul, zi_ne_zn, zn_ne_zi, zn_lt_zi, zi_lt_zn, Nat.not_lt_zero, false_or, if_true, if_false, true_or, or_false, e170, eP, h6, Nat.lt_irrefl]
      rfl
    | succ d ih =>
      intro i c hi
      have hi2 : i < sPgs T p := by omega
      have e := hA (12 * p + i) (by omega)
      have et := @m204 X (zrow D 172 s) O k true
      have ef := @m204 X (zrow D 172 s) O k false
      rw [zb_t] at et
      rw [zb_f] at ef
      have := ih (i + 1) (if decide (T 3 (5 * (12 * p + i)) = zi f) then c + 1 else c) (by omega)
      have en : zct (fun g => decide (T 3 (5 * (12 * p + g)) = zi f)) (d + 1) i c = zct (fun g => decide (T 3 (5 * (12 * p + g)) = zi f)) d (i + 1) (if decide (T 3 (5 * (12 * p + i)) = zi f) then c + 1 else c) := rfl
      rw [en, ← this]
      refine b207_15.trans ?_
      simp (disch := first | assumption | omega) only [↓zn_l, zl_0, zl_1, zl_2, zl_3, zl_4, zl_5, zl_6, zl_7, zl_8, zl_9, zl_10, zl_11, zl_12, zl_13, zl_14, zl_15, zl_16, zl_17, zl_18, zl_19, zl_20, zl_21, zl_22, zl_23, zl_24, zl_25, zl_26, zl_27, zl_28, zl_29, zl_30, zl_31, zl_32, zl_36, zl_46, zl_48, zl_50, zl_57, zl_63, zl_64, zl_72, zl_97, zl_99, zl_100, zl_101, zl_122, zl_127, zl_200, zl_255, zl_406, zl_534, zl_540, zl_600, zl_9999, zl_33, zl_34, zl_35, zl_37, zl_38, zl_39, zl_40, zl_41, zl_42, zl_43, zl_44, zl_45, zl_47, zl_49, zl_52, zl_53, zl_54, zl_55, zl_58, zl_59, zl_60, zl_61, zl_62, zl_65, zl_70, zl_71, zl_98, zl_102, zl_103, zl_104, zl_105, zl_110, zl_111, zl_115, zl_120, zl_123, zl_126, zl_128, zl_256, zl_1000, zl_1024, zcon_inl, zcon_inr, Option.toList_some, Option.toList_none, List.cons_append, List.nil_append, List.append_nil, Nat.add_zero, zbind_some, zi_toNat, zi_lt, zi_inj, zi_add, zi_mul, zi_ne_zn, zn_ne_zi, zn_lt_zi, zi_lt_zn, Nat.not_lt_zero, false_or, if_true, if_false, true_or, or_false, e170, eP, h6, hi2, m208, b207_35, e, et, ef, b207_47]
      by_cases q : T 3 (5 * (12 * p + i)) = zi f <;> simp [q]
  simp only [b207_0, ↓zn_l, zl_0, zl_1, zl_2, zl_3, zl_4, zl_5, zl_6, zl_7, zl_8, zl_9, zl_10, zl_11, zl_12, zl_13, zl_14, zl_15, zl_16, zl_17, zl_18, zl_19, zl_20, zl_21, zl_22, zl_23, zl_24, zl_25, zl_26, zl_27, zl_28, zl_29, zl_30, zl_31, zl_32, zl_36, zl_46, zl_48, zl_50, zl_57, zl_63, zl_64, zl_72, zl_97, zl_99, zl_100, zl_101, zl_122, zl_127, zl_200, zl_255, zl_406, zl_534, zl_540, zl_600, zl_9999, zl_33, zl_34, zl_35, zl_37, zl_38, zl_39, zl_40, zl_41, zl_42, zl_43, zl_44, zl_45, zl_47, zl_49, zl_52, zl_53, zl_54, zl_55, zl_58, zl_59, zl_60, zl_61, zl_62, zl_65, zl_70, zl_71, zl_98, zl_102, zl_103, zl_104, zl_105, zl_110, zl_111, zl_115, zl_120, zl_123, zl_126, zl_128, zl_256, zl_1000, zl_1024]
  have key := (zloopW (P := fun p c v => zev X 207 4 [.ref 168, .int (zi f), .int (zi c), .int (zi p), v] [] (zHP (zrow D 172 s) O, k)) (Q := fun c => some (.inl (some (.int (zi c))), (zHP (zrow D 172 s) O, k))) (f := fun p c => zct (fun g => decide (T 3 (5 * (12 * p + g)) = zi f)) (sPgs T p) 0 c) (n := sNp T) (J := fun _ _ => True) ?_ ?_ (sNp T) 0 0 zJ (by omega) trivial rfl).1
  · have e : zfo (fun p c => zct (fun g => decide (T 3 (5 * (12 * p + g)) = zi f)) (sPgs T p) 0 c) (sNp T) 0 0 = sCnt T f := znest (q := fun r => decide (T 3 (5 * r) = zi f)) n2 (fun p hp => (hpg p hp).2) (fun p g hp hg hb => by
      have := hz p g hp hg hb
      refine decide_eq_false fun q => ?_
      rw [this] at q
      exact (zn_ne_zi (by omega)).mp q)
    rw [e] at key
    exact key
  · intro p c v hp _ hv
    refine ⟨.int (zi (sPgs T p)), rfl, ?_, trivial⟩
    refine b207_4.trans ?_
    simp (disch := first | assumption | omega) only [e168, S.1.1, n1, ↓zn_l, zl_0, zl_1, zl_2, zl_3, zl_4, zl_5, zl_6, zl_7, zl_8, zl_9, zl_10, zl_11, zl_12, zl_13, zl_14, zl_15, zl_16, zl_17, zl_18, zl_19, zl_20, zl_21, zl_22, zl_23, zl_24, zl_25, zl_26, zl_27, zl_28, zl_29, zl_30, zl_31, zl_32, zl_36, zl_46, zl_48, zl_50, zl_57, zl_63, zl_64, zl_72, zl_97, zl_99, zl_100, zl_101, zl_122, zl_127, zl_200, zl_255, zl_406, zl_534, zl_540, zl_600, zl_9999, zl_33, zl_34, zl_35, zl_37, zl_38, zl_39, zl_40, zl_41, zl_42, zl_43, zl_44, zl_45, zl_47, zl_49, zl_52, zl_53, zl_54, zl_55, zl_58, zl_59, zl_60, zl_61, zl_62, zl_65, zl_70, zl_71, zl_98, zl_102, zl_103, zl_104, zl_105, zl_110, zl_111, zl_115, zl_120, zl_123, zl_126, zl_128, zl_256, zl_1000, zl_1024, zcon_inl, zcon_inr, Option.toList_some, Option.toList_none, List.cons_append, List.nil_append, List.append_nil, Nat.add_zero, zbind_some, zi_toNat, zi_lt, zi_inj, zi_add, zi_mul, zi_ne_zn, zn_ne_zi, zn_lt_zi, zi_lt_zn, Nat.not_lt_zero, false_or, if_true, if_false, true_or, or_false, hp]
    exact hinner p hp (sPgs T p) 0 c (by omega)
  · intro c v _ _
    refine b207_4.trans ?_
    simp (disch := first | assumption | omega) only [e168, S.1.1, n1, ↓zn_l, zl_0, zl_1, zl_2, zl_3, zl_4, zl_5, zl_6, zl_7, zl_8, zl_9, zl_10, zl_11, zl_12, zl_13, zl_14, zl_15, zl_16, zl_17, zl_18, zl_19, zl_20, zl_21, zl_22, zl_23, zl_24, zl_25, zl_26, zl_27, zl_28, zl_29, zl_30, zl_31, zl_32, zl_36, zl_46, zl_48, zl_50, zl_57, zl_63, zl_64, zl_72, zl_97, zl_99, zl_100, zl_101, zl_122, zl_127, zl_200, zl_255, zl_406, zl_534, zl_540, zl_600, zl_9999, zl_33, zl_34, zl_35, zl_37, zl_38, zl_39, zl_40, zl_41, zl_42, zl_43, zl_44, zl_45, zl_47, zl_49, zl_52, zl_53, zl_54, zl_55, zl_58, zl_59, zl_60, zl_61, zl_62, zl_65, zl_70, zl_71, zl_98, zl_102, zl_103, zl_104, zl_105, zl_110, zl_111, zl_115, zl_120, zl_123, zl_126, zl_128, zl_256, zl_1000, zl_1024, zcon_inl, zcon_inr, Option.toList_some, Option.toList_none, List.cons_append, List.nil_append, List.append_nil, Nat.add_zero, zbind_some, zi_toNat, zi_lt, zi_inj, zi_add, zi_mul, zi_ne_zn, zn_ne_zi, zn_lt_zi, zi_lt_zn, Nat.not_lt_zero, false_or, if_true, if_false, true_or, or_false, Nat.lt_irrefl]
theorem m207 {f : Nat} (I : zIv T) (S : zRs D T) (R : zRd s T) (hf : f < 64) : zev X 207 0 [.ref 168, .int (zi f), zJ, zJ, zJ] [] (zHP (zrow D 172 s) O, k) = some (.inl (some (.int (zi (sCnt T f)))), (zHP (zrow D 172 s) O, k)) := m207' (zIv_np I) (zIv_np6 I) (fun p hp => zIv_pg I hp) (fun p g hp hg hb => (I.2.2.2.1.2 p g hp hg hb).1) S (fun r hr => (R.2.2.1 r hr).1) hf
theorem zIv_lt {f r : Nat} (I : zIv T) (hr : r < 72) (h : T 3 (5 * r) = zi f) (hf : f < 64) : f < sNf T := by
  have n4 := zIv_nf64 I
  rcases I.2.1.1 r hr with q | ⟨f', h1, h2⟩
  · exact absurd (q.symm.trans h) (by rw [zn_ne_zi (by omega)]; simp)
  · have := h2.symm.trans h
    rw [zi_inj (by omega) (by omega)] at this
    omega
theorem m215 {p g : Nat} (I : zIv T) (S : zRs D T) (R : zRd s T) (hp : p < 6) (hg : g < 12) : zev X 215 0 [.ref 168, .int (zi p), .int (zi g)] [] (zHP (zrow D 172 s) O, k) = some (.inl (some (.int (zb (sSh T (12 * p + g))))), (zHP (zrow D 172 s) O, k)) := by
  have hr : 12 * p + g < 72 := by omega
  have e := (R.2.2.1 (12 * p + g) hr).1
  have hz := zIv_at I _ hr
  simp (disch := first | assumption | omega) only [b215_0, m214, b215_6, zb_0, ↓zn_l, zl_0, zl_1, zl_2, zl_3, zl_4, zl_5, zl_6, zl_7, zl_8, zl_9, zl_10, zl_11, zl_12, zl_13, zl_14, zl_15, zl_16, zl_17, zl_18, zl_19, zl_20, zl_21, zl_22, zl_23, zl_24, zl_25, zl_26, zl_27, zl_28, zl_29, zl_30, zl_31, zl_32, zl_36, zl_46, zl_48, zl_50, zl_57, zl_63, zl_64, zl_72, zl_97, zl_99, zl_100, zl_101, zl_122, zl_127, zl_200, zl_255, zl_406, zl_534, zl_540, zl_600, zl_9999, zl_33, zl_34, zl_35, zl_37, zl_38, zl_39, zl_40, zl_41, zl_42, zl_43, zl_44, zl_45, zl_47, zl_49, zl_52, zl_53, zl_54, zl_55, zl_58, zl_59, zl_60, zl_61, zl_62, zl_65, zl_70, zl_71, zl_98, zl_102, zl_103, zl_104, zl_105, zl_110, zl_111, zl_115, zl_120, zl_123, zl_126, zl_128, zl_256, zl_1000, zl_1024, zcon_inl, zcon_inr, Option.toList_some, Option.toList_none, List.cons_append, List.nil_append, List.append_nil, Nat.add_zero, zbind_some, zi_toNat, zi_lt, zi_inj, zi_add, zi_mul, zi_ne_zn, zn_ne_zi, zn_lt_zi, zi_lt_zn, Nat.not_lt_zero, false_or, if_true, if_false, true_or, or_false]
  cases hi : sIn T (12 * p + g)
  · simp [sSh, hi, zb]
  · obtain ⟨h1, h2⟩ := sFr_of hz hi
    have e207 := m207 (X := X) (O := O) (k := k) I S R h1
    have ec := I.2.2.2.2.1.1 _ h1
    simp (disch := first | assumption | omega) only [m208, b215_17, b215_20, ↓zn_l, zl_0, zl_1, zl_2, zl_3, zl_4, zl_5, zl_6, zl_7, zl_8, zl_9, zl_10, zl_11, zl_12, zl_13, zl_14, zl_15, zl_16, zl_17, zl_18, zl_19, zl_20, zl_21, zl_22, zl_23, zl_24, zl_25, zl_26, zl_27, zl_28, zl_29, zl_30, zl_31, zl_32, zl_36, zl_46, zl_48, zl_50, zl_57, zl_63, zl_64, zl_72, zl_97, zl_99, zl_100, zl_101, zl_122, zl_127, zl_200, zl_255, zl_406, zl_534, zl_540, zl_600, zl_9999, zl_33, zl_34, zl_35, zl_37, zl_38, zl_39, zl_40, zl_41, zl_42, zl_43, zl_44, zl_45, zl_47, zl_49, zl_52, zl_53, zl_54, zl_55, zl_58, zl_59, zl_60, zl_61, zl_62, zl_65, zl_70, zl_71, zl_98, zl_102, zl_103, zl_104, zl_105, zl_110, zl_111, zl_115, zl_120, zl_123, zl_126, zl_128, zl_256, zl_1000, zl_1024, zcon_inl, zcon_inr, Option.toList_some, Option.toList_none, List.cons_append, List.nil_append, List.append_nil, Nat.add_zero, zbind_some, zi_toNat, zi_lt, zi_inj, zi_add, zi_mul, zi_ne_zn, zn_ne_zi, zn_lt_zi, zi_lt_zn, Nat.not_lt_zero, false_or, if_true, if_false, true_or, or_false, e, h2, e207, Bool.true_eq_false]
    rw [← ec]
    by_cases q : zi 1 < T 4 (3 * sFr T (12 * p + g)) <;> simp [sSh, hi, q, zb]
theorem sCnt_le (T : ZD2) (f : Nat) : sCnt T f ≤ 72 := by have := zct_le (fun r => decide (T 3 (5 * r) = zi f)) 72 0 0; unfold sCnt; omega
theorem m206 {f : Nat} (I : zIv T) (S : zRs D T) (R : zRd s T) (hf : f < sNf T) : zev X 206 0 [.ref 168, .int (zi f)] [] (zHP (zrow D 172 s) O, k) = some (.inl (some (.int (sState T f))), (zHP (zrow D 172 s) O, k)) := by
  have n4 := zIv_nf64 I
  have hf64 : f < 64 := by omega
  have e207 := m207 (X := X) (O := O) (k := k) I S R hf64
  have ec := I.2.2.2.2.1.1 f hf64
  have e0 := R.1.1.1
  have hR := (R.2.2.2.1 f hf).2
  have hle := sCnt_le T f
  have h540 : ¬ 540 ≤ 0 := by omega
  have e209 := @m209 X D s O k f 0 hf64 (by omega)
  rw [Nat.add_zero (406 + 2 * f)] at e209
  simp (disch := first | assumption | omega) only [b206_0, e207, b206_5, e209, b206_18, zrow_self, h540, ↓zn_l, zl_0, zl_1, zl_2, zl_3, zl_4, zl_5, zl_6, zl_7, zl_8, zl_9, zl_10, zl_11, zl_12, zl_13, zl_14, zl_15, zl_16, zl_17, zl_18, zl_19, zl_20, zl_21, zl_22, zl_23, zl_24, zl_25, zl_26, zl_27, zl_28, zl_29, zl_30, zl_31, zl_32, zl_36, zl_46, zl_48, zl_50, zl_57, zl_63, zl_64, zl_72, zl_97, zl_99, zl_100, zl_101, zl_122, zl_127, zl_200, zl_255, zl_406, zl_534, zl_540, zl_600, zl_9999, zl_33, zl_34, zl_35, zl_37, zl_38, zl_39, zl_40, zl_41, zl_42, zl_43, zl_44, zl_45, zl_47, zl_49, zl_52, zl_53, zl_54, zl_55, zl_58, zl_59, zl_60, zl_61, zl_62, zl_65, zl_70, zl_71, zl_98, zl_102, zl_103, zl_104, zl_105, zl_110, zl_111, zl_115, zl_120, zl_123, zl_126, zl_128, zl_256, zl_1000, zl_1024, zcon_inl, zcon_inr, Option.toList_some, Option.toList_none, List.cons_append, List.nil_append, List.append_nil, Nat.add_zero, zbind_some, zi_toNat, zi_lt, zi_inj, zi_add, zi_mul, zi_ne_zn, zn_ne_zi, zn_lt_zi, zi_lt_zn, Nat.not_lt_zero, false_or, if_true, if_false, true_or, or_false, e0]
  unfold sState
  rw [ec]
  by_cases h0 : 0 < sCnt T f
  · have : zi 0 < zi (sCnt T f) := by rw [zi_lt (by omega) (by omega)]; exact h0
    rw [if_pos h0, if_pos this]
  · have hn : ¬ zi 0 < zi (sCnt T f) := by rw [zi_lt (by omega) (by omega)]; exact h0
    rw [if_neg h0, if_neg hn]
    rcases hR (by rw [ec]; congr 1; omega) with ⟨a, b⟩ | ⟨a, b⟩
    · rw [if_neg b, if_pos a]
    · rw [if_pos b, if_neg]
      intro q
      obtain ⟨tm, u2, u3⟩ := I.2.2.2.2.2.1
      rw [← a, q, u2, zi_lt_zn (by omega)] at b
      exact b
theorem m219 {f : Nat} (I : zIv T) (R : zRd s T) (hf : f < sNf T) : zev X 219 0 [.ref 168, .int (zi f)] [] (zHP (zrow D 172 s) O, k) = some (.inl (some (.int (zb (sDirty T f)))), (zHP (zrow D 172 s) O, k)) := by
  have n4 := zIv_nf64 I
  have hf64 : f < 64 := by omega
  have e := (R.2.2.2.1 f hf).1
  simp (disch := first | assumption | omega) only [b219_0, b219_6, m209, ↓zn_l, zl_0, zl_1, zl_2, zl_3, zl_4, zl_5, zl_6, zl_7, zl_8, zl_9, zl_10, zl_11, zl_12, zl_13, zl_14, zl_15, zl_16, zl_17, zl_18, zl_19, zl_20, zl_21, zl_22, zl_23, zl_24, zl_25, zl_26, zl_27, zl_28, zl_29, zl_30, zl_31, zl_32, zl_36, zl_46, zl_48, zl_50, zl_57, zl_63, zl_64, zl_72, zl_97, zl_99, zl_100, zl_101, zl_122, zl_127, zl_200, zl_255, zl_406, zl_534, zl_540, zl_600, zl_9999, zl_33, zl_34, zl_35, zl_37, zl_38, zl_39, zl_40, zl_41, zl_42, zl_43, zl_44, zl_45, zl_47, zl_49, zl_52, zl_53, zl_54, zl_55, zl_58, zl_59, zl_60, zl_61, zl_62, zl_65, zl_70, zl_71, zl_98, zl_102, zl_103, zl_104, zl_105, zl_110, zl_111, zl_115, zl_120, zl_123, zl_126, zl_128, zl_256, zl_1000, zl_1024, zcon_inl, zcon_inr, Option.toList_some, Option.toList_none, List.cons_append, List.nil_append, List.append_nil, Nat.add_zero, zbind_some, zi_toNat, zi_lt, zi_inj, zi_add, zi_mul, zi_ne_zn, zn_ne_zi, zn_lt_zi, zi_lt_zn, Nat.not_lt_zero, false_or, if_true, if_false, true_or, or_false, e]
  rcases I.2.2.2.2.1.2.1 f hf64 with h | ⟨h, -⟩ <;> simp (disch := first | assumption | omega) [sDirty, h, zi_inj, zb]
end
