/-! The class's methods: what a call needs, and the plain looks. -/
theorem zi_of {a : Int32} (h : ¬ a < zi 0) : a = zi a.toNatClampNeg := by
  have h1 : (0 : Int) ≤ a.toInt := by
    have := Int32.not_lt.mp h
    have := Int32.le_iff_toInt_le.mp this
    rw [zi_toInt (by omega)] at this
    exact_mod_cast this
  apply Int32.toInt.inj
  have h2 : a.toInt < 2147483648 := by have := Int32.toInt_lt a; omega
  have h3 : (a.toNatClampNeg : Int) = a.toInt := by
    show ((a.toInt.toNat : Nat) : Int) = a.toInt
    omega
  rw [zi_toInt (by omega), h3]
theorem zi_lt_of {a : Int32} {n : Nat} (hn : n < 2147483648) (h : ¬ a < zi 0) (h2 : a < zi n) : a.toNatClampNeg < n := by
  rw [zi_of h] at h2
  have h3 : a.toNatClampNeg < 2147483648 := by
    show a.toInt.toNat < _
    have := Int32.toInt_lt a
    omega
  rwa [zi_lt h3 hn] at h2
theorem zdec {a : Int32} {n : Nat} (hn : n < 2147483648) : (a < zi 0 ∨ ¬ a < zi n) ∨ ∃ q, q < n ∧ a = zi q := by
  by_cases h : a < zi 0
  · exact Or.inl (Or.inl h)
  · by_cases h2 : a < zi n
    · exact Or.inr ⟨a.toNatClampNeg, zi_lt_of hn h h2, zi_of h⟩
    · exact Or.inl (Or.inr h2)
theorem zdec2 {a : Int32} {l n : Nat} (hl : l < 2147483648) (hn : n < 2147483648) : (a < zi l ∨ zi n < a) ∨ ∃ q, l ≤ q ∧ q ≤ n ∧ a = zi q := by
  by_cases h : a < zi l
  · exact Or.inl (Or.inl h)
  · by_cases h2 : zi n < a
    · exact Or.inl (Or.inr h2)
    · right
      have h0 : ¬ a < zi 0 := fun q => h (Int32.lt_of_lt_of_le q (by
        rw [Int32.le_iff_toInt_le, zi_toInt (by omega), zi_toInt hl]
        omega))
      have h3 : a.toNatClampNeg < 2147483648 := by
        show a.toInt.toNat < _
        have := Int32.toInt_lt a
        omega
      refine ⟨a.toNatClampNeg, ?_, ?_, zi_of h0⟩
      · rw [zi_of h0, zi_lt h3 hl] at h
        omega
      · rw [zi_of h0, zi_lt hn h3] at h2
        omega
section
variable {X : ZX} {D T : ZD2} {O : ZO2} {k : Nat × Nat × Nat}
theorem hm20 : zisM 20 := zisM_of 20 (by decide)
theorem hm4 : zisM 4 := zisM_of 4 (by decide)
def kt (k : Nat × Nat × Nat) : Nat × Nat × Nat := (k.1, k.2.1 + 1, k.2.2 + 6)
theorem d20 : zmt D 20 T 20 = D 20 := zmt_o (by omega)
theorem c114 (h : D 20 6 = zi 1) : zev X 114 0 [.ref 0] [] (zHP (zmt D 20 T) O, k) = some (.inl none, (zHP (zmt D 20 T) O, k)) := by
  rw [b114_0, d20, h, zl_0, if_neg (by rw [zi_inj (by omega) (by omega)]; omega)]
theorem c114n (h : D 20 6 = zi 0) : zev X 114 0 [.ref 0] [] (zHP (zmt D 20 T) O, k) = some (.inr 1, (zHP (zmt D 20 T) O, kt k)) := by
  rw [b114_0, d20, h, zl_0, if_pos rfl]
  rfl
theorem c116 {a b c : Int32} (h1 : ¬ a < b) (h2 : ¬ c < a) : zev X 116 0 [.int a, .int b, .int c] [] (zHP D O, k) = some (.inl none, (zHP D O, k)) := by
  rw [b116_0, if_neg h1, if_neg h2]
theorem c116n {a b c : Int32} (h : a < b ∨ c < a) : zev X 116 0 [.int a, .int b, .int c] [] (zHP D O, k) = some (.inr 0, (zHP D O, kt k)) := by
  rw [b116_0]
  by_cases h1 : a < b
  · rw [if_pos h1]; rfl
  · rw [if_neg h1, if_pos (h.resolve_left h1)]; rfl
theorem c116z {q l n : Nat} (h1 : l ≤ q) (h2 : q ≤ n) (h3 : n < 2147483648) : zev X 116 0 [.int (zi q), .int (zi l), .int (zi n)] [] (zHP D O, k) = some (.inl none, (zHP D O, k)) := c116 (by rw [zi_lt (by omega) (by omega)]; omega) (by rw [zi_lt (by omega) (by omega)]; omega)
theorem c119 {p np : Nat} (h : D 20 6 = zi 1) (hn : T 1 0 = zi np) (h6 : np ≤ 6) (hp : p < np) : zev X 119 0 [.ref 0, .int (zi p)] [] (zHP (zmt D 20 T) O, k) = some (.inl none, (zHP (zmt D 20 T) O, k)) := by
  have e := @c18 X D T O k 20 hm20
  simp (disch := first | assumption | omega) only [b119_0, c114, b119_4, e, b119_16, hn, hp, ↓zn_l, zl_0, zl_1, zl_2, zl_3, zl_4, zl_5, zl_6, zl_7, zl_8, zl_9, zl_10, zl_11, zl_12, zl_13, zl_14, zl_15, zl_16, zl_17, zl_18, zl_19, zl_20, zl_21, zl_22, zl_23, zl_24, zl_25, zl_26, zl_27, zl_28, zl_29, zl_30, zl_31, zl_32, zl_36, zl_46, zl_48, zl_50, zl_57, zl_63, zl_64, zl_72, zl_97, zl_99, zl_100, zl_101, zl_122, zl_127, zl_200, zl_255, zl_406, zl_534, zl_540, zl_600, zl_9999, zl_33, zl_34, zl_35, zl_37, zl_38, zl_39, zl_40, zl_41, zl_42, zl_43, zl_44, zl_45, zl_47, zl_49, zl_52, zl_53, zl_54, zl_55, zl_58, zl_59, zl_60, zl_61, zl_62, zl_65, zl_70, zl_71, zl_98, zl_102, zl_103, zl_104, zl_105, zl_110, zl_111, zl_115, zl_120, zl_123, zl_126, zl_128, zl_256, zl_1000, zl_1024, zcon_inl, zcon_inr, Option.toList_some, Option.toList_none, List.cons_append, List.nil_append, List.append_nil, Nat.add_zero, zbind_some, zi_toNat, zi_lt, zi_inj, zi_add, zi_mul, zi_ne_zn, zn_ne_zi, zn_lt_zi, zi_lt_zn, Nat.not_lt_zero, false_or, if_true, if_false, true_or, or_false]
theorem c119n1 {a : Int32} (h : D 20 6 = zi 0) : zev X 119 0 [.ref 0, .int a] [] (zHP (zmt D 20 T) O, k) = some (.inr 1, (zHP (zmt D 20 T) O, kt k)) := by
  rw [b119_0, c114n h]
  rfl
theorem c119n2 {a : Int32} {np : Nat} (h : D 20 6 = zi 1) (hn : T 1 0 = zi np) (ha : a < zi 0 ∨ ¬ a < zi np) : zev X 119 0 [.ref 0, .int a] [] (zHP (zmt D 20 T) O, k) = some (.inr 2, (zHP (zmt D 20 T) O, kt k)) := by
  have e := @c18 X D T O k 20 hm20
  rw [b119_0, c114 h, zcon_inl]
  show zev X 119 4 _ [] _ = _
  rw [b119_4, zl_0]
  by_cases h1 : a < zi 0
  · rw [if_pos h1]; rfl
  · have h2 := ha.resolve_left h1
    rw [if_neg h1, e, zcon_inl]
    show zev X 119 16 _ [_, _] _ = _
    rw [b119_16, hn, if_neg h2]
    rfl
theorem c121 {p g np : Nat} (h : D 20 6 = zi 1) (hn : T 1 0 = zi np) (h6 : np ≤ 6) (hp : p < np) (hg : T 2 (12 * p + 1) = zi (sPgs T p)) (hg2 : sPgs T p ≤ 12) (hgp : g < sPgs T p) : zev X 121 0 [.ref 0, .int (zi p), .int (zi g)] [] (zHP (zmt D 20 T) O, k) = some (.inl none, (zHP (zmt D 20 T) O, k)) := by
  have e := @tg2 X D T O k 20 p 1 hm20 (by omega) (by omega)
  have e1 := @c119 X D T O k p np h hn h6 hp
  simp (disch := first | assumption | omega) only [b121_0, e1, b121_5, e, b121_22, hg, hgp, ↓zn_l, zl_0, zl_1, zl_2, zl_3, zl_4, zl_5, zl_6, zl_7, zl_8, zl_9, zl_10, zl_11, zl_12, zl_13, zl_14, zl_15, zl_16, zl_17, zl_18, zl_19, zl_20, zl_21, zl_22, zl_23, zl_24, zl_25, zl_26, zl_27, zl_28, zl_29, zl_30, zl_31, zl_32, zl_36, zl_46, zl_48, zl_50, zl_57, zl_63, zl_64, zl_72, zl_97, zl_99, zl_100, zl_101, zl_122, zl_127, zl_200, zl_255, zl_406, zl_534, zl_540, zl_600, zl_9999, zl_33, zl_34, zl_35, zl_37, zl_38, zl_39, zl_40, zl_41, zl_42, zl_43, zl_44, zl_45, zl_47, zl_49, zl_52, zl_53, zl_54, zl_55, zl_58, zl_59, zl_60, zl_61, zl_62, zl_65, zl_70, zl_71, zl_98, zl_102, zl_103, zl_104, zl_105, zl_110, zl_111, zl_115, zl_120, zl_123, zl_126, zl_128, zl_256, zl_1000, zl_1024, zcon_inl, zcon_inr, Option.toList_some, Option.toList_none, List.cons_append, List.nil_append, List.append_nil, Nat.add_zero, zbind_some, zi_toNat, zi_lt, zi_inj, zi_add, zi_mul, zi_ne_zn, zn_ne_zi, zn_lt_zi, zi_lt_zn, Nat.not_lt_zero, false_or, if_true, if_false, true_or, or_false]
theorem c121n1 {a b : Int32} (h : D 20 6 = zi 0) : zev X 121 0 [.ref 0, .int a, .int b] [] (zHP (zmt D 20 T) O, k) = some (.inr 1, (zHP (zmt D 20 T) O, kt k)) := by
  rw [b121_0, c119n1 h]
  rfl
theorem c121n2 {a b : Int32} {np : Nat} (h : D 20 6 = zi 1) (hn : T 1 0 = zi np) (ha : a < zi 0 ∨ ¬ a < zi np) : zev X 121 0 [.ref 0, .int a, .int b] [] (zHP (zmt D 20 T) O, k) = some (.inr 2, (zHP (zmt D 20 T) O, kt k)) := by
  rw [b121_0, c119n2 h hn ha]
  rfl
theorem c121n3 {b : Int32} {p np : Nat} (h : D 20 6 = zi 1) (hn : T 1 0 = zi np) (h6 : np ≤ 6) (hp : p < np) (hg : T 2 (12 * p + 1) = zi (sPgs T p)) (hb : b < zi 0 ∨ ¬ b < zi (sPgs T p)) : zev X 121 0 [.ref 0, .int (zi p), .int b] [] (zHP (zmt D 20 T) O, k) = some (.inr 2, (zHP (zmt D 20 T) O, kt k)) := by
  have e := @tg2 X D T O k 20 p 1 hm20 (by omega) (by omega)
  have e1 := @c119 X D T O k p np h hn h6 hp
  rw [b121_0, e1, zcon_inl]
  show zev X 121 5 _ [] _ = _
  rw [b121_5, zl_0]
  by_cases h1 : b < zi 0
  · rw [if_pos h1]; rfl
  · have h2 := hb.resolve_left h1
    rw [if_neg h1, zl_1, e, zcon_inl]
    show zev X 121 22 _ [_, _] _ = _
    rw [b121_22, hg, if_neg h2]
    rfl
theorem c161 {q : Nat} (h : q < 6) : zev X 161 0 [.ref 0, .int (zi q)] [] (zHP D O, k) = some (.inl none, (zHP D O, k)) := by
  simp (disch := first | assumption | omega) only [b161_0, h, ↓zn_l, zl_0, zl_1, zl_2, zl_3, zl_4, zl_5, zl_6, zl_7, zl_8, zl_9, zl_10, zl_11, zl_12, zl_13, zl_14, zl_15, zl_16, zl_17, zl_18, zl_19, zl_20, zl_21, zl_22, zl_23, zl_24, zl_25, zl_26, zl_27, zl_28, zl_29, zl_30, zl_31, zl_32, zl_36, zl_46, zl_48, zl_50, zl_57, zl_63, zl_64, zl_72, zl_97, zl_99, zl_100, zl_101, zl_122, zl_127, zl_200, zl_255, zl_406, zl_534, zl_540, zl_600, zl_9999, zl_33, zl_34, zl_35, zl_37, zl_38, zl_39, zl_40, zl_41, zl_42, zl_43, zl_44, zl_45, zl_47, zl_49, zl_52, zl_53, zl_54, zl_55, zl_58, zl_59, zl_60, zl_61, zl_62, zl_65, zl_70, zl_71, zl_98, zl_102, zl_103, zl_104, zl_105, zl_110, zl_111, zl_115, zl_120, zl_123, zl_126, zl_128, zl_256, zl_1000, zl_1024, zcon_inl, zcon_inr, Option.toList_some, Option.toList_none, List.cons_append, List.nil_append, List.append_nil, Nat.add_zero, zbind_some, zi_toNat, zi_lt, zi_inj, zi_add, zi_mul, zi_ne_zn, zn_ne_zi, zn_lt_zi, zi_lt_zn, Nat.not_lt_zero, false_or, if_true, if_false, true_or, or_false]
theorem c161n {a : Int32} (h : a < zi 0 ∨ ¬ a < zi 6) : zev X 161 0 [.ref 0, .int a] [] (zHP D O, k) = some (.inr 2, (zHP D O, kt k)) := by
  rw [b161_0, zl_0, zl_6]
  by_cases h1 : a < zi 0
  · rw [if_pos h1]; rfl
  · rw [if_neg h1, if_neg (h.resolve_left h1)]; rfl
theorem c139 {p : Nat} (hp : p < 6) (h : sEnd T p = false) : zev X 139 0 [.ref 0, .int (zi p)] [] (zHP (zmt D 20 T) O, k) = some (.inl none, (zHP (zmt D 20 T) O, k)) := by
  have e := @c30 X D T O k 20 p hm20 hp
  rw [b139_0, e, zcon_inl, h, zb_f]
  show zev X 139 8 _ [_] _ = _
  rw [b139_8, zl_0, if_pos rfl]
theorem c139n {p : Nat} (hp : p < 6) (h : sEnd T p = true) : zev X 139 0 [.ref 0, .int (zi p)] [] (zHP (zmt D 20 T) O, k) = some (.inr 0, (zHP (zmt D 20 T) O, kt k)) := by
  have e := @c30 X D T O k 20 p hm20 hp
  rw [b139_0, e, zcon_inl, h, zb_t]
  show zev X 139 8 _ [_] _ = _
  rw [b139_8, zl_0, if_neg (by rw [zi_inj (by omega) (by omega)]; omega)]
  rfl
theorem c130 {p : Nat} (hp : p < 6) : zev X 130 0 [.ref 0, .int (zi p)] [] (zHP (zmt D 20 T) O, k) = some (.inl (some (.int (T 2 (12 * p + 4)))), (zHP (zmt D 20 T) O, k)) := by
  have e := @tg2 X D T O k 20 p 4 hm20 hp (by omega)
  rw [b130_0, zl_4, e, zcon_inl]
  exact b130_12
theorem c132 {p : Nat} (hp : p < 6) : zev X 132 0 [.ref 0, .int (zi p)] [] (zHP (zmt D 20 T) O, k) = some (.inl (some (.int (T 2 (12 * p + 3)))), (zHP (zmt D 20 T) O, k)) := by
  have e := @tg2 X D T O k 20 p 3 hm20 hp (by omega)
  rw [b132_0, zl_3, e, zcon_inl]
  exact b132_12
end
