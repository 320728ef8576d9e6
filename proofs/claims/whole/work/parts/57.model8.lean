/-! What the model's calls refuse. -/
def zth (D : ZD2) (c : Nat) : ZD2 := zw D 168 0 (zi c)
theorem zth_0 (D : ZD2) (c : Nat) : zth D c 168 0 = zi c := zw_self _ _ _ _
theorem zth_f {D : ZD2} {c j : Nat} (h : j ≠ 0) : zth D c 168 j = D 168 j := zw_ne (by omega)
theorem zth_a {D : ZD2} {c a : Nat} (h : a ≠ 168) : zth D c a = D a := zw_row h
theorem zth_th (D : ZD2) (c d : Nat) : zth (zth D c) d = zth D d := by
  funext a j
  unfold zth zw
  split <;> rfl
theorem zRs_th {D T : ZD2} {c : Nat} (S : zRs D T) : zRs (zth D c) T := by
  obtain ⟨⟨s1, s2, s3, s4, s5, s6⟩, s7, s8⟩ := S
  refine ⟨⟨?_, ?_, ?_, ?_, ?_, ?_⟩, fun p hp => ?_, fun p hp => ?_⟩
  · rw [zth_f (by omega)]; exact s1
  · rw [zth_f (by omega)]; exact s2
  · rw [zth_f (by omega)]; exact s3
  · rw [zth_f (by omega)]; exact s4
  · rw [zth_f (by omega)]; exact s5
  · rw [zth_f (by omega)]; exact s6
  · rw [zth_a (by omega)]; exact s7 p hp
  · rw [zth_a (by omega)]; exact s8 p hp
/-- what looks may change -/
def zFrS (D D' : ZD2) : Prop := (∀ a, a ≠ 168 → a ≠ 173 → a ≠ 181 → D' a = D a) ∧ ∀ j, j ≠ 0 → j ≠ 39 → j ≠ 40 → D' 168 j = D 168 j
theorem zFrS_rfl {D : ZD2} : zFrS D D := ⟨fun _ _ _ _ => rfl, fun _ _ _ _ => rfl⟩
theorem zFrS_tr {D D' D'' : ZD2} (h1 : zFrS D D') (h2 : zFrS D' D'') : zFrS D D'' := ⟨fun a a1 a2 a3 => (h2.1 a a1 a2 a3).trans (h1.1 a a1 a2 a3), fun j j1 j2 j3 => (h2.2 j j1 j2 j3).trans (h1.2 j j1 j2 j3)⟩
theorem zFrS_th {D : ZD2} {c : Nat} : zFrS D (zth D c) := ⟨fun a a1 _ _ => zth_a a1, fun j j1 _ _ => zth_f j1⟩
theorem zFrS_M {D D' : ZD2} (h : zFrM D D') : zFrS D D' := ⟨fun a a1 _ a3 => h.1 a a1 a3, fun j _ j2 _ => h.2 j j2⟩
theorem zRs_frS {D D' T : ZD2} (h : zFrS D D') (S : zRs D T) : zRs D' T := by
  obtain ⟨⟨s1, s2, s3, s4, s5, s6⟩, s7, s8⟩ := S
  refine ⟨⟨?_, ?_, ?_, ?_, ?_, ?_⟩, fun p hp => ?_, fun p hp => ?_⟩
  · rw [h.2 7 (by omega) (by omega) (by omega)]; exact s1
  · rw [h.2 2 (by omega) (by omega) (by omega)]; exact s2
  · rw [h.2 3 (by omega) (by omega) (by omega)]; exact s3
  · rw [h.2 4 (by omega) (by omega) (by omega)]; exact s4
  · rw [h.2 5 (by omega) (by omega) (by omega)]; exact s5
  · rw [h.2 6 (by omega) (by omega) (by omega)]; exact s6
  · rw [h.1 170 (by omega) (by omega) (by omega)]; exact s7 p hp
  · rw [h.1 171 (by omega) (by omega) (by omega)]; exact s8 p hp
theorem zw_s0 {D : ZD2} {s : Nat → Int32} {v : Int32} : zw (zrow D 172 s) 168 0 v = zrow (zw D 168 0 v) 172 s := zw_so (by omega)
theorem zth_zi {D : ZD2} {c : Nat} : zw D 168 0 (zi c) = zth D c := rfl
theorem zwth {D : ZD2} {c : Nat} {v : Int32} : zw (zth D c) 168 0 v = zw D 168 0 v := by
  funext a j
  unfold zth zw
  split <;> rfl
section
variable {X : ZX} {D T : ZD2} {s : Nat → Int32} {O : ZO2} {k : Nat × Nat × Nat} {S : ZS}
theorem m175y {q n : Nat} (h : q < n) (hn : n < 2147483648) : zev X 175 0 [.int (zi q), .int (zi 0), .int (zi n - zi 1)] [] (zHP D O, k) = some (.inl (some (.int (zi 1))), (zHP D O, k)) := by
  rw [b175_0, if_neg (by rw [zi_lt (by omega) (by omega)]; omega), if_neg (by rw [zi_sub (by omega) (by omega), zi_lt (by omega) (by omega)]; omega)]
  rfl
theorem m175x {a : Int32} {n : Nat} (h : a < zi 0 ∨ ¬ a < zi n) (hn : n < 2147483648) : zev X 175 0 [.int a, .int (zi 0), .int (zi n - zi 1)] [] (zHP D O, k) = some (.inl (some (.int (zi 0))), (zHP D O, k)) := by
  rw [b175_0]
  by_cases h0 : a < zi 0
  · rw [if_pos h0]
    rfl
  · have hlt : zi n - zi 1 < a := by
      have h1 := h.resolve_left h0
      have e := zi_of h0
      have hq := zi_toNat (n := a.toNatClampNeg)
      by_cases hn0 : n = 0
      · subst hn0
        have : zi 0 - zi 1 = zn := by decide
        rw [this, e]
        have hb : a.toNatClampNeg < 2147483648 := Int32.toNatClampNeg_lt a
        rw [zn_lt_zi hb]
        trivial
      · have hb : a.toNatClampNeg < 2147483648 := Int32.toNatClampNeg_lt a
        rw [e, zi_lt hb hn] at h1
        rw [zi_sub (by omega) (by omega), e, zi_lt (by omega) hb]
        omega
    rw [if_neg h0, if_pos hlt]
    rfl
theorem m175z {q l n : Nat} (h1 : l ≤ q) (h2 : q ≤ n) (hn : n < 2147483648) : zev X 175 0 [.int (zi q), .int (zi l), .int (zi n)] [] (zHP D O, k) = some (.inl (some (.int (zi 1))), (zHP D O, k)) := by
  rw [b175_0, if_neg (by rw [zi_lt (by omega) (by omega)]; omega), if_neg (by rw [zi_lt (by omega) (by omega)]; omega)]
  rfl
theorem m175p {a b c : Int32} (h1 : ¬ a < b) (h2 : ¬ c < a) : zev X 175 0 [.int a, .int b, .int c] [] (zHP D O, k) = some (.inl (some (.int (zi 1))), (zHP D O, k)) := by
  rw [b175_0, if_neg h1, if_neg h2]
  rfl
theorem m175w {a b c : Int32} (h : a < b ∨ c < a) : zev X 175 0 [.int a, .int b, .int c] [] (zHP D O, k) = some (.inl (some (.int (zi 0))), (zHP D O, k)) := by
  rw [b175_0]
  by_cases h1 : a < b
  · rw [if_pos h1]
    rfl
  · rw [if_neg h1, if_pos (h.resolve_left h1)]
    rfl
/-- nothing to refuse -/
theorem m176f {c : Int32} (h : D 168 0 = zi 0) : zev X 176 0 [.ref 168, .int (zi 0), .int c] [] (zHP (zrow D 172 s) O, k) = some (.inl (some (.int (zi 0))), (zHP (zrow D 172 s) O, k)) := by
  rw [b176_0, e168s, h, zl_0, if_pos rfl, if_pos rfl, if_pos rfl]
theorem m176t {c : Nat} (h : D 168 0 = zi 0) (h1 : 0 < c) (h2 : c < 2147483648) : zev X 176 0 [.ref 168, .int (zi 1), .int (zi c)] [] (zHP (zrow D 172 s) O, k) = some (.inl (some (.int (zi 1))), (zHP (zrow (zth D c) 172 s) O, k)) := by
  rw [b176_0, e168s, h, zl_0, if_pos rfl, if_neg (by rw [zi_inj (by omega) (by omega)]; omega), zw_self, if_neg (by rw [zi_inj (by omega) (by omega)]; omega), zw_s0]
  rfl
theorem m176f0 {c : Int32} : zev X 176 0 [.ref 168, .int (zi 0), .int c] [] (zHP (zrow (zth D 0) 172 s) O, k) = some (.inl (some (.int (zi 0))), (zHP (zrow (zth D 0) 172 s) O, k)) := m176f (zth_0 D 0)
theorem m176t0 {c : Nat} (h1 : 0 < c) (h2 : c < 2147483648) : zev X 176 0 [.ref 168, .int (zi 1), .int (zi c)] [] (zHP (zrow (zth D 0) 172 s) O, k) = some (.inl (some (.int (zi 1))), (zHP (zrow (zth D c) 172 s) O, k)) := by
  rw [m176t (zth_0 D 0) h1 h2, zth_th]
theorem m199 (h : D 168 1 = zi 1) : zev X 199 0 [.ref 168] [] (zHP (zrow D 172 s) O, k) = some (.inl (some (.int (zi 0))), (zHP (zrow (zth D 0) 172 s) O, k)) := by
  rw [b199_0, zw_s0, zl_0]
  change (if zrow (zth D 0) 172 s 168 1 = zi 0 then _ else zcon (zev X 176 0 [.ref 168, .int (zi 0), .int (1 : Int32)] [] (zHP (zrow (zth D 0) 172 s) O, k)) _) = _
  rw [e168s, zth_f (by omega), h, if_neg (by rw [zi_inj (by omega) (by omega)]; omega), m176f (zth_0 D 0), zcon_inl]
  change zev X 199 22 [_] [_] _ = _
  exact b199_22.trans (if_pos (Or.inl rfl))
theorem m199n (h : D 168 1 = zi 0) : zev X 199 0 [.ref 168] [] (zHP (zrow D 172 s) O, k) = some (.inl (some (.int (zi 1))), (zHP (zrow (zth D 1) 172 s) O, k)) := by
  rw [b199_0, zw_s0, zl_0]
  change (if zrow (zth D 0) 172 s 168 1 = zi 0 then zcon (zev X 176 0 [.ref 168, .int (zi 1), .int (zi 1)] [] (zHP (zrow (zth D 0) 172 s) O, k)) _ else _) = _
  rw [e168s, zth_f (by omega), h, if_pos rfl, m176t (zth_0 D 0) (by omega) (by omega), zcon_inl, zth_th]
  change zev X 199 22 [_] [_] _ = _
  exact b199_22.trans (if_pos (Or.inr rfl))
theorem e168th {c : Nat} : zrow (zth D c) 172 s 168 7 = D 168 7 := by rw [e168s, zth_f (by omega)]
theorem m224 {q n : Nat} (h : D 168 7 = zi n) (hq : q < n) (hn : n < 2147483648) : zev X 224 0 [.ref 168, .int (zi q)] [] (zHP (zrow D 172 s) O, k) = some (.inl (some (.int (zi 1))), (zHP (zrow D 172 s) O, k)) := by
  rw [b224_0, e168s, h, zl_0, zl_1, m175y hq hn, zcon_inl]
  change zev X 224 11 _ [_] _ = _
  exact b224_11.trans (if_pos (Or.inr rfl))
theorem m224n {a : Int32} {n : Nat} (h : D 168 7 = zi n) (ha : a < zi 0 ∨ ¬ a < zi n) (hn : n < 2147483648) : zev X 224 0 [.ref 168, .int a] [] (zHP (zrow D 172 s) O, k) = some (.inl (some (.int (zi 0))), (zHP (zrow D 172 s) O, k)) := by
  rw [b224_0, e168s, h, zl_0, zl_1, m175x ha hn, zcon_inl]
  change zev X 224 11 _ [_] _ = _
  exact b224_11.trans (if_pos (Or.inl rfl))
theorem m229 {p g : Nat} (I : zIv T) (S : zRs D T) (hp : p < sNp T) (hg : g < sPgs T p) : zev X 229 0 [.ref 168, .int (zi p), .int (zi g)] [] (zHP (zrow D 172 s) O, k) = some (.inl (some (.int (zi 1))), (zHP (zrow D 172 s) O, k)) := by
  have n2 := zIv_np6 I
  obtain ⟨g1, g2⟩ := zIv_pg I (p := p) (by omega)
  have h6 : ¬ 6 ≤ p := by omega
  have e1 := m224 (X := X) (s := s) (O := O) (k := k) (S.1.1.trans (zIv_np I)) hp (by omega)
  have e2 := m175y (X := X) (D := zrow D 172 s) (O := O) (k := k) hg (by omega)
  simp (disch := first | assumption | omega) only [b229_0, b229_5, b229_21, ↓zn_l, zl_0, zl_1, zl_2, zl_3, zl_4, zl_5, zl_6, zl_7, zl_8, zl_9, zl_10, zl_11, zl_12, zl_13, zl_14, zl_15, zl_16, zl_17, zl_18, zl_19, zl_20, zl_21, zl_22, zl_23, zl_24, zl_25, zl_26, zl_27, zl_28, zl_29, zl_30, zl_31, zl_32, zl_36, zl_46, zl_48, zl_50, zl_57, zl_63, zl_64, zl_72, zl_97, zl_99, zl_100, zl_101, zl_122, zl_127, zl_200, zl_255, zl_406, zl_534, zl_540, zl_600, zl_9999, zl_33, zl_34, zl_35, zl_37, zl_38, zl_39, zl_40, zl_41, zl_42, zl_43, zl_44, zl_45, zl_47, zl_49, zl_52, zl_53, zl_54, zl_55, zl_58, zl_59, zl_60, zl_61, zl_62, zl_65, zl_70, zl_71, zl_98, zl_102, zl_103, zl_104, zl_105, zl_110, zl_111, zl_115, zl_120, zl_123, zl_126, zl_128, zl_256, zl_1000, zl_1024, zcon_inl, zcon_inr, Option.toList_some, Option.toList_none, List.cons_append, List.nil_append, List.append_nil, Nat.add_zero, zbind_some, zi_toNat, zi_lt, zi_inj, zi_add, zi_mul, zi_ne_zn, zn_ne_zi, zn_lt_zi, zi_lt_zn, Nat.not_lt_zero, false_or, if_true, if_false, true_or, or_false, Nat.reduceEqDiff, eq_self, e1, e170s, S.2.1 p hp, g1, h6, e2]
theorem m229n1 {a b : Int32} (I : zIv T) (S : zRs D T) (ha : a < zi 0 ∨ ¬ a < zi (sNp T)) : zev X 229 0 [.ref 168, .int a, .int b] [] (zHP (zrow D 172 s) O, k) = some (.inl (some (.int (zi 0))), (zHP (zrow D 172 s) O, k)) := by
  have n2 := zIv_np6 I
  have e1 := m224n (X := X) (s := s) (O := O) (k := k) (S.1.1.trans (zIv_np I)) ha (by omega)
  simp (disch := first | assumption | omega) only [b229_0, b229_5, b229_21, ↓zn_l, zl_0, zl_1, zl_2, zl_3, zl_4, zl_5, zl_6, zl_7, zl_8, zl_9, zl_10, zl_11, zl_12, zl_13, zl_14, zl_15, zl_16, zl_17, zl_18, zl_19, zl_20, zl_21, zl_22, zl_23, zl_24, zl_25, zl_26, zl_27, zl_28, zl_29, zl_30, zl_31, zl_32, zl_36, zl_46, zl_48, zl_50, zl_57, zl_63, zl_64, zl_72, zl_97, zl_99, zl_100, zl_101, zl_122, zl_127, zl_200, zl_255, zl_406, zl_534, zl_540, zl_600, zl_9999, zl_33, zl_34, zl_35, zl_37, zl_38, zl_39, zl_40, zl_41, zl_42, zl_43, zl_44, zl_45, zl_47, zl_49, zl_52, zl_53, zl_54, zl_55, zl_58, zl_59, zl_60, zl_61, zl_62, zl_65, zl_70, zl_71, zl_98, zl_102, zl_103, zl_104, zl_105, zl_110, zl_111, zl_115, zl_120, zl_123, zl_126, zl_128, zl_256, zl_1000, zl_1024, zcon_inl, zcon_inr, Option.toList_some, Option.toList_none, List.cons_append, List.nil_append, List.append_nil, Nat.add_zero, zbind_some, zi_toNat, zi_lt, zi_inj, zi_add, zi_mul, zi_ne_zn, zn_ne_zi, zn_lt_zi, zi_lt_zn, Nat.not_lt_zero, false_or, if_true, if_false, true_or, or_false, Nat.reduceEqDiff, eq_self, e1]
theorem m229n2 {p : Nat} {b : Int32} (I : zIv T) (S : zRs D T) (hp : p < sNp T) (hb : b < zi 0 ∨ ¬ b < zi (sPgs T p)) : zev X 229 0 [.ref 168, .int (zi p), .int b] [] (zHP (zrow D 172 s) O, k) = some (.inl (some (.int (zi 0))), (zHP (zrow D 172 s) O, k)) := by
  have n2 := zIv_np6 I
  obtain ⟨g1, g2⟩ := zIv_pg I (p := p) (by omega)
  have h6 : ¬ 6 ≤ p := by omega
  have e1 := m224 (X := X) (s := s) (O := O) (k := k) (S.1.1.trans (zIv_np I)) hp (by omega)
  have e2 := m175x (X := X) (D := zrow D 172 s) (O := O) (k := k) hb (by omega)
  simp (disch := first | assumption | omega) only [b229_0, b229_5, b229_21, ↓zn_l, zl_0, zl_1, zl_2, zl_3, zl_4, zl_5, zl_6, zl_7, zl_8, zl_9, zl_10, zl_11, zl_12, zl_13, zl_14, zl_15, zl_16, zl_17, zl_18, zl_19, zl_20, zl_21, zl_22, zl_23, zl_24, zl_25, zl_26, zl_27, zl_28, zl_29, zl_30, zl_31, zl_32, zl_36, zl_46, zl_48, zl_50, zl_57, zl_63, zl_64, zl_72, zl_97, zl_99, zl_100, zl_101, zl_122, zl_127, zl_200, zl_255, zl_406, zl_534, zl_540, zl_600, zl_9999, zl_33, zl_34, zl_35, zl_37, zl_38, zl_39, zl_40, zl_41, zl_42, zl_43, zl_44, zl_45, zl_47, zl_49, zl_52, zl_53, zl_54, zl_55, zl_58, zl_59, zl_60, zl_61, zl_62, zl_65, zl_70, zl_71, zl_98, zl_102, zl_103, zl_104, zl_105, zl_110, zl_111, zl_115, zl_120, zl_123, zl_126, zl_128, zl_256, zl_1000, zl_1024, zcon_inl, zcon_inr, Option.toList_some, Option.toList_none, List.cons_append, List.nil_append, List.append_nil, Nat.add_zero, zbind_some, zi_toNat, zi_lt, zi_inj, zi_add, zi_mul, zi_ne_zn, zn_ne_zi, zn_lt_zi, zi_lt_zn, Nat.not_lt_zero, false_or, if_true, if_false, true_or, or_false, Nat.reduceEqDiff, eq_self, e1, e170s, S.2.1 p hp, g1, h6, e2]
theorem m223 {p : Nat} (I : zIv T) (S : zRs D T) (h : D 168 1 = zi 1) (hp : p < sNp T) : zev X 223 0 [.ref 168, .int (zi p)] [] (zHP (zrow D 172 s) O, k) = some (.inl (some (.int (zi 0))), (zHP (zrow (zth D 0) 172 s) O, k)) := by
  have n2 := zIv_np6 I
  have e1 := m224 (X := X) (s := s) (O := O) (k := k) ((zRs_th (c := 0) S).1.1.trans (zIv_np I)) hp (by omega)
  simp (disch := first | assumption | omega) only [b223_0, b223_4, b223_13, b223_25, ↓zn_l, zl_0, zl_1, zl_2, zl_3, zl_4, zl_5, zl_6, zl_7, zl_8, zl_9, zl_10, zl_11, zl_12, zl_13, zl_14, zl_15, zl_16, zl_17, zl_18, zl_19, zl_20, zl_21, zl_22, zl_23, zl_24, zl_25, zl_26, zl_27, zl_28, zl_29, zl_30, zl_31, zl_32, zl_36, zl_46, zl_48, zl_50, zl_57, zl_63, zl_64, zl_72, zl_97, zl_99, zl_100, zl_101, zl_122, zl_127, zl_200, zl_255, zl_406, zl_534, zl_540, zl_600, zl_9999, zl_33, zl_34, zl_35, zl_37, zl_38, zl_39, zl_40, zl_41, zl_42, zl_43, zl_44, zl_45, zl_47, zl_49, zl_52, zl_53, zl_54, zl_55, zl_58, zl_59, zl_60, zl_61, zl_62, zl_65, zl_70, zl_71, zl_98, zl_102, zl_103, zl_104, zl_105, zl_110, zl_111, zl_115, zl_120, zl_123, zl_126, zl_128, zl_256, zl_1000, zl_1024, zcon_inl, zcon_inr, Option.toList_some, Option.toList_none, List.cons_append, List.nil_append, List.append_nil, Nat.add_zero, zbind_some, zi_toNat, zi_lt, zi_inj, zi_add, zi_mul, zi_ne_zn, zn_ne_zi, zn_lt_zi, zi_lt_zn, Nat.not_lt_zero, false_or, if_true, if_false, true_or, or_false, Nat.reduceEqDiff, eq_self, m199, h, e1, m176f0]
theorem m223n1 {a : Int32} (h : D 168 1 = zi 0) : zev X 223 0 [.ref 168, .int a] [] (zHP (zrow D 172 s) O, k) = some (.inl (some (.int (zi 1))), (zHP (zrow (zth D 1) 172 s) O, k)) := by
  simp (disch := first | assumption | omega) only [b223_0, b223_4, b223_13, b223_25, ↓zn_l, zl_0, zl_1, zl_2, zl_3, zl_4, zl_5, zl_6, zl_7, zl_8, zl_9, zl_10, zl_11, zl_12, zl_13, zl_14, zl_15, zl_16, zl_17, zl_18, zl_19, zl_20, zl_21, zl_22, zl_23, zl_24, zl_25, zl_26, zl_27, zl_28, zl_29, zl_30, zl_31, zl_32, zl_36, zl_46, zl_48, zl_50, zl_57, zl_63, zl_64, zl_72, zl_97, zl_99, zl_100, zl_101, zl_122, zl_127, zl_200, zl_255, zl_406, zl_534, zl_540, zl_600, zl_9999, zl_33, zl_34, zl_35, zl_37, zl_38, zl_39, zl_40, zl_41, zl_42, zl_43, zl_44, zl_45, zl_47, zl_49, zl_52, zl_53, zl_54, zl_55, zl_58, zl_59, zl_60, zl_61, zl_62, zl_65, zl_70, zl_71, zl_98, zl_102, zl_103, zl_104, zl_105, zl_110, zl_111, zl_115, zl_120, zl_123, zl_126, zl_128, zl_256, zl_1000, zl_1024, zcon_inl, zcon_inr, Option.toList_some, Option.toList_none, List.cons_append, List.nil_append, List.append_nil, Nat.add_zero, zbind_some, zi_toNat, zi_lt, zi_inj, zi_add, zi_mul, zi_ne_zn, zn_ne_zi, zn_lt_zi, zi_lt_zn, Nat.not_lt_zero, false_or, if_true, if_false, true_or, or_false, Nat.reduceEqDiff, eq_self, m199n, h]
theorem m223n2 {a : Int32} (I : zIv T) (S : zRs D T) (h : D 168 1 = zi 1) (ha : a < zi 0 ∨ ¬ a < zi (sNp T)) : zev X 223 0 [.ref 168, .int a] [] (zHP (zrow D 172 s) O, k) = some (.inl (some (.int (zi 1))), (zHP (zrow (zth D 2) 172 s) O, k)) := by
  have n2 := zIv_np6 I
  have e1 := m224n (X := X) (s := s) (O := O) (k := k) ((zRs_th (c := 0) S).1.1.trans (zIv_np I)) ha (by omega)
  simp (disch := first | assumption | omega) only [b223_0, b223_4, b223_13, b223_25, ↓zn_l, zl_0, zl_1, zl_2, zl_3, zl_4, zl_5, zl_6, zl_7, zl_8, zl_9, zl_10, zl_11, zl_12, zl_13, zl_14, zl_15, zl_16, zl_17, zl_18, zl_19, zl_20, zl_21, zl_22, zl_23, zl_24, zl_25, zl_26, zl_27, zl_28, zl_29, zl_30, zl_31, zl_32, zl_36, zl_46, zl_48, zl_50, zl_57, zl_63, zl_64, zl_72, zl_97, zl_99, zl_100, zl_101, zl_122, zl_127, zl_200, zl_255, zl_406, zl_534, zl_540, zl_600, zl_9999, zl_33, zl_34, zl_35, zl_37, zl_38, zl_39, zl_40, zl_41, zl_42, zl_43, zl_44, zl_45, zl_47, zl_49, zl_52, zl_53, zl_54, zl_55, zl_58, zl_59, zl_60, zl_61, zl_62, zl_65, zl_70, zl_71, zl_98, zl_102, zl_103, zl_104, zl_105, zl_110, zl_111, zl_115, zl_120, zl_123, zl_126, zl_128, zl_256, zl_1000, zl_1024, zcon_inl, zcon_inr, Option.toList_some, Option.toList_none, List.cons_append, List.nil_append, List.append_nil, Nat.add_zero, zbind_some, zi_toNat, zi_lt, zi_inj, zi_add, zi_mul, zi_ne_zn, zn_ne_zi, zn_lt_zi, zi_lt_zn, Nat.not_lt_zero, false_or, if_true, if_false, true_or, or_false, Nat.reduceEqDiff, eq_self, m199, h, e1, m176t0]
theorem m228 {p g : Nat} (I : zIv T) (S : zRs D T) (h : D 168 1 = zi 1) (hp : p < sNp T) (hg : g < sPgs T p) : zev X 228 0 [.ref 168, .int (zi p), .int (zi g)] [] (zHP (zrow D 172 s) O, k) = some (.inl (some (.int (zi 0))), (zHP (zrow (zth D 0) 172 s) O, k)) := by
  have e1 := m229 (X := X) (s := s) (O := O) (k := k) I (zRs_th (c := 0) S) hp hg
  simp (disch := first | assumption | omega) only [b228_0, b228_4, b228_14, b228_26, ↓zn_l, zl_0, zl_1, zl_2, zl_3, zl_4, zl_5, zl_6, zl_7, zl_8, zl_9, zl_10, zl_11, zl_12, zl_13, zl_14, zl_15, zl_16, zl_17, zl_18, zl_19, zl_20, zl_21, zl_22, zl_23, zl_24, zl_25, zl_26, zl_27, zl_28, zl_29, zl_30, zl_31, zl_32, zl_36, zl_46, zl_48, zl_50, zl_57, zl_63, zl_64, zl_72, zl_97, zl_99, zl_100, zl_101, zl_122, zl_127, zl_200, zl_255, zl_406, zl_534, zl_540, zl_600, zl_9999, zl_33, zl_34, zl_35, zl_37, zl_38, zl_39, zl_40, zl_41, zl_42, zl_43, zl_44, zl_45, zl_47, zl_49, zl_52, zl_53, zl_54, zl_55, zl_58, zl_59, zl_60, zl_61, zl_62, zl_65, zl_70, zl_71, zl_98, zl_102, zl_103, zl_104, zl_105, zl_110, zl_111, zl_115, zl_120, zl_123, zl_126, zl_128, zl_256, zl_1000, zl_1024, zcon_inl, zcon_inr, Option.toList_some, Option.toList_none, List.cons_append, List.nil_append, List.append_nil, Nat.add_zero, zbind_some, zi_toNat, zi_lt, zi_inj, zi_add, zi_mul, zi_ne_zn, zn_ne_zi, zn_lt_zi, zi_lt_zn, Nat.not_lt_zero, false_or, if_true, if_false, true_or, or_false, Nat.reduceEqDiff, eq_self, m199, h, e1, m176f0]
theorem m228n1 {a b : Int32} (h : D 168 1 = zi 0) : zev X 228 0 [.ref 168, .int a, .int b] [] (zHP (zrow D 172 s) O, k) = some (.inl (some (.int (zi 1))), (zHP (zrow (zth D 1) 172 s) O, k)) := by
  simp (disch := first | assumption | omega) only [b228_0, b228_4, b228_14, b228_26, ↓zn_l, zl_0, zl_1, zl_2, zl_3, zl_4, zl_5, zl_6, zl_7, zl_8, zl_9, zl_10, zl_11, zl_12, zl_13, zl_14, zl_15, zl_16, zl_17, zl_18, zl_19, zl_20, zl_21, zl_22, zl_23, zl_24, zl_25, zl_26, zl_27, zl_28, zl_29, zl_30, zl_31, zl_32, zl_36, zl_46, zl_48, zl_50, zl_57, zl_63, zl_64, zl_72, zl_97, zl_99, zl_100, zl_101, zl_122, zl_127, zl_200, zl_255, zl_406, zl_534, zl_540, zl_600, zl_9999, zl_33, zl_34, zl_35, zl_37, zl_38, zl_39, zl_40, zl_41, zl_42, zl_43, zl_44, zl_45, zl_47, zl_49, zl_52, zl_53, zl_54, zl_55, zl_58, zl_59, zl_60, zl_61, zl_62, zl_65, zl_70, zl_71, zl_98, zl_102, zl_103, zl_104, zl_105, zl_110, zl_111, zl_115, zl_120, zl_123, zl_126, zl_128, zl_256, zl_1000, zl_1024, zcon_inl, zcon_inr, Option.toList_some, Option.toList_none, List.cons_append, List.nil_append, List.append_nil, Nat.add_zero, zbind_some, zi_toNat, zi_lt, zi_inj, zi_add, zi_mul, zi_ne_zn, zn_ne_zi, zn_lt_zi, zi_lt_zn, Nat.not_lt_zero, false_or, if_true, if_false, true_or, or_false, Nat.reduceEqDiff, eq_self, m199n, h]
theorem m228n2 {a b : Int32} (I : zIv T) (S : zRs D T) (h : D 168 1 = zi 1) (ha : a < zi 0 ∨ ¬ a < zi (sNp T)) : zev X 228 0 [.ref 168, .int a, .int b] [] (zHP (zrow D 172 s) O, k) = some (.inl (some (.int (zi 1))), (zHP (zrow (zth D 2) 172 s) O, k)) := by
  have e1 := m229n1 (X := X) (s := s) (O := O) (k := k) (b := b) I (zRs_th (c := 0) S) ha
  simp (disch := first | assumption | omega) only [b228_0, b228_4, b228_14, b228_26, ↓zn_l, zl_0, zl_1, zl_2, zl_3, zl_4, zl_5, zl_6, zl_7, zl_8, zl_9, zl_10, zl_11, zl_12, zl_13, zl_14, zl_15, zl_16, zl_17, zl_18, zl_19, zl_20, zl_21, zl_22, zl_23, zl_24, zl_25, zl_26, zl_27, zl_28, zl_29, zl_30, zl_31, zl_32, zl_36, zl_46, zl_48, zl_50, zl_57, zl_63, zl_64, zl_72, zl_97, zl_99, zl_100, zl_101, zl_122, zl_127, zl_200, zl_255, zl_406, zl_534, zl_540, zl_600, zl_9999, zl_33, zl_34, zl_35, zl_37, zl_38, zl_39, zl_40, zl_41, zl_42, zl_43, zl_44, zl_45, zl_47, zl_49, zl_52, zl_53, zl_54, zl_55, zl_58, zl_59, zl_60, zl_61, zl_62, zl_65, zl_70, zl_71, zl_98, zl_102, zl_103, zl_104, zl_105, zl_110, zl_111, zl_115, zl_120, zl_123, zl_126, zl_128, zl_256, zl_1000, zl_1024, zcon_inl, zcon_inr, Option.toList_some, Option.toList_none, List.cons_append, List.nil_append, List.append_nil, Nat.add_zero, zbind_some, zi_toNat, zi_lt, zi_inj, zi_add, zi_mul, zi_ne_zn, zn_ne_zi, zn_lt_zi, zi_lt_zn, Nat.not_lt_zero, false_or, if_true, if_false, true_or, or_false, Nat.reduceEqDiff, eq_self, m199, h, e1, m176t0]
theorem m228n3 {p : Nat} {b : Int32} (I : zIv T) (S : zRs D T) (h : D 168 1 = zi 1) (hp : p < sNp T) (hb : b < zi 0 ∨ ¬ b < zi (sPgs T p)) : zev X 228 0 [.ref 168, .int (zi p), .int b] [] (zHP (zrow D 172 s) O, k) = some (.inl (some (.int (zi 1))), (zHP (zrow (zth D 2) 172 s) O, k)) := by
  have e1 := m229n2 (X := X) (s := s) (O := O) (k := k) I (zRs_th (c := 0) S) hp hb
  simp (disch := first | assumption | omega) only [b228_0, b228_4, b228_14, b228_26, ↓zn_l, zl_0, zl_1, zl_2, zl_3, zl_4, zl_5, zl_6, zl_7, zl_8, zl_9, zl_10, zl_11, zl_12, zl_13, zl_14, zl_15, zl_16, zl_17, zl_18, zl_19, zl_20, zl_21, zl_22, zl_23, zl_24, zl_25, zl_26, zl_27, zl_28, zl_29, zl_30, zl_31, zl_32, zl_36, zl_46, zl_48, zl_50, zl_57, zl_63, zl_64, zl_72, zl_97, zl_99, zl_100, zl_101, zl_122, zl_127, zl_200, zl_255, zl_406, zl_534, zl_540, zl_600, zl_9999, zl_33, zl_34, zl_35, zl_37, zl_38, zl_39, zl_40, zl_41, zl_42, zl_43, zl_44, zl_45, zl_47, zl_49, zl_52, zl_53, zl_54, zl_55, zl_58, zl_59, zl_60, zl_61, zl_62, zl_65, zl_70, zl_71, zl_98, zl_102, zl_103, zl_104, zl_105, zl_110, zl_111, zl_115, zl_120, zl_123, zl_126, zl_128, zl_256, zl_1000, zl_1024, zcon_inl, zcon_inr, Option.toList_some, Option.toList_none, List.cons_append, List.nil_append, List.append_nil, Nat.add_zero, zbind_some, zi_toNat, zi_lt, zi_inj, zi_add, zi_mul, zi_ne_zn, zn_ne_zi, zn_lt_zi, zi_lt_zn, Nat.not_lt_zero, false_or, if_true, if_false, true_or, or_false, Nat.reduceEqDiff, eq_self, m199, h, e1, m176t0]
theorem m236 {q : Nat} (h : D 168 1 = zi 1) (h1 : 1 ≤ q) (h2 : q ≤ 72) : zev X 236 0 [.ref 168, .int (zi q)] [] (zHP (zrow D 172 s) O, k) = some (.inl (some (.int (zi 0))), (zHP (zrow (zth D 0) 172 s) O, k)) := by
  simp (disch := first | assumption | omega) only [b236_0, b236_4, b236_15, b236_27, ↓zn_l, zl_0, zl_1, zl_2, zl_3, zl_4, zl_5, zl_6, zl_7, zl_8, zl_9, zl_10, zl_11, zl_12, zl_13, zl_14, zl_15, zl_16, zl_17, zl_18, zl_19, zl_20, zl_21, zl_22, zl_23, zl_24, zl_25, zl_26, zl_27, zl_28, zl_29, zl_30, zl_31, zl_32, zl_36, zl_46, zl_48, zl_50, zl_57, zl_63, zl_64, zl_72, zl_97, zl_99, zl_100, zl_101, zl_122, zl_127, zl_200, zl_255, zl_406, zl_534, zl_540, zl_600, zl_9999, zl_33, zl_34, zl_35, zl_37, zl_38, zl_39, zl_40, zl_41, zl_42, zl_43, zl_44, zl_45, zl_47, zl_49, zl_52, zl_53, zl_54, zl_55, zl_58, zl_59, zl_60, zl_61, zl_62, zl_65, zl_70, zl_71, zl_98, zl_102, zl_103, zl_104, zl_105, zl_110, zl_111, zl_115, zl_120, zl_123, zl_126, zl_128, zl_256, zl_1000, zl_1024, zcon_inl, zcon_inr, Option.toList_some, Option.toList_none, List.cons_append, List.nil_append, List.append_nil, Nat.add_zero, zbind_some, zi_toNat, zi_lt, zi_inj, zi_add, zi_mul, zi_ne_zn, zn_ne_zi, zn_lt_zi, zi_lt_zn, Nat.not_lt_zero, false_or, if_true, if_false, true_or, or_false, Nat.reduceEqDiff, eq_self, m199, h, m175z, m176f0]
theorem m236n1 {a : Int32} (h : D 168 1 = zi 0) : zev X 236 0 [.ref 168, .int a] [] (zHP (zrow D 172 s) O, k) = some (.inl (some (.int (zi 1))), (zHP (zrow (zth D 1) 172 s) O, k)) := by
  simp (disch := first | assumption | omega) only [b236_0, b236_4, b236_15, b236_27, ↓zn_l, zl_0, zl_1, zl_2, zl_3, zl_4, zl_5, zl_6, zl_7, zl_8, zl_9, zl_10, zl_11, zl_12, zl_13, zl_14, zl_15, zl_16, zl_17, zl_18, zl_19, zl_20, zl_21, zl_22, zl_23, zl_24, zl_25, zl_26, zl_27, zl_28, zl_29, zl_30, zl_31, zl_32, zl_36, zl_46, zl_48, zl_50, zl_57, zl_63, zl_64, zl_72, zl_97, zl_99, zl_100, zl_101, zl_122, zl_127, zl_200, zl_255, zl_406, zl_534, zl_540, zl_600, zl_9999, zl_33, zl_34, zl_35, zl_37, zl_38, zl_39, zl_40, zl_41, zl_42, zl_43, zl_44, zl_45, zl_47, zl_49, zl_52, zl_53, zl_54, zl_55, zl_58, zl_59, zl_60, zl_61, zl_62, zl_65, zl_70, zl_71, zl_98, zl_102, zl_103, zl_104, zl_105, zl_110, zl_111, zl_115, zl_120, zl_123, zl_126, zl_128, zl_256, zl_1000, zl_1024, zcon_inl, zcon_inr, Option.toList_some, Option.toList_none, List.cons_append, List.nil_append, List.append_nil, Nat.add_zero, zbind_some, zi_toNat, zi_lt, zi_inj, zi_add, zi_mul, zi_ne_zn, zn_ne_zi, zn_lt_zi, zi_lt_zn, Nat.not_lt_zero, false_or, if_true, if_false, true_or, or_false, Nat.reduceEqDiff, eq_self, m199n, h]
theorem m236n2 {a : Int32} (h : D 168 1 = zi 1) (ha : a < zi 1 ∨ zi 72 < a) : zev X 236 0 [.ref 168, .int a] [] (zHP (zrow D 172 s) O, k) = some (.inl (some (.int (zi 1))), (zHP (zrow (zth D 2) 172 s) O, k)) := by
  simp (disch := first | assumption | omega) only [b236_0, b236_4, b236_15, b236_27, ↓zn_l, zl_0, zl_1, zl_2, zl_3, zl_4, zl_5, zl_6, zl_7, zl_8, zl_9, zl_10, zl_11, zl_12, zl_13, zl_14, zl_15, zl_16, zl_17, zl_18, zl_19, zl_20, zl_21, zl_22, zl_23, zl_24, zl_25, zl_26, zl_27, zl_28, zl_29, zl_30, zl_31, zl_32, zl_36, zl_46, zl_48, zl_50, zl_57, zl_63, zl_64, zl_72, zl_97, zl_99, zl_100, zl_101, zl_122, zl_127, zl_200, zl_255, zl_406, zl_534, zl_540, zl_600, zl_9999, zl_33, zl_34, zl_35, zl_37, zl_38, zl_39, zl_40, zl_41, zl_42, zl_43, zl_44, zl_45, zl_47, zl_49, zl_52, zl_53, zl_54, zl_55, zl_58, zl_59, zl_60, zl_61, zl_62, zl_65, zl_70, zl_71, zl_98, zl_102, zl_103, zl_104, zl_105, zl_110, zl_111, zl_115, zl_120, zl_123, zl_126, zl_128, zl_256, zl_1000, zl_1024, zcon_inl, zcon_inr, Option.toList_some, Option.toList_none, List.cons_append, List.nil_append, List.append_nil, Nat.add_zero, zbind_some, zi_toNat, zi_lt, zi_inj, zi_add, zi_mul, zi_ne_zn, zn_ne_zi, zn_lt_zi, zi_lt_zn, Nat.not_lt_zero, false_or, if_true, if_false, true_or, or_false, Nat.reduceEqDiff, eq_self, m199, h, m175w, m176t0]
theorem m247 {p g : Nat} (I : zIv T) (S : zRs D T) (R : zRd s T) (h : D 168 1 = zi 1) (hp : p < sNp T) (hg : g < sPgs T p) (he : sEnd T p = false) : zev X 247 0 [.ref 168, .int (zi p), .int (zi g)] [] (zHP (zrow D 172 s) O, k) = some (.inl (some (.int (zi 0))), (zHP (zrow (zth D 0) 172 s) O, k)) := by
  have e1 := m228 (X := X) (s := s) (O := O) (k := k) I S h hp hg
  have e2 := m202 (X := X) (D := zth D 0) (O := O) (k := k) I R hp
  rw [he, zb_f] at e2
  simp (disch := first | assumption | omega) only [b247_0, b247_6, b247_15, b247_19, ↓zn_l, zl_0, zl_1, zl_2, zl_3, zl_4, zl_5, zl_6, zl_7, zl_8, zl_9, zl_10, zl_11, zl_12, zl_13, zl_14, zl_15, zl_16, zl_17, zl_18, zl_19, zl_20, zl_21, zl_22, zl_23, zl_24, zl_25, zl_26, zl_27, zl_28, zl_29, zl_30, zl_31, zl_32, zl_36, zl_46, zl_48, zl_50, zl_57, zl_63, zl_64, zl_72, zl_97, zl_99, zl_100, zl_101, zl_122, zl_127, zl_200, zl_255, zl_406, zl_534, zl_540, zl_600, zl_9999, zl_33, zl_34, zl_35, zl_37, zl_38, zl_39, zl_40, zl_41, zl_42, zl_43, zl_44, zl_45, zl_47, zl_49, zl_52, zl_53, zl_54, zl_55, zl_58, zl_59, zl_60, zl_61, zl_62, zl_65, zl_70, zl_71, zl_98, zl_102, zl_103, zl_104, zl_105, zl_110, zl_111, zl_115, zl_120, zl_123, zl_126, zl_128, zl_256, zl_1000, zl_1024, zcon_inl, zcon_inr, Option.toList_some, Option.toList_none, List.cons_append, List.nil_append, List.append_nil, Nat.add_zero, zbind_some, zi_toNat, zi_lt, zi_inj, zi_add, zi_mul, zi_ne_zn, zn_ne_zi, zn_lt_zi, zi_lt_zn, Nat.not_lt_zero, false_or, if_true, if_false, true_or, or_false, Nat.reduceEqDiff, eq_self, e1, e2, m176f0]
theorem m247n1 {a b : Int32} (h : D 168 1 = zi 0) : zev X 247 0 [.ref 168, .int a, .int b] [] (zHP (zrow D 172 s) O, k) = some (.inl (some (.int (zi 1))), (zHP (zrow (zth D 1) 172 s) O, k)) := by
  have e1 := m228n1 (X := X) (s := s) (O := O) (k := k) (a := a) (b := b) h
  simp (disch := first | assumption | omega) only [b247_0, b247_6, b247_15, b247_19, ↓zn_l, zl_0, zl_1, zl_2, zl_3, zl_4, zl_5, zl_6, zl_7, zl_8, zl_9, zl_10, zl_11, zl_12, zl_13, zl_14, zl_15, zl_16, zl_17, zl_18, zl_19, zl_20, zl_21, zl_22, zl_23, zl_24, zl_25, zl_26, zl_27, zl_28, zl_29, zl_30, zl_31, zl_32, zl_36, zl_46, zl_48, zl_50, zl_57, zl_63, zl_64, zl_72, zl_97, zl_99, zl_100, zl_101, zl_122, zl_127, zl_200, zl_255, zl_406, zl_534, zl_540, zl_600, zl_9999, zl_33, zl_34, zl_35, zl_37, zl_38, zl_39, zl_40, zl_41, zl_42, zl_43, zl_44, zl_45, zl_47, zl_49, zl_52, zl_53, zl_54, zl_55, zl_58, zl_59, zl_60, zl_61, zl_62, zl_65, zl_70, zl_71, zl_98, zl_102, zl_103, zl_104, zl_105, zl_110, zl_111, zl_115, zl_120, zl_123, zl_126, zl_128, zl_256, zl_1000, zl_1024, zcon_inl, zcon_inr, Option.toList_some, Option.toList_none, List.cons_append, List.nil_append, List.append_nil, Nat.add_zero, zbind_some, zi_toNat, zi_lt, zi_inj, zi_add, zi_mul, zi_ne_zn, zn_ne_zi, zn_lt_zi, zi_lt_zn, Nat.not_lt_zero, false_or, if_true, if_false, true_or, or_false, Nat.reduceEqDiff, eq_self, e1]
theorem m247n2 {a b : Int32} (I : zIv T) (S : zRs D T) (h : D 168 1 = zi 1) (ha : a < zi 0 ∨ ¬ a < zi (sNp T)) : zev X 247 0 [.ref 168, .int a, .int b] [] (zHP (zrow D 172 s) O, k) = some (.inl (some (.int (zi 1))), (zHP (zrow (zth D 2) 172 s) O, k)) := by
  have e1 := m228n2 (X := X) (s := s) (O := O) (k := k) (b := b) I S h ha
  simp (disch := first | assumption | omega) only [b247_0, b247_6, b247_15, b247_19, ↓zn_l, zl_0, zl_1, zl_2, zl_3, zl_4, zl_5, zl_6, zl_7, zl_8, zl_9, zl_10, zl_11, zl_12, zl_13, zl_14, zl_15, zl_16, zl_17, zl_18, zl_19, zl_20, zl_21, zl_22, zl_23, zl_24, zl_25, zl_26, zl_27, zl_28, zl_29, zl_30, zl_31, zl_32, zl_36, zl_46, zl_48, zl_50, zl_57, zl_63, zl_64, zl_72, zl_97, zl_99, zl_100, zl_101, zl_122, zl_127, zl_200, zl_255, zl_406, zl_534, zl_540, zl_600, zl_9999, zl_33, zl_34, zl_35, zl_37, zl_38, zl_39, zl_40, zl_41, zl_42, zl_43, zl_44, zl_45, zl_47, zl_49, zl_52, zl_53, zl_54, zl_55, zl_58, zl_59, zl_60, zl_61, zl_62, zl_65, zl_70, zl_71, zl_98, zl_102, zl_103, zl_104, zl_105, zl_110, zl_111, zl_115, zl_120, zl_123, zl_126, zl_128, zl_256, zl_1000, zl_1024, zcon_inl, zcon_inr, Option.toList_some, Option.toList_none, List.cons_append, List.nil_append, List.append_nil, Nat.add_zero, zbind_some, zi_toNat, zi_lt, zi_inj, zi_add, zi_mul, zi_ne_zn, zn_ne_zi, zn_lt_zi, zi_lt_zn, Nat.not_lt_zero, false_or, if_true, if_false, true_or, or_false, Nat.reduceEqDiff, eq_self, e1]
theorem m247n3 {p : Nat} {b : Int32} (I : zIv T) (S : zRs D T) (h : D 168 1 = zi 1) (hp : p < sNp T) (hb : b < zi 0 ∨ ¬ b < zi (sPgs T p)) : zev X 247 0 [.ref 168, .int (zi p), .int b] [] (zHP (zrow D 172 s) O, k) = some (.inl (some (.int (zi 1))), (zHP (zrow (zth D 2) 172 s) O, k)) := by
  have e1 := m228n3 (X := X) (s := s) (O := O) (k := k) I S h hp hb
  simp (disch := first | assumption | omega) only [b247_0, b247_6, b247_15, b247_19, ↓zn_l, zl_0, zl_1, zl_2, zl_3, zl_4, zl_5, zl_6, zl_7, zl_8, zl_9, zl_10, zl_11, zl_12, zl_13, zl_14, zl_15, zl_16, zl_17, zl_18, zl_19, zl_20, zl_21, zl_22, zl_23, zl_24, zl_25, zl_26, zl_27, zl_28, zl_29, zl_30, zl_31, zl_32, zl_36, zl_46, zl_48, zl_50, zl_57, zl_63, zl_64, zl_72, zl_97, zl_99, zl_100, zl_101, zl_122, zl_127, zl_200, zl_255, zl_406, zl_534, zl_540, zl_600, zl_9999, zl_33, zl_34, zl_35, zl_37, zl_38, zl_39, zl_40, zl_41, zl_42, zl_43, zl_44, zl_45, zl_47, zl_49, zl_52, zl_53, zl_54, zl_55, zl_58, zl_59, zl_60, zl_61, zl_62, zl_65, zl_70, zl_71, zl_98, zl_102, zl_103, zl_104, zl_105, zl_110, zl_111, zl_115, zl_120, zl_123, zl_126, zl_128, zl_256, zl_1000, zl_1024, zcon_inl, zcon_inr, Option.toList_some, Option.toList_none, List.cons_append, List.nil_append, List.append_nil, Nat.add_zero, zbind_some, zi_toNat, zi_lt, zi_inj, zi_add, zi_mul, zi_ne_zn, zn_ne_zi, zn_lt_zi, zi_lt_zn, Nat.not_lt_zero, false_or, if_true, if_false, true_or, or_false, Nat.reduceEqDiff, eq_self, e1]
theorem m247n4 {p g : Nat} (I : zIv T) (S : zRs D T) (R : zRd s T) (h : D 168 1 = zi 1) (hp : p < sNp T) (hg : g < sPgs T p) (he : sEnd T p = true) : zev X 247 0 [.ref 168, .int (zi p), .int (zi g)] [] (zHP (zrow D 172 s) O, k) = some (.inl (some (.int (zi 1))), (zHP (zrow (zth D 3) 172 s) O, k)) := by
  have e1 := m228 (X := X) (s := s) (O := O) (k := k) I S h hp hg
  have e2 := m202 (X := X) (D := zth D 0) (O := O) (k := k) I R hp
  rw [he, zb_t] at e2
  simp (disch := first | assumption | omega) only [b247_0, b247_6, b247_15, b247_19, ↓zn_l, zl_0, zl_1, zl_2, zl_3, zl_4, zl_5, zl_6, zl_7, zl_8, zl_9, zl_10, zl_11, zl_12, zl_13, zl_14, zl_15, zl_16, zl_17, zl_18, zl_19, zl_20, zl_21, zl_22, zl_23, zl_24, zl_25, zl_26, zl_27, zl_28, zl_29, zl_30, zl_31, zl_32, zl_36, zl_46, zl_48, zl_50, zl_57, zl_63, zl_64, zl_72, zl_97, zl_99, zl_100, zl_101, zl_122, zl_127, zl_200, zl_255, zl_406, zl_534, zl_540, zl_600, zl_9999, zl_33, zl_34, zl_35, zl_37, zl_38, zl_39, zl_40, zl_41, zl_42, zl_43, zl_44, zl_45, zl_47, zl_49, zl_52, zl_53, zl_54, zl_55, zl_58, zl_59, zl_60, zl_61, zl_62, zl_65, zl_70, zl_71, zl_98, zl_102, zl_103, zl_104, zl_105, zl_110, zl_111, zl_115, zl_120, zl_123, zl_126, zl_128, zl_256, zl_1000, zl_1024, zcon_inl, zcon_inr, Option.toList_some, Option.toList_none, List.cons_append, List.nil_append, List.append_nil, Nat.add_zero, zbind_some, zi_toNat, zi_lt, zi_inj, zi_add, zi_mul, zi_ne_zn, zn_ne_zi, zn_lt_zi, zi_lt_zn, Nat.not_lt_zero, false_or, if_true, if_false, true_or, or_false, Nat.reduceEqDiff, eq_self, e1, e2, m176t0]
end
