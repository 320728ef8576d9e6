/-! The class's list of offers. -/
def zpos (p : Nat → Bool) : Nat → Nat
  | 0 => 0
  | q + 1 => if p q then zpos p q else q + 1
theorem zpos_le (p : Nat → Bool) : ∀ q, zpos p q ≤ q
  | 0 => Nat.le_refl _
  | q + 1 => by
    rw [zpos]
    split
    · exact Nat.le_trans (zpos_le p q) (by omega)
    · exact Nat.le_refl _
/-- an offer put behind the last one that it isn't ahead of -/
def zins (lt : Nat → Nat → Bool) (r : Nat) (l : List Nat) : List Nat := l.take (zpos (fun j => lt r (l.getD j 0)) l.length) ++ r :: l.drop (zpos (fun j => lt r (l.getD j 0)) l.length)
theorem zins_len (lt : Nat → Nat → Bool) (r : Nat) (l : List Nat) : (zins lt r l).length = l.length + 1 := by
  have := zpos_le (fun j => lt r (l.getD j 0)) l.length
  simp [zins]
  omega
theorem zins_mem {lt : Nat → Nat → Bool} {r x : Nat} {l : List Nat} (h : x ∈ zins lt r l) : x = r ∨ x ∈ l := by
  unfold zins at h
  rcases List.mem_append.mp h with h | h
  · exact Or.inr (List.mem_of_mem_take h)
  · rcases List.mem_cons.mp h with h | h
    · exact Or.inl h
    · exact Or.inr (List.mem_of_mem_drop h)
theorem zins_get {r : Nat} {l : List Nat} {q i x : Nat} (hq : q ≤ l.length) (h : (l.take q ++ r :: l.drop q)[i]? = some x) : (i < q ∧ l[i]? = some x) ∨ (i = q ∧ x = r) ∨ (q < i ∧ l[i - 1]? = some x) := by
  have hl : (l.take q).length = q := by simp; omega
  by_cases h1 : i < q
  · left
    rw [List.getElem?_append_left (by omega), List.getElem?_take_of_lt h1] at h
    exact ⟨h1, h⟩
  · rw [List.getElem?_append_right (by omega), hl] at h
    by_cases h2 : i = q
    · subst h2
      rw [Nat.sub_self] at h
      right; left
      exact ⟨rfl, by simpa using h.symm⟩
    · right; right
      obtain ⟨e, he⟩ : ∃ e, i - q = e + 1 := ⟨i - q - 1, by omega⟩
      rw [he, List.getElem?_cons_succ, List.getElem?_drop] at h
      refine ⟨by omega, ?_⟩
      rw [show i - 1 = q + e by omega]
      exact h
def sWo (T : ZD2) (r : Nat) : UInt32 := sWorth (T 2 (12 * (r / 12) + 4)) (sPrice T r)
def sBef (T : ZD2) (r : Nat) (w : UInt32) (r2 : Nat) (w2 : UInt32) : Bool := if Op.cmpValue (FP.fcmp w w2) .l = zi 0 then (if T 3 (5 * r + 1) = T 3 (5 * r2 + 1) then decide (r < r2) else decide (T 3 (5 * r + 1) < T 3 (5 * r2 + 1))) else decide (Op.cmpValue (FP.fcmp w w2) .g < zi 0)
def sBw (T : ZD2) (r r2 : Nat) : Bool := sBef T r (sWo T r) r2 (sWo T r2)
def zWok (T : ZD2) : Prop := ∀ r, r < 72 → sWo T r &&& 0x7fffffff ≤ 0x7f800000
def zOL (D T : ZD2) (l : List Nat) : Prop := D 165 2 = zi l.length ∧ (∀ i r, l[i]? = some r → D 166 i = zi r ∧ (D 167 i).toUInt32 = sWo T r) ∧ ∀ r, r ∈ l → r < 72
theorem zi_dec (q : Nat) : zi (q + 1) + zn = zi q := by
  rw [← zi_add, Int32.add_assoc, show zi 1 + zn = 0 by decide, Int32.add_zero]
section
variable {X : ZX} {D T : ZD2} {O : ZO2} {k : Nat × Nat × Nat} {m : Nat}
theorem c68 {i : Nat} (hi : i < 72) : zev X 68 0 [.ref 165, .int (zi i)] [] (zHP D O, k) = some (.inl (some (.int (D 166 i))), (zHP D O, k)) := by
  have h2 : ¬ 72 ≤ i := by omega
  simp (disch := first | assumption | omega) only [b68_0, ↓zn_l, zl_0, zl_1, zl_2, zl_3, zl_4, zl_5, zl_6, zl_7, zl_8, zl_9, zl_10, zl_11, zl_12, zl_13, zl_14, zl_15, zl_16, zl_17, zl_18, zl_19, zl_20, zl_21, zl_22, zl_23, zl_24, zl_25, zl_26, zl_27, zl_28, zl_29, zl_30, zl_31, zl_32, zl_36, zl_46, zl_48, zl_50, zl_57, zl_63, zl_64, zl_72, zl_97, zl_99, zl_100, zl_101, zl_122, zl_127, zl_200, zl_255, zl_406, zl_534, zl_540, zl_600, zl_9999, zl_33, zl_34, zl_35, zl_37, zl_38, zl_39, zl_40, zl_41, zl_42, zl_43, zl_44, zl_45, zl_47, zl_49, zl_52, zl_53, zl_54, zl_55, zl_58, zl_59, zl_60, zl_61, zl_62, zl_65, zl_70, zl_71, zl_98, zl_102, zl_103, zl_104, zl_105, zl_110, zl_111, zl_115, zl_120, zl_123, zl_126, zl_128, zl_256, zl_1000, zl_1024, zcon_inl, zcon_inr, Option.toList_some, Option.toList_none, List.cons_append, List.nil_append, List.append_nil, Nat.add_zero, zbind_some, zi_toNat, zi_lt, zi_inj, zi_add, zi_mul, zi_ne_zn, zn_ne_zi, zn_lt_zi, zi_lt_zn, Nat.not_lt_zero, false_or, if_true, if_false, true_or, or_false, hi, h2]
theorem c69 {i : Nat} (hi : i < 72) : zev X 69 0 [.ref 165, .int (zi i)] [] (zHP D O, k) = some (.inl (some (.float (D 167 i).toUInt32)), (zHP D O, k)) := by
  have h2 : ¬ 72 ≤ i := by omega
  simp (disch := first | assumption | omega) only [b69_0, ↓zn_l, zl_0, zl_1, zl_2, zl_3, zl_4, zl_5, zl_6, zl_7, zl_8, zl_9, zl_10, zl_11, zl_12, zl_13, zl_14, zl_15, zl_16, zl_17, zl_18, zl_19, zl_20, zl_21, zl_22, zl_23, zl_24, zl_25, zl_26, zl_27, zl_28, zl_29, zl_30, zl_31, zl_32, zl_36, zl_46, zl_48, zl_50, zl_57, zl_63, zl_64, zl_72, zl_97, zl_99, zl_100, zl_101, zl_122, zl_127, zl_200, zl_255, zl_406, zl_534, zl_540, zl_600, zl_9999, zl_33, zl_34, zl_35, zl_37, zl_38, zl_39, zl_40, zl_41, zl_42, zl_43, zl_44, zl_45, zl_47, zl_49, zl_52, zl_53, zl_54, zl_55, zl_58, zl_59, zl_60, zl_61, zl_62, zl_65, zl_70, zl_71, zl_98, zl_102, zl_103, zl_104, zl_105, zl_110, zl_111, zl_115, zl_120, zl_123, zl_126, zl_128, zl_256, zl_1000, zl_1024, zcon_inl, zcon_inr, Option.toList_some, Option.toList_none, List.cons_append, List.nil_append, List.append_nil, Nat.add_zero, zbind_some, zi_toNat, zi_lt, zi_inj, zi_add, zi_mul, zi_ne_zn, zn_ne_zi, zn_lt_zi, zi_lt_zn, Nat.not_lt_zero, false_or, if_true, if_false, true_or, or_false, hi, h2]
theorem c70 {i : Nat} {v : Int32} {w : UInt32} (hi : i < 72) : zev X 70 0 [.ref 165, .int (zi i), .int v, .float w] [] (zHP D O, k) = some (.inl none, (zHP (zw (zw D 166 i v) 167 i w.toInt32) O, k)) := by
  have h2 : ¬ 72 ≤ i := by omega
  simp (disch := first | assumption | omega) only [b70_0, ↓zn_l, zl_0, zl_1, zl_2, zl_3, zl_4, zl_5, zl_6, zl_7, zl_8, zl_9, zl_10, zl_11, zl_12, zl_13, zl_14, zl_15, zl_16, zl_17, zl_18, zl_19, zl_20, zl_21, zl_22, zl_23, zl_24, zl_25, zl_26, zl_27, zl_28, zl_29, zl_30, zl_31, zl_32, zl_36, zl_46, zl_48, zl_50, zl_57, zl_63, zl_64, zl_72, zl_97, zl_99, zl_100, zl_101, zl_122, zl_127, zl_200, zl_255, zl_406, zl_534, zl_540, zl_600, zl_9999, zl_33, zl_34, zl_35, zl_37, zl_38, zl_39, zl_40, zl_41, zl_42, zl_43, zl_44, zl_45, zl_47, zl_49, zl_52, zl_53, zl_54, zl_55, zl_58, zl_59, zl_60, zl_61, zl_62, zl_65, zl_70, zl_71, zl_98, zl_102, zl_103, zl_104, zl_105, zl_110, zl_111, zl_115, zl_120, zl_123, zl_126, zl_128, zl_256, zl_1000, zl_1024, zcon_inl, zcon_inr, Option.toList_some, Option.toList_none, List.cons_append, List.nil_append, List.append_nil, Nat.add_zero, zbind_some, zi_toNat, zi_lt, zi_inj, zi_add, zi_mul, zi_ne_zn, zn_ne_zi, zn_lt_zi, zi_lt_zn, Nat.not_lt_zero, false_or, if_true, if_false, true_or, or_false, hi, h2]
theorem c71 : zev X 71 0 [.ref 165] [] (zHP D O, k) = some (.inl (some (.int (D 165 2))), (zHP D O, k)) := b71_0
theorem c67 {r r2 i : Nat} {w : UInt32} (hm : zisM m) (hm65 : m + 12 < 165) (hr : r < 72) (hi : i < 72) (h2 : r2 < 72) (hD : D 166 i = zi r2) : zev X 67 0 [.ref 165, .ref m, .int (zi r), .float w, .int (zi i), zJ, zJ, zJ, zJ] [] (zHP (zmt D m T) O, k) = some (.inl (some (.int (zb (sBef T r w r2 (D 167 i).toUInt32)))), (zHP (zmt D m T) O, k)) := by
  have e1 : zmt D m T 166 i = zi r2 := by rw [zmt_o (by omega)]; exact hD
  have e2 : zmt D m T 167 = D 167 := zmt_o (by omega)
  simp (disch := first | assumption | omega) only [b67_0, c68, b67_6, c69, b67_14, e1, e2, ↓zn_l, zl_0, zl_1, zl_2, zl_3, zl_4, zl_5, zl_6, zl_7, zl_8, zl_9, zl_10, zl_11, zl_12, zl_13, zl_14, zl_15, zl_16, zl_17, zl_18, zl_19, zl_20, zl_21, zl_22, zl_23, zl_24, zl_25, zl_26, zl_27, zl_28, zl_29, zl_30, zl_31, zl_32, zl_36, zl_46, zl_48, zl_50, zl_57, zl_63, zl_64, zl_72, zl_97, zl_99, zl_100, zl_101, zl_122, zl_127, zl_200, zl_255, zl_406, zl_534, zl_540, zl_600, zl_9999, zl_33, zl_34, zl_35, zl_37, zl_38, zl_39, zl_40, zl_41, zl_42, zl_43, zl_44, zl_45, zl_47, zl_49, zl_52, zl_53, zl_54, zl_55, zl_58, zl_59, zl_60, zl_61, zl_62, zl_65, zl_70, zl_71, zl_98, zl_102, zl_103, zl_104, zl_105, zl_110, zl_111, zl_115, zl_120, zl_123, zl_126, zl_128, zl_256, zl_1000, zl_1024, zcon_inl, zcon_inr, Option.toList_some, Option.toList_none, List.cons_append, List.nil_append, List.append_nil, Nat.add_zero, zbind_some, tg3, b67_45, b67_57, zi_inj, zi_lt]
  unfold sBef
  by_cases h1 : Op.cmpValue (FP.fcmp w (D 167 i).toUInt32) .l = zi 0
  · by_cases h3 : T 3 (5 * r + 1) = T 3 (5 * r2 + 1)
    · by_cases h4 : r < r2 <;> simp [h1, h3, h4, zb]
    · by_cases h4 : T 3 (5 * r + 1) < T 3 (5 * r2 + 1) <;> simp [h1, h3, h4, zb]
  · by_cases h4 : Op.cmpValue (FP.fcmp w (D 167 i).toUInt32) .g < zi 0 <;> simp [h1, h4, zb]
/-- the places from q on were moved up by one -/
def zSh (D D' : ZD2) (n q : Nat) : Prop := (∀ a, a ≠ 166 → a ≠ 167 → D' a = D a) ∧ (∀ j, j < q → D' 166 j = D 166 j ∧ D' 167 j = D 167 j) ∧ ∀ j, q < j → j ≤ n → D' 166 j = D 166 (j - 1) ∧ D' 167 j = D 167 (j - 1)
theorem zSh_put {D D' : ZD2} {n q : Nat} (h : zSh D D' n (q + 1)) : zSh D (zw (zw D' 166 (q + 1) (D' 166 q)) 167 (q + 1) (D' 167 q)) n q := by
  obtain ⟨h1, h2, h3⟩ := h
  refine ⟨fun a ha hb => ?_, fun j hj => ?_, fun j hj hn => ?_⟩
  · rw [zw_row hb, zw_row ha, h1 a ha hb]
  · simp (disch := first | assumption | omega) only [zw_ne]
    exact h2 j (by omega)
  · by_cases e : j = q + 1
    · subst e
      simp (disch := first | assumption | omega) only [zw_ne, zw_self]
      exact h2 q (by omega)
    · simp (disch := first | assumption | omega) only [zw_ne]
      exact h3 j (by omega) hn
theorem c66loop {r : Nat} {l : List Nat} (hm : zisM m) (hm65 : m + 12 < 165) (hr : r < 72) (hl : l.length < 72) (hO : zOL D T l) : ∀ q, q ≤ l.length → ∀ D', zSh D D' l.length q → ∃ D'', zev X 66 17 [.ref 165, .ref m, .int (zi r), .float (sWo T r), .int (zi q)] [] (zHP (zmt D' m T) O, k) = some (.inl none, (zHP (zmt (zw D'' 165 2 (zi (l.length + 1))) m T) O, k)) ∧ zSh D D'' l.length (zpos (fun j => sBw T r (l.getD j 0)) q) ∧ D'' 166 (zpos (fun j => sBw T r (l.getD j 0)) q) = zi r ∧ (D'' 167 (zpos (fun j => sBw T r (l.getD j 0)) q)).toUInt32 = sWo T r := by
  have put : ∀ q, q ≤ l.length → ∀ D', zSh D D' l.length q → ∃ D'', (zcon (zev X 70 0 [.ref 165, .int (zi q), .int (zi r), .float (sWo T r)] [] (zHP (zmt D' m T) O, k)) fun v S' => zev X 66 72 [.ref 165, .ref m, .int (zi r), .float (sWo T r), .int (zi q)] (v.toList ++ []) S') = some (.inl none, (zHP (zmt (zw D'' 165 2 (zi (l.length + 1))) m T) O, k)) ∧ zSh D D'' l.length q ∧ D'' 166 q = zi r ∧ (D'' 167 q).toUInt32 = sWo T r := by
    intro q hq D' hS
    obtain ⟨h1, h2, h3⟩ := hS
    have hq72 : q < 72 := by omega
    refine ⟨zw (zw D' 166 q (zi r)) 167 q (sWo T r).toInt32, ?_, ⟨fun a ha hb => ?_, fun j hj => ?_, fun j hj hn => ?_⟩, ?_, ?_⟩
    · have e : zw (zw (zmt D' m T) 166 q (zi r)) 167 q (sWo T r).toInt32 = zmt (zw (zw D' 166 q (zi r)) 167 q (sWo T r).toInt32) m T := by rw [zw_Mo (by omega), zw_Mo (by omega)]
      have e5 : zmt (zw (zw D' 166 q (zi r)) 167 q (sWo T r).toInt32) m T 165 2 = zi l.length := by
        rw [zmt_o (by omega), zw_row (by omega), zw_row (by omega), h1 165 (by omega) (by omega)]
        exact hO.1
      simp (disch := first | assumption | omega) only [c70, ↓zn_l, zl_0, zl_1, zl_2, zl_3, zl_4, zl_5, zl_6, zl_7, zl_8, zl_9, zl_10, zl_11, zl_12, zl_13, zl_14, zl_15, zl_16, zl_17, zl_18, zl_19, zl_20, zl_21, zl_22, zl_23, zl_24, zl_25, zl_26, zl_27, zl_28, zl_29, zl_30, zl_31, zl_32, zl_36, zl_46, zl_48, zl_50, zl_57, zl_63, zl_64, zl_72, zl_97, zl_99, zl_100, zl_101, zl_122, zl_127, zl_200, zl_255, zl_406, zl_534, zl_540, zl_600, zl_9999, zl_33, zl_34, zl_35, zl_37, zl_38, zl_39, zl_40, zl_41, zl_42, zl_43, zl_44, zl_45, zl_47, zl_49, zl_52, zl_53, zl_54, zl_55, zl_58, zl_59, zl_60, zl_61, zl_62, zl_65, zl_70, zl_71, zl_98, zl_102, zl_103, zl_104, zl_105, zl_110, zl_111, zl_115, zl_120, zl_123, zl_126, zl_128, zl_256, zl_1000, zl_1024, zcon_inl, zcon_inr, Option.toList_some, Option.toList_none, List.cons_append, List.nil_append, List.append_nil, Nat.add_zero, zbind_some, e, b66_72, e5, zi_add]
      rw [zw_Mo (by omega)]
    · rw [zw_row hb, zw_row ha, h1 a ha hb]
    · simp (disch := first | assumption | omega) only [zw_ne]
      exact h2 j hj
    · simp (disch := first | assumption | omega) only [zw_ne]
      exact h3 j hj hn
    · simp (disch := first | assumption | omega) only [zw_ne, zw_self]
    · rw [zw_self]
      rfl
  intro q
  induction q with
  | zero =>
    intro hq D' hS
    obtain ⟨D'', e, e2⟩ := put 0 hq D' hS
    refine ⟨D'', ?_, e2⟩
    rw [← e]
    refine b66_17.trans ?_
    simp (disch := first | assumption | omega) only [↓zn_l, zl_0, zl_1, zl_2, zl_3, zl_4, zl_5, zl_6, zl_7, zl_8, zl_9, zl_10, zl_11, zl_12, zl_13, zl_14, zl_15, zl_16, zl_17, zl_18, zl_19, zl_20, zl_21, zl_22, zl_23, zl_24, zl_25, zl_26, zl_27, zl_28, zl_29, zl_30, zl_31, zl_32, zl_36, zl_46, zl_48, zl_50, zl_57, zl_63, zl_64, zl_72, zl_97, zl_99, zl_100, zl_101, zl_122, zl_127, zl_200, zl_255, zl_406, zl_534, zl_540, zl_600, zl_9999, zl_33, zl_34, zl_35, zl_37, zl_38, zl_39, zl_40, zl_41, zl_42, zl_43, zl_44, zl_45, zl_47, zl_49, zl_52, zl_53, zl_54, zl_55, zl_58, zl_59, zl_60, zl_61, zl_62, zl_65, zl_70, zl_71, zl_98, zl_102, zl_103, zl_104, zl_105, zl_110, zl_111, zl_115, zl_120, zl_123, zl_126, zl_128, zl_256, zl_1000, zl_1024, zi_lt, Nat.lt_irrefl, if_false]
  | succ q ih =>
    intro hq D' hS
    have hq72 : q < 72 := by omega
    have hq73 : q + 1 < 72 := by omega
    have hg : l[q]? = some (l.getD q 0) := by
      rw [List.getD_eq_getElem?_getD, List.getElem?_eq_getElem (by omega)]
      rfl
    obtain ⟨g1, g2⟩ := hO.2.1 q _ hg
    obtain ⟨s1, s2⟩ := hS.2.1 q (by omega)
    have g3 : l.getD q 0 < 72 := hO.2.2 _ (List.mem_of_getElem? hg)
    have e1 : zi (q + 1) - zi 1 = zi q := by rw [zi_sub (by omega) (by omega)]; rfl
    have e67 := @c67 X D' T O k m r (l.getD q 0) q (sWo T r) hm hm65 hr hq72 g3 (s1.trans g1)
    rw [s2, g2] at e67
    rw [zpos]
    cases hb : sBw T r (l.getD q 0)
    · have hb' : sBef T r (sWo T r) (l.getD q 0) (sWo T (l.getD q 0)) = false := hb
      obtain ⟨D'', e, e2⟩ := put (q + 1) hq D' hS
      simp only [Bool.false_eq_true, if_false]
      refine ⟨D'', ?_, e2⟩
      rw [← e]
      refine b66_17.trans ?_
      simp (disch := first | assumption | omega) only [↓zn_l, zl_0, zl_1, zl_2, zl_3, zl_4, zl_5, zl_6, zl_7, zl_8, zl_9, zl_10, zl_11, zl_12, zl_13, zl_14, zl_15, zl_16, zl_17, zl_18, zl_19, zl_20, zl_21, zl_22, zl_23, zl_24, zl_25, zl_26, zl_27, zl_28, zl_29, zl_30, zl_31, zl_32, zl_36, zl_46, zl_48, zl_50, zl_57, zl_63, zl_64, zl_72, zl_97, zl_99, zl_100, zl_101, zl_122, zl_127, zl_200, zl_255, zl_406, zl_534, zl_540, zl_600, zl_9999, zl_33, zl_34, zl_35, zl_37, zl_38, zl_39, zl_40, zl_41, zl_42, zl_43, zl_44, zl_45, zl_47, zl_49, zl_52, zl_53, zl_54, zl_55, zl_58, zl_59, zl_60, zl_61, zl_62, zl_65, zl_70, zl_71, zl_98, zl_102, zl_103, zl_104, zl_105, zl_110, zl_111, zl_115, zl_120, zl_123, zl_126, zl_128, zl_256, zl_1000, zl_1024, zi_lt, Nat.zero_lt_succ, if_true, e1, e67, hb', zb_f, zcon_inl, Option.toList_some, List.cons_append, List.nil_append, b66_33]
    · have hb' : sBef T r (sWo T r) (l.getD q 0) (sWo T (l.getD q 0)) = true := hb
      obtain ⟨D'', e, e2⟩ := ih (by omega) _ (zSh_put hS)
      simp only [if_true]
      refine ⟨D'', ?_, e2⟩
      rw [← e]
      refine b66_17.trans ?_
      have m6 : zmt D' m T 166 q = D' 166 q := by rw [zmt_o (by omega)]
      have m7 : zmt D' m T 167 q = D' 167 q := by rw [zmt_o (by omega)]
      have ew : zw (zw (zmt D' m T) 166 (q + 1) (D' 166 q)) 167 (q + 1) (D' 167 q).toUInt32.toInt32 = zmt (zw (zw D' 166 (q + 1) (D' 166 q)) 167 (q + 1) (D' 167 q)) m T := by rw [zw_Mo (by omega), zw_Mo (by omega)]; rfl
      simp (disch := first | assumption | omega) only [↓zn_l, zl_0, zl_1, zl_2, zl_3, zl_4, zl_5, zl_6, zl_7, zl_8, zl_9, zl_10, zl_11, zl_12, zl_13, zl_14, zl_15, zl_16, zl_17, zl_18, zl_19, zl_20, zl_21, zl_22, zl_23, zl_24, zl_25, zl_26, zl_27, zl_28, zl_29, zl_30, zl_31, zl_32, zl_36, zl_46, zl_48, zl_50, zl_57, zl_63, zl_64, zl_72, zl_97, zl_99, zl_100, zl_101, zl_122, zl_127, zl_200, zl_255, zl_406, zl_534, zl_540, zl_600, zl_9999, zl_33, zl_34, zl_35, zl_37, zl_38, zl_39, zl_40, zl_41, zl_42, zl_43, zl_44, zl_45, zl_47, zl_49, zl_52, zl_53, zl_54, zl_55, zl_58, zl_59, zl_60, zl_61, zl_62, zl_65, zl_70, zl_71, zl_98, zl_102, zl_103, zl_104, zl_105, zl_110, zl_111, zl_115, zl_120, zl_123, zl_126, zl_128, zl_256, zl_1000, zl_1024, zi_lt, Nat.zero_lt_succ, if_true, e1, e67, hb', zb_t, zcon_inl, Option.toList_some, Option.toList_none, List.cons_append, List.nil_append, b66_33, zi_inj, Nat.one_ne_zero, if_false, c68, b66_47, c69, b66_55, c70, m6, m7, ew, b66_58, zi_dec]
theorem zOL_zmt {D T : ZD2} {l : List Nat} {D' : ZD2} (h1 : D' 165 = D 165) (h2 : D' 166 = D 166) (h3 : D' 167 = D 167) (h : zOL D T l) : zOL D' T l := by
  unfold zOL
  rw [h1, h2, h3]
  exact h
theorem c66 {r : Nat} {l : List Nat} (hm : zisM m) (hm65 : m + 12 < 165) (hr : r < 72) (hl : l.length < 72) (hO : zOL D T l) (hz : zAt T r) (hw : zWok T) : ∃ D', zev X 66 0 [.ref 165, .ref m, .int (zi r), zJ, zJ] [] (zHP (zmt D m T) O, k) = some (.inl none, (zHP (zmt D' m T) O, k)) ∧ zOL D' T (zins (sBw T) r l) ∧ ∀ a, a ≠ 165 → a ≠ 166 → a ≠ 167 → D' a = D a := by
  obtain ⟨D'', e, ⟨h1, h2, h3⟩, h4, h5⟩ := c66loop (X := X) (O := O) (k := k) hm hm65 hr hl hO l.length (Nat.le_refl _) D ⟨fun _ _ _ => rfl, fun _ _ => ⟨rfl, rfl⟩, fun j hj hn => by omega⟩
  have hp := zpos_le (fun j => sBw T r (l.getD j 0)) l.length
  refine ⟨zw D'' 165 2 (zi (l.length + 1)), ?_, ⟨?_, ?_, ?_⟩, ?_⟩
  · have e5 : zmt D m T 165 2 = zi l.length := by rw [zmt_o (by omega)]; exact hO.1
    have e46 := @c46 X D T O k m r (sPrice T r) hm hr (hw r hr)
    change _ = some (Sum.inl (some (Value.float (sWo T r))), _) at e46
    simp (disch := first | assumption | omega) only [b66_0, c44, b66_7, e46, b66_10, e5, ↓zn_l, zl_0, zl_1, zl_2, zl_3, zl_4, zl_5, zl_6, zl_7, zl_8, zl_9, zl_10, zl_11, zl_12, zl_13, zl_14, zl_15, zl_16, zl_17, zl_18, zl_19, zl_20, zl_21, zl_22, zl_23, zl_24, zl_25, zl_26, zl_27, zl_28, zl_29, zl_30, zl_31, zl_32, zl_36, zl_46, zl_48, zl_50, zl_57, zl_63, zl_64, zl_72, zl_97, zl_99, zl_100, zl_101, zl_122, zl_127, zl_200, zl_255, zl_406, zl_534, zl_540, zl_600, zl_9999, zl_33, zl_34, zl_35, zl_37, zl_38, zl_39, zl_40, zl_41, zl_42, zl_43, zl_44, zl_45, zl_47, zl_49, zl_52, zl_53, zl_54, zl_55, zl_58, zl_59, zl_60, zl_61, zl_62, zl_65, zl_70, zl_71, zl_98, zl_102, zl_103, zl_104, zl_105, zl_110, zl_111, zl_115, zl_120, zl_123, zl_126, zl_128, zl_256, zl_1000, zl_1024, zcon_inl, zcon_inr, Option.toList_some, Option.toList_none, List.cons_append, List.nil_append, List.append_nil, Nat.add_zero, zbind_some]
    exact e
  · rw [zw_self, zins_len]
  · intro i x hx
    rcases zins_get hp hx with ⟨hi, hx⟩ | ⟨hi, hx'⟩ | ⟨hi, hx⟩
    · rw [zw_row (by omega), zw_row (by omega), (h2 i hi).1, (h2 i hi).2]
      exact hO.2.1 i x hx
    · subst hi
      rw [zw_row (by omega), zw_row (by omega), hx']
      exact ⟨h4, h5⟩
    · have hlt := (List.getElem?_eq_some_iff.mp hx).1
      rw [zw_row (by omega), zw_row (by omega), (h3 i hi (by omega)).1, (h3 i hi (by omega)).2]
      exact hO.2.1 (i - 1) x hx
  · intro x hx
    rcases zins_mem hx with hx | hx
    · rw [hx]
      exact hr
    · exact hO.2.2 x hx
  · intro a ha hb hc
    rw [zw_row ha, h1 a hb hc]
def sOffL (T : ZD2) (t : Int32) (r : Nat) (l : List Nat) : List Nat := if sOff T r t then zins (sBw T) r l else l
/-- the offers in their order -/
def sOffs (T : ZD2) (t : Int32) : List Nat := zfo (sOffL T t) 72 0 []
theorem sOffL_len (T : ZD2) (t : Int32) (r : Nat) (l : List Nat) : (sOffL T t r l).length ≤ l.length + 1 := by
  unfold sOffL
  split
  · rw [zins_len]
    exact Nat.le_refl _
  · omega
theorem c65 (hm : zisM m) (hm65 : m + 12 < 165) (ha : ∀ r, r < 72 → zAt T r) (hw : zWok T) : ∃ D', zev X 65 0 [.ref 165, .ref m, zJ] [] (zHP (zmt D m T) O, k) = some (.inl none, (zHP (zmt D' m T) O, k)) ∧ zOL D' T (sOffs T (T 1 5)) ∧ (∀ a, a ≠ 165 → a ≠ 166 → a ≠ 167 → D' a = D a) ∧ (sOffs T (T 1 5)).length ≤ 72 := by
  have key : ∀ d i (l : List Nat) (D' : ZD2), i + d = 72 → l.length ≤ i → zOL D' T l → (∀ a, a ≠ 165 → a ≠ 166 → a ≠ 167 → D' a = D a) → ∃ D'', zev X 65 7 [.ref 165, .ref m, .int (zi i)] [] (zHP (zmt D' m T) O, k) = some (.inl none, (zHP (zmt D'' m T) O, k)) ∧ zOL D'' T (zfo (sOffL T (T 1 5)) d i l) ∧ (∀ a, a ≠ 165 → a ≠ 166 → a ≠ 167 → D'' a = D a) ∧ (zfo (sOffL T (T 1 5)) d i l).length ≤ 72 := by
    intro d
    induction d with
    | zero =>
      intro i l D' h hl hO hD
      refine ⟨D', ?_, hO, hD, by simp only [zfo]; omega⟩
      refine (b65_7 hm).trans ?_
      rw [show i = 72 by omega]
      simp (disch := first | assumption | omega) only [↓zn_l, zl_0, zl_1, zl_2, zl_3, zl_4, zl_5, zl_6, zl_7, zl_8, zl_9, zl_10, zl_11, zl_12, zl_13, zl_14, zl_15, zl_16, zl_17, zl_18, zl_19, zl_20, zl_21, zl_22, zl_23, zl_24, zl_25, zl_26, zl_27, zl_28, zl_29, zl_30, zl_31, zl_32, zl_36, zl_46, zl_48, zl_50, zl_57, zl_63, zl_64, zl_72, zl_97, zl_99, zl_100, zl_101, zl_122, zl_127, zl_200, zl_255, zl_406, zl_534, zl_540, zl_600, zl_9999, zl_33, zl_34, zl_35, zl_37, zl_38, zl_39, zl_40, zl_41, zl_42, zl_43, zl_44, zl_45, zl_47, zl_49, zl_52, zl_53, zl_54, zl_55, zl_58, zl_59, zl_60, zl_61, zl_62, zl_65, zl_70, zl_71, zl_98, zl_102, zl_103, zl_104, zl_105, zl_110, zl_111, zl_115, zl_120, zl_123, zl_126, zl_128, zl_256, zl_1000, zl_1024, zcon_inl, zcon_inr, Option.toList_some, Option.toList_none, List.cons_append, List.nil_append, List.append_nil, Nat.add_zero, zbind_some, zi_toNat, zi_lt, zi_inj, zi_add, zi_mul, zi_ne_zn, zn_ne_zi, zn_lt_zi, zi_lt_zn, Nat.not_lt_zero, false_or, if_true, if_false, true_or, or_false, Nat.lt_irrefl]
    | succ d ih =>
      intro i l D' h hl hO hD
      have hi : i < 72 := by omega
      have hz := ha i hi
      have hlen := sOffL_len T (T 1 5) i l
      rw [zfo]
      cases hq : sOff T i (T 1 5)
      · obtain ⟨D'', e, e2⟩ := ih (i + 1) l D' (by omega) (by omega) hO hD
        have e3 : sOffL T (T 1 5) i l = l := by unfold sOffL; rw [hq]; rfl
        rw [e3]
        refine ⟨D'', ?_, e2⟩
        refine (b65_7 hm).trans ?_
        simp (disch := first | assumption | omega) only [↓zn_l, zl_0, zl_1, zl_2, zl_3, zl_4, zl_5, zl_6, zl_7, zl_8, zl_9, zl_10, zl_11, zl_12, zl_13, zl_14, zl_15, zl_16, zl_17, zl_18, zl_19, zl_20, zl_21, zl_22, zl_23, zl_24, zl_25, zl_26, zl_27, zl_28, zl_29, zl_30, zl_31, zl_32, zl_36, zl_46, zl_48, zl_50, zl_57, zl_63, zl_64, zl_72, zl_97, zl_99, zl_100, zl_101, zl_122, zl_127, zl_200, zl_255, zl_406, zl_534, zl_540, zl_600, zl_9999, zl_33, zl_34, zl_35, zl_37, zl_38, zl_39, zl_40, zl_41, zl_42, zl_43, zl_44, zl_45, zl_47, zl_49, zl_52, zl_53, zl_54, zl_55, zl_58, zl_59, zl_60, zl_61, zl_62, zl_65, zl_70, zl_71, zl_98, zl_102, zl_103, zl_104, zl_105, zl_110, zl_111, zl_115, zl_120, zl_123, zl_126, zl_128, zl_256, zl_1000, zl_1024, zcon_inl, zcon_inr, Option.toList_some, Option.toList_none, List.cons_append, List.nil_append, List.append_nil, Nat.add_zero, zbind_some, zi_toNat, zi_lt, zi_inj, zi_add, zi_mul, zi_ne_zn, zn_ne_zi, zn_lt_zi, zi_lt_zn, Nat.not_lt_zero, false_or, if_true, if_false, true_or, or_false, hi, c32, b65_19, c35, hq, zb_f, b65_22, b65_31]
        exact e
      · have e3 : sOffL T (T 1 5) i l = zins (sBw T) i l := by unfold sOffL; rw [hq]; rfl
        obtain ⟨D1, f1, f2, f3⟩ := c66 (X := X) (O := O) (k := k) hm hm65 hi (by omega) hO hz hw
        rw [e3] at hlen ⊢
        obtain ⟨D'', e, e2⟩ := ih (i + 1) _ D1 (by omega) (by omega) f2 (fun a ha hb hc => (f3 a ha hb hc).trans (hD a ha hb hc))
        refine ⟨D'', ?_, e2⟩
        refine (b65_7 hm).trans ?_
        simp (disch := first | assumption | omega) only [↓zn_l, zl_0, zl_1, zl_2, zl_3, zl_4, zl_5, zl_6, zl_7, zl_8, zl_9, zl_10, zl_11, zl_12, zl_13, zl_14, zl_15, zl_16, zl_17, zl_18, zl_19, zl_20, zl_21, zl_22, zl_23, zl_24, zl_25, zl_26, zl_27, zl_28, zl_29, zl_30, zl_31, zl_32, zl_36, zl_46, zl_48, zl_50, zl_57, zl_63, zl_64, zl_72, zl_97, zl_99, zl_100, zl_101, zl_122, zl_127, zl_200, zl_255, zl_406, zl_534, zl_540, zl_600, zl_9999, zl_33, zl_34, zl_35, zl_37, zl_38, zl_39, zl_40, zl_41, zl_42, zl_43, zl_44, zl_45, zl_47, zl_49, zl_52, zl_53, zl_54, zl_55, zl_58, zl_59, zl_60, zl_61, zl_62, zl_65, zl_70, zl_71, zl_98, zl_102, zl_103, zl_104, zl_105, zl_110, zl_111, zl_115, zl_120, zl_123, zl_126, zl_128, zl_256, zl_1000, zl_1024, zcon_inl, zcon_inr, Option.toList_some, Option.toList_none, List.cons_append, List.nil_append, List.append_nil, Nat.add_zero, zbind_some, zi_toNat, zi_lt, zi_inj, zi_add, zi_mul, zi_ne_zn, zn_ne_zi, zn_lt_zi, zi_lt_zn, Nat.not_lt_zero, false_or, if_true, if_false, true_or, or_false, hi, c32, b65_19, c35, hq, zb_t, b65_22, f1, b65_31, Nat.one_ne_zero]
        exact e
  have e0 : zw (zmt D m T) 165 2 (zi 0) = zmt (zw D 165 2 (zi 0)) m T := zw_Mo (by omega)
  obtain ⟨D', e, e2, e3, e4⟩ := key 72 0 [] (zw D 165 2 (zi 0)) (by omega) (by simp) ⟨zw_self _ _ _ _, fun i r h => by simp at h, fun r h => by simp at h⟩ (fun a ha _ _ => zw_row ha)
  refine ⟨D', ?_, e2, e3, e4⟩
  rw [b65_0, zl_0, e0]
  exact e
end
