/-! Whole machines: copies, clearing; ends of programs. -/
/-- a whole row at once -/
def zrow (D : ZD2) (b : Nat) (R : Nat → Int32) : ZD2 := fun c => if c = b then R else D c
theorem zrow_self (D : ZD2) (b : Nat) (R : Nat → Int32) : zrow D b R b = R := if_pos rfl
theorem zrow_ne {D : ZD2} {b c : Nat} {R : Nat → Int32} (h : c ≠ b) : zrow D b R c = D c := if_neg h
theorem zrow_zrow (D : ZD2) (b : Nat) (R R' : Nat → Int32) : zrow (zrow D b R) b R' = zrow D b R' := by
  funext c
  unfold zrow
  split <;> rfl
theorem zcp_zrow {D : ZD2} {a b n : Nat} (h : ∀ j, n ≤ j → D a j = D b j) : zcp D a b 0 0 n = zrow D b (D a) := by
  funext c j
  unfold zcp zrow
  by_cases hc : c = b
  · subst hc
    by_cases hj : j < n
    · rw [if_pos ⟨rfl, by omega, by omega⟩, if_pos rfl]
      congr 1
      omega
    · rw [if_neg (by omega), if_pos rfl, h j (by omega)]
  · rw [if_neg (fun q => hc q.1), if_neg hc]
theorem zw_zrow (D : ZD2) (b k : Nat) (v : Int32) : zw D b k v = zrow D b (fun j => if j = k then v else D b j) := by
  funext c j
  unfold zw zrow
  by_cases hc : c = b
  · subst hc
    by_cases hj : j = k <;> simp [hj]
  · simp [hc]
def zLn : Nat → Nat
  | 0 => 5
  | 1 => 15
  | 2 => 72
  | 3 => 360
  | 4 => 192
  | _ => 6
/-- nothing stands behind the ends of a machine's tables -/
def zFin (T : ZD2) : Prop := ∀ t, t < 6 → ∀ j, zLn t ≤ j → T t j = 0
section
variable {X : ZX} {D T : ZD2} {O : ZO2} {k : Nat × Nat × Nat} {m m2 : Nat}
theorem zfill {a n : Nat} {la : List Nat} {v : Int32} (ha : zsk[a]? = some (.inr (0, n, la))) (hn : n < 2147483648) : zev X 350 0 [.ref a, .int v, zJ, zJ] [] (zHP D O, k) = some (.inl none, (zHP (zrow D a fun j => if j < n then v else D a j) O, k)) := by
  rw [b350_0 ha]
  have key : ∀ d i (D' : ZD2), i + d = n → D' = zrow D a (fun j => if j < i then v else D a j) → zev X 350 5 [.ref a, .int v, .int (zi i), .int (zi n)] [] (zHP D' O, k) = some (.inl none, (zHP (zrow D a fun j => if j < n then v else D a j) O, k)) := by
    intro d
    induction d with
    | zero =>
      intro i D' h hD
      refine (b350_5 ha).trans ?_
      rw [show i = n by omega] at hD ⊢
      simp (disch := first | assumption | omega) only [↓zn_l, zl_0, zl_1, zl_2, zl_3, zl_4, zl_5, zl_6, zl_7, zl_8, zl_9, zl_10, zl_11, zl_12, zl_13, zl_14, zl_15, zl_16, zl_17, zl_18, zl_19, zl_20, zl_21, zl_22, zl_23, zl_24, zl_25, zl_26, zl_27, zl_28, zl_29, zl_30, zl_31, zl_32, zl_36, zl_46, zl_48, zl_50, zl_57, zl_63, zl_64, zl_72, zl_97, zl_99, zl_100, zl_101, zl_122, zl_127, zl_200, zl_255, zl_406, zl_534, zl_540, zl_600, zl_9999, zl_33, zl_34, zl_35, zl_37, zl_38, zl_39, zl_40, zl_41, zl_42, zl_43, zl_44, zl_45, zl_47, zl_49, zl_52, zl_53, zl_54, zl_55, zl_58, zl_59, zl_60, zl_61, zl_62, zl_65, zl_70, zl_71, zl_98, zl_102, zl_103, zl_104, zl_105, zl_110, zl_111, zl_115, zl_120, zl_123, zl_126, zl_128, zl_256, zl_1000, zl_1024, zcon_inl, zcon_inr, Option.toList_some, Option.toList_none, List.cons_append, List.nil_append, List.append_nil, Nat.add_zero, zbind_some, zi_toNat, zi_lt, zi_inj, zi_add, zi_mul, zi_ne_zn, zn_ne_zi, zn_lt_zi, zi_lt_zn, Nat.not_lt_zero, false_or, if_true, if_false, true_or, or_false, Nat.lt_irrefl]
      rw [hD]
    | succ d ih =>
      intro i D' h hD
      have hi : i < n := by omega
      have hi2 : ¬ n ≤ i := by omega
      refine (b350_5 ha).trans ?_
      simp (disch := first | assumption | omega) only [↓zn_l, zl_0, zl_1, zl_2, zl_3, zl_4, zl_5, zl_6, zl_7, zl_8, zl_9, zl_10, zl_11, zl_12, zl_13, zl_14, zl_15, zl_16, zl_17, zl_18, zl_19, zl_20, zl_21, zl_22, zl_23, zl_24, zl_25, zl_26, zl_27, zl_28, zl_29, zl_30, zl_31, zl_32, zl_36, zl_46, zl_48, zl_50, zl_57, zl_63, zl_64, zl_72, zl_97, zl_99, zl_100, zl_101, zl_122, zl_127, zl_200, zl_255, zl_406, zl_534, zl_540, zl_600, zl_9999, zl_33, zl_34, zl_35, zl_37, zl_38, zl_39, zl_40, zl_41, zl_42, zl_43, zl_44, zl_45, zl_47, zl_49, zl_52, zl_53, zl_54, zl_55, zl_58, zl_59, zl_60, zl_61, zl_62, zl_65, zl_70, zl_71, zl_98, zl_102, zl_103, zl_104, zl_105, zl_110, zl_111, zl_115, zl_120, zl_123, zl_126, zl_128, zl_256, zl_1000, zl_1024, zcon_inl, zcon_inr, Option.toList_some, Option.toList_none, List.cons_append, List.nil_append, List.append_nil, Nat.add_zero, zbind_some, zi_toNat, zi_lt, zi_inj, zi_add, zi_mul, zi_ne_zn, zn_ne_zi, zn_lt_zi, zi_lt_zn, Nat.not_lt_zero, false_or, if_true, if_false, true_or, or_false, hi, hi2]
      refine ih (i + 1) _ (by omega) ?_
      rw [zw_zrow, hD, zrow_zrow, zrow_self]
      congr 1
      funext j
      by_cases h1 : j = i
      · subst h1
        rw [if_pos rfl, if_pos (by omega)]
      · rw [if_neg h1]
        by_cases h2 : j < i
        · rw [if_pos h2, if_pos (by omega)]
        · rw [if_neg h2, if_neg (by omega)]
  exact key n 0 D (by omega) (by
    funext c j
    unfold zrow
    split
    · rename_i h
      rw [h]
      simp
    · rfl)
theorem c91 {t n : Nat} {R C : Int32} (ht : zisT t R C n) (hn : n < 2147483648) (hf : ∀ j, n ≤ j → D (t + 1) j = 0) : zev X 91 0 [.ref t] [] (zHP D O, k) = some (.inl none, (zHP (zrow D (t + 1) fun _ => 0) O, k)) := by
  rw [b91_0 ht, zfill ht.2 hn, zcon_inl]
  show zev X 91 8 _ [] _ = _
  rw [b91_8]
  congr 5
  funext j
  by_cases h : j < n
  · rw [if_pos h]
  · rw [if_neg h, hf j (by omega)]
theorem c96 {t t2 n : Nat} {R C R2 C2 : Int32} (ht : zisT t R C n) (ht2 : zisT t2 R2 C2 n) (hn : n < 2147483648) (hf : ∀ j, n ≤ j → D (t2 + 1) j = D (t + 1) j) : zev X 96 0 [.ref t, .ref t2, zJ] [] (zHP D O, k) = some (.inl none, (zHP (zrow D (t + 1) (D (t2 + 1))) O, k)) := by
  rw [b96_0 ht ht2, ← zcp_zrow hf]
  have e : (if Int32.ofNat n < Int32.ofNat n then Int32.ofNat n else Int32.ofNat n) = zi n := by split <;> rfl
  rw [e, if_neg]
  · rw [zi_toNat hn]
    rfl
  · rw [zi_toNat hn]
    have h0 : ¬ zi n < 0 := by
      rw [zl_0, zi_lt (by omega) (by omega)]
      omega
    have h1 : ((0 : Int32).toNatClampNeg) = 0 := rfl
    have h2 : ¬ (0 : Int32) < 0 := by decide
    rw [h1]
    simp only [h0, h2, false_or, not_or]
    omega
def zFar (m m2 : Nat) : Prop := m + 13 ≤ m2 ∨ m2 + 13 ≤ m
theorem c28 (hm : zisM m) (hm2 : zisM m2) (hfar : zFar m m2) (hl : D m2 6 = 0 ∨ D m2 6 = 1) (hf : zFin (zT D m)) (hf2 : zFin (zT D m2)) : zev X 28 0 [.ref m, .ref m2] [] (zHP D O, k) = some (.inl none, (zHP (zmt (zw D m 6 (D m2 6)) m (zT D m2)) O, k)) := by
  unfold zFar at hfar
  have g : ∀ t, t < 6 → ∀ j, zLn t ≤ j → D (m2 + 2 + 2 * t) j = D (m + 2 + 2 * t) j := fun t ht j hj => (hf2 t ht j hj).trans (hf t ht j hj).symm
  rw [b28_0 hm hm2, if_pos hl, c96 hm.2.1 hm2.2.1 (by omega) (fun j hj => by simp (disch := first | assumption | omega) only [zw_nea, zrow_ne]; exact g 0 (by omega) j hj), zcon_inl]
  show zev X 28 19 _ [] _ = _
  rw [b28_19 hm hm2, c96 hm.2.2.1 hm2.2.2.1 (by omega) (fun j hj => by simp (disch := first | assumption | omega) only [zw_nea, zrow_ne]; exact g 1 (by omega) j hj), zcon_inl]
  show zev X 28 30 _ [] _ = _
  rw [b28_30 hm hm2, c96 hm.2.2.2.1 hm2.2.2.2.1 (by omega) (fun j hj => by simp (disch := first | assumption | omega) only [zw_nea, zrow_ne]; exact g 2 (by omega) j hj), zcon_inl]
  show zev X 28 41 _ [] _ = _
  rw [b28_41 hm hm2, c96 hm.2.2.2.2.1 hm2.2.2.2.2.1 (by omega) (fun j hj => by simp (disch := first | assumption | omega) only [zw_nea, zrow_ne]; exact g 3 (by omega) j hj), zcon_inl]
  show zev X 28 52 _ [] _ = _
  rw [b28_52 hm hm2, c96 hm.2.2.2.2.2.1 hm2.2.2.2.2.2.1 (by omega) (fun j hj => by simp (disch := first | assumption | omega) only [zw_nea, zrow_ne]; exact g 4 (by omega) j hj), zcon_inl]
  show zev X 28 63 _ [] _ = _
  rw [b28_63 hm hm2, c96 hm.2.2.2.2.2.2 hm2.2.2.2.2.2.2 (by omega) (fun j hj => by simp (disch := first | assumption | omega) only [zw_nea, zrow_ne]; exact g 5 (by omega) j hj), zcon_inl]
  show zev X 28 74 _ [] _ = _
  rw [b28_74]
  congr 4
  funext c
  by_cases h0 : c = m + 2
  · subst h0; simp (disch := first | assumption | omega) only [zrow_ne, zrow_self, zw_row, zmt_0]; rfl
  by_cases h1 : c = m + 4
  · subst h1; simp (disch := first | assumption | omega) only [zrow_ne, zrow_self, zw_row, zmt_1]; rfl
  by_cases h2 : c = m + 6
  · subst h2; simp (disch := first | assumption | omega) only [zrow_ne, zrow_self, zw_row, zmt_2]; rfl
  by_cases h3 : c = m + 8
  · subst h3; simp (disch := first | assumption | omega) only [zrow_ne, zrow_self, zw_row, zmt_3]; rfl
  by_cases h4 : c = m + 10
  · subst h4; simp (disch := first | assumption | omega) only [zrow_ne, zrow_self, zw_row, zmt_4]; rfl
  by_cases h5 : c = m + 12
  · subst h5; simp (disch := first | assumption | omega) only [zrow_ne, zrow_self, zw_row, zmt_5]; rfl
  rw [zmt_o (by omega)]
  simp (disch := first | assumption | omega) only [zrow_ne]
end
