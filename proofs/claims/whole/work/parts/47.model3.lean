/-! The model's list of offers. -/
def zFrM (D D' : ZD2) : Prop := (∀ a, a ≠ 168 → a ≠ 181 → D' a = D a) ∧ ∀ j, j ≠ 39 → D' 168 j = D 168 j
def zML (D : ZD2) (l : List Nat) : Prop := D 168 39 = zi l.length ∧ ∀ i r, l[i]? = some r → D 181 i = zi r
theorem zFrM_tr {D D' D'' : ZD2} (h1 : zFrM D D') (h2 : zFrM D' D'') : zFrM D D'' := ⟨fun a ha hb => (h2.1 a ha hb).trans (h1.1 a ha hb), fun j hj => (h2.2 j hj).trans (h1.2 j hj)⟩
theorem zRs_fr {D D' T : ZD2} (h : zFrM D D') (S : zRs D T) : zRs D' T := by
  obtain ⟨⟨s1, s2, s3, s4, s5, s6⟩, s7, s8⟩ := S
  refine ⟨⟨?_, ?_, ?_, ?_, ?_, ?_⟩, fun p hp => ?_, fun p hp => ?_⟩
  · rw [h.2 7 (by omega)]; exact s1
  · rw [h.2 2 (by omega)]; exact s2
  · rw [h.2 3 (by omega)]; exact s3
  · rw [h.2 4 (by omega)]; exact s4
  · rw [h.2 5 (by omega)]; exact s5
  · rw [h.2 6 (by omega)]; exact s6
  · rw [h.1 170 (by omega) (by omega)]; exact s7 p hp
  · rw [h.1 171 (by omega) (by omega)]; exact s8 p hp
def zShM (D D' : ZD2) (n q : Nat) : Prop := (∀ a, a ≠ 181 → D' a = D a) ∧ (∀ j, j < q → D' 181 j = D 181 j) ∧ ∀ j, q < j → j ≤ n → D' 181 j = D 181 (j - 1)
theorem zShM_put {D D' : ZD2} {n q : Nat} (h : zShM D D' n (q + 1)) : zShM D (zw D' 181 (q + 1) (D' 181 q)) n q := by
  obtain ⟨h1, h2, h3⟩ := h
  refine ⟨fun a ha => ?_, fun j hj => ?_, fun j hj hn => ?_⟩
  · rw [zw_row ha, h1 a ha]
  · rw [zw_ne (by omega)]
    exact h2 j (by omega)
  · by_cases e : j = q + 1
    · subst e
      rw [zw_self]
      exact h2 q (by omega)
    · rw [zw_ne (by omega)]
      exact h3 j (by omega) hn
theorem zShM_fr {D D' : ZD2} {n q : Nat} (h : zShM D D' n q) : zFrM D D' := ⟨fun a _ hb => h.1 a hb, fun j _ => by rw [h.1 168 (by omega)]⟩
section
variable {X : ZX} {D T : ZD2} {s : Nat → Int32} {O : ZO2} {k : Nat × Nat × Nat}
theorem e181s {D : ZD2} {s : Nat → Int32} : zrow D 172 s 181 = D 181 := zrow_ne (by omega)
theorem m211loop {r : Nat} {l : List Nat} (I : zIv T) (S : zRs D T) (R : zRd s T) (hw : zWok T) (hr : r < 72) (hi : sIn T r = true) (hl : l.length < 72) (hM : zML D l) (hin : ∀ x, x ∈ l → x < 72 ∧ sIn T x = true) : ∀ q, q ≤ l.length → ∀ D', zShM D D' l.length q → ∃ D'' v, v.category = 1 ∧ zev X 211 57 [.ref 168, .int (zi r), .int (zi q)] [] (zHP (zrow D' 172 s) O, k) = zev X 211 7 [.ref 168, .int (zi (r + 1)), v] [] (zHP (zrow (zw D'' 168 39 (zi (l.length + 1))) 172 s) O, k) ∧ zShM D D'' l.length (zpos (fun j => sBw T r (l.getD j 0)) q) ∧ D'' 181 (zpos (fun j => sBw T r (l.getD j 0)) q) = zi r := by
  have put : ∀ q, q ≤ l.length → ∀ D', zShM D D' l.length q → ∃ D'' v, Value.category v = 1 ∧ zev X 211 97 [.ref 168, .int (zi r), .int (zi q)] [] (zHP (zrow D' 172 s) O, k) = zev X 211 7 [.ref 168, .int (zi (r + 1)), v] [] (zHP (zrow (zw D'' 168 39 (zi (l.length + 1))) 172 s) O, k) ∧ zShM D D'' l.length q ∧ D'' 181 q = zi r := by
    intro q hq D' hS
    obtain ⟨h1, h2, h3⟩ := hS
    have hq72 : ¬ 72 ≤ q := by omega
    refine ⟨zw D' 181 q (zi r), .int (zi q), rfl, ?_, ⟨fun a ha => ?_, fun j hj => ?_, fun j hj hn => ?_⟩, zw_self _ _ _ _⟩
    · have e5 : D' 168 39 = zi l.length := by rw [h1 168 (by omega)]; exact hM.1
      refine b211_97.trans ?_
      simp (disch := first | assumption | omega) only [↓zn_l, zl_0, zl_1, zl_2, zl_3, zl_4, zl_5, zl_6, zl_7, zl_8, zl_9, zl_10, zl_11, zl_12, zl_13, zl_14, zl_15, zl_16, zl_17, zl_18, zl_19, zl_20, zl_21, zl_22, zl_23, zl_24, zl_25, zl_26, zl_27, zl_28, zl_29, zl_30, zl_31, zl_32, zl_36, zl_46, zl_48, zl_50, zl_57, zl_63, zl_64, zl_72, zl_97, zl_99, zl_100, zl_101, zl_122, zl_127, zl_200, zl_255, zl_406, zl_534, zl_540, zl_600, zl_9999, zl_33, zl_34, zl_35, zl_37, zl_38, zl_39, zl_40, zl_41, zl_42, zl_43, zl_44, zl_45, zl_47, zl_49, zl_52, zl_53, zl_54, zl_55, zl_58, zl_59, zl_60, zl_61, zl_62, zl_65, zl_70, zl_71, zl_98, zl_102, zl_103, zl_104, zl_105, zl_110, zl_111, zl_115, zl_120, zl_123, zl_126, zl_128, zl_256, zl_1000, zl_1024, zcon_inl, zcon_inr, Option.toList_some, Option.toList_none, List.cons_append, List.nil_append, List.append_nil, Nat.add_zero, zbind_some, zi_toNat, zi_lt, zi_inj, zi_add, zi_mul, zi_ne_zn, zn_ne_zi, zn_lt_zi, zi_lt_zn, Nat.not_lt_zero, false_or, if_true, if_false, true_or, or_false, hq72, zw_so, zw_nea, e168s, e5]
    · rw [zw_row ha, h1 a ha]
    · rw [zw_ne (by omega)]
      exact h2 j hj
    · rw [zw_ne (by omega)]
      exact h3 j hj hn
  intro q
  induction q with
  | zero =>
    intro hq D' hS
    obtain ⟨D'', v, hv, e, e2⟩ := put 0 hq D' hS
    refine ⟨D'', v, hv, ?_, e2⟩
    rw [← e]
    refine b211_57.trans ?_
    simp (disch := first | assumption | omega) only [↓zn_l, zl_0, zl_1, zl_2, zl_3, zl_4, zl_5, zl_6, zl_7, zl_8, zl_9, zl_10, zl_11, zl_12, zl_13, zl_14, zl_15, zl_16, zl_17, zl_18, zl_19, zl_20, zl_21, zl_22, zl_23, zl_24, zl_25, zl_26, zl_27, zl_28, zl_29, zl_30, zl_31, zl_32, zl_36, zl_46, zl_48, zl_50, zl_57, zl_63, zl_64, zl_72, zl_97, zl_99, zl_100, zl_101, zl_122, zl_127, zl_200, zl_255, zl_406, zl_534, zl_540, zl_600, zl_9999, zl_33, zl_34, zl_35, zl_37, zl_38, zl_39, zl_40, zl_41, zl_42, zl_43, zl_44, zl_45, zl_47, zl_49, zl_52, zl_53, zl_54, zl_55, zl_58, zl_59, zl_60, zl_61, zl_62, zl_65, zl_70, zl_71, zl_98, zl_102, zl_103, zl_104, zl_105, zl_110, zl_111, zl_115, zl_120, zl_123, zl_126, zl_128, zl_256, zl_1000, zl_1024, zcon_inl, zcon_inr, Option.toList_some, Option.toList_none, List.cons_append, List.nil_append, List.append_nil, Nat.add_zero, zbind_some, zi_toNat, zi_lt, zi_inj, zi_add, zi_mul, zi_ne_zn, zn_ne_zi, zn_lt_zi, zi_lt_zn, Nat.not_lt_zero, false_or, if_true, if_false, true_or, or_false, Nat.lt_irrefl]
  | succ q ih =>
    intro hq D' hS
    have hq72 : ¬ 72 ≤ q := by omega
    have hq73 : ¬ 72 ≤ q + 1 := by omega
    have hg := zget_D (l := l) (i := q) (by omega)
    have g1 := hM.2 q _ hg
    have s1 := hS.2.1 q (by omega)
    obtain ⟨g3, g4⟩ := hin _ (List.mem_of_getElem? hg)
    have e1 : zi (q + 1) - zi 1 = zi q := by rw [zi_sub (by omega) (by omega)]; rfl
    have e216 := m216 (X := X) (D := D') (O := O) (k := k) I (zRs_fr (zShM_fr hS) S) R hw hr g3 hi g4
    have start : zev X 211 57 [.ref 168, .int (zi r), .int (zi (q + 1))] [] (zHP (zrow D' 172 s) O, k) = zev X 211 74 [.ref 168, .int (zi r), .int (zi (q + 1))] [.int (zb (sBw T r (l.getD q 0)))] (zHP (zrow D' 172 s) O, k) := by
      refine b211_57.trans ?_
      simp (disch := first | assumption | omega) only [↓zn_l, zl_0, zl_1, zl_2, zl_3, zl_4, zl_5, zl_6, zl_7, zl_8, zl_9, zl_10, zl_11, zl_12, zl_13, zl_14, zl_15, zl_16, zl_17, zl_18, zl_19, zl_20, zl_21, zl_22, zl_23, zl_24, zl_25, zl_26, zl_27, zl_28, zl_29, zl_30, zl_31, zl_32, zl_36, zl_46, zl_48, zl_50, zl_57, zl_63, zl_64, zl_72, zl_97, zl_99, zl_100, zl_101, zl_122, zl_127, zl_200, zl_255, zl_406, zl_534, zl_540, zl_600, zl_9999, zl_33, zl_34, zl_35, zl_37, zl_38, zl_39, zl_40, zl_41, zl_42, zl_43, zl_44, zl_45, zl_47, zl_49, zl_52, zl_53, zl_54, zl_55, zl_58, zl_59, zl_60, zl_61, zl_62, zl_65, zl_70, zl_71, zl_98, zl_102, zl_103, zl_104, zl_105, zl_110, zl_111, zl_115, zl_120, zl_123, zl_126, zl_128, zl_256, zl_1000, zl_1024, zcon_inl, zcon_inr, Option.toList_some, Option.toList_none, List.cons_append, List.nil_append, List.append_nil, Nat.add_zero, zbind_some, zi_toNat, zi_lt, zi_inj, zi_add, zi_mul, zi_ne_zn, zn_ne_zi, zn_lt_zi, zi_lt_zn, Nat.not_lt_zero, false_or, if_true, if_false, true_or, or_false, Nat.zero_lt_succ, e1, hq72, e181s, s1, g1, e216]
    rw [zpos, start]
    cases hb : sBw T r (l.getD q 0)
    · obtain ⟨D'', v, hv, e, e2⟩ := put (q + 1) hq D' hS
      simp only [Bool.false_eq_true, if_false]
      refine ⟨D'', v, hv, ?_, e2⟩
      rw [← e]
      refine b211_74.trans ?_
      rw [zl_0, if_pos (by rfl)]
    · obtain ⟨D'', v, hv, e, e2⟩ := ih (by omega) _ (zShM_put hS)
      simp only [if_true]
      refine ⟨D'', v, hv, ?_, e2⟩
      rw [← e]
      refine b211_74.trans ?_
      simp (disch := first | assumption | omega) only [↓zn_l, zl_0, zl_1, zl_2, zl_3, zl_4, zl_5, zl_6, zl_7, zl_8, zl_9, zl_10, zl_11, zl_12, zl_13, zl_14, zl_15, zl_16, zl_17, zl_18, zl_19, zl_20, zl_21, zl_22, zl_23, zl_24, zl_25, zl_26, zl_27, zl_28, zl_29, zl_30, zl_31, zl_32, zl_36, zl_46, zl_48, zl_50, zl_57, zl_63, zl_64, zl_72, zl_97, zl_99, zl_100, zl_101, zl_122, zl_127, zl_200, zl_255, zl_406, zl_534, zl_540, zl_600, zl_9999, zl_33, zl_34, zl_35, zl_37, zl_38, zl_39, zl_40, zl_41, zl_42, zl_43, zl_44, zl_45, zl_47, zl_49, zl_52, zl_53, zl_54, zl_55, zl_58, zl_59, zl_60, zl_61, zl_62, zl_65, zl_70, zl_71, zl_98, zl_102, zl_103, zl_104, zl_105, zl_110, zl_111, zl_115, zl_120, zl_123, zl_126, zl_128, zl_256, zl_1000, zl_1024, zcon_inl, zcon_inr, Option.toList_some, Option.toList_none, List.cons_append, List.nil_append, List.append_nil, Nat.add_zero, zbind_some, zi_toNat, zi_lt, zi_inj, zi_add, zi_mul, zi_ne_zn, zn_ne_zi, zn_lt_zi, zi_lt_zn, Nat.not_lt_zero, false_or, if_true, if_false, true_or, or_false, zb_0, Bool.true_eq_false, e1, hq72, hq73, e181s, zw_so, zi_dec]
theorem m211 (I : zIv T) (S : zRs D T) (R : zRd s T) (hw : zWok T) : ∃ D', zev X 211 0 [.ref 168, zJ, zJ] [] (zHP (zrow D 172 s) O, k) = some (.inl none, (zHP (zrow D' 172 s) O, k)) ∧ zFrM D D' ∧ zML D' (sL T) ∧ ∀ x, x ∈ sL T → x < 72 ∧ sIn T x = true := by
  have n1 := zIv_np I
  have n2 := zIv_np6 I
  have valid : ∀ q, q < 72 → sOff T q (T 1 5) = true → sIn T q = true := by
    intro q hq h
    unfold sOff sLoose at h
    simp only [Bool.and_eq_true] at h
    exact h.2.1.1.1
  have notin : ∀ q, q < 72 → (sNp T ≤ q / 12 ∨ sPgs T (q / 12) ≤ q - q / 12 * 12) → sOff T q (T 1 5) = false := by
    intro q hq h
    have := (I.2.2.2.1.2 (q / 12) (q % 12) (by omega) (by omega) (by omega)).1
    rw [show 12 * (q / 12) + q % 12 = q by omega] at this
    have hf : sIn T q = false := by unfold sIn; rw [this]; simp
    unfold sOff sLoose
    rw [hf]
    simp
  have key : ∀ d i (l : List Nat) (D' : ZD2) (v : Value), Value.category v = 1 → i + d = 12 * sNp T → l.length ≤ i → zML D' l → zFrM D D' → (∀ x, x ∈ l → x < 72 ∧ sIn T x = true) → ∃ D'', zev X 211 7 [.ref 168, .int (zi i), v] [] (zHP (zrow D' 172 s) O, k) = some (.inl none, (zHP (zrow D'' 172 s) O, k)) ∧ zFrM D D'' ∧ zML D'' (zfo (sOffL T (T 1 5)) d i l) ∧ ∀ x, x ∈ zfo (sOffL T (T 1 5)) d i l → x < 72 ∧ sIn T x = true := by
    intro d
    induction d with
    | zero =>
      intro i l D' v hv h hl hM hF hx
      have S' := zRs_fr hF S
      refine ⟨D', ?_, hF, hM, hx⟩
      refine b211_7.trans ?_
      simp (disch := first | assumption | omega) only [e168s, S'.1.1, n1, ↓zn_l, zl_0, zl_1, zl_2, zl_3, zl_4, zl_5, zl_6, zl_7, zl_8, zl_9, zl_10, zl_11, zl_12, zl_13, zl_14, zl_15, zl_16, zl_17, zl_18, zl_19, zl_20, zl_21, zl_22, zl_23, zl_24, zl_25, zl_26, zl_27, zl_28, zl_29, zl_30, zl_31, zl_32, zl_36, zl_46, zl_48, zl_50, zl_57, zl_63, zl_64, zl_72, zl_97, zl_99, zl_100, zl_101, zl_122, zl_127, zl_200, zl_255, zl_406, zl_534, zl_540, zl_600, zl_9999, zl_33, zl_34, zl_35, zl_37, zl_38, zl_39, zl_40, zl_41, zl_42, zl_43, zl_44, zl_45, zl_47, zl_49, zl_52, zl_53, zl_54, zl_55, zl_58, zl_59, zl_60, zl_61, zl_62, zl_65, zl_70, zl_71, zl_98, zl_102, zl_103, zl_104, zl_105, zl_110, zl_111, zl_115, zl_120, zl_123, zl_126, zl_128, zl_256, zl_1000, zl_1024, zcon_inl, zcon_inr, Option.toList_some, Option.toList_none, List.cons_append, List.nil_append, List.append_nil, Nat.add_zero, zbind_some, zi_toNat, zi_lt, zi_inj, zi_add, zi_mul, zi_ne_zn, zn_ne_zi, zn_lt_zi, zi_lt_zn, Nat.not_lt_zero, false_or, if_true, if_false, true_or, or_false, show ¬ i < 12 * sNp T by omega]
    | succ d ih =>
      intro i l D' v hv h hl hM hF hx
      have S' := zRs_fr hF S
      have hi : i < 12 * sNp T := by omega
      have hi72 : i < 72 := by omega
      have hle : i / 12 * 12 ≤ i := Nat.div_mul_le_self i 12
      have hp : i / 12 < sNp T := by omega
      have hp6 : ¬ 6 ≤ i / 12 := by omega
      obtain ⟨g1, g2⟩ := zIv_pg I (p := i / 12) (by omega)
      have eP : D' 170 (i / 12) = zi (sPgs T (i / 12)) := (S'.2.1 _ hp).trans g1
      have ed : 12 * (i / 12) + (i - i / 12 * 12) = i := by omega
      have e212 := m212 (X := X) (O := O) (k := k) (g := i - i / 12 * 12) I S' R hp (by omega)
      rw [ed] at e212
      rw [zfo]
      have skip : ∀ R', zev X 211 7 [.ref 168, .int (zi i), v] [] (zHP (zrow D' 172 s) O, k) = zev X 211 7 [.ref 168, .int (zi (i + 1)), v] [] (zHP (zrow D' 172 s) O, k) → sOff T i (T 1 5) = false → (∃ D'', zev X 211 7 [.ref 168, .int (zi i), v] [] (zHP (zrow D' 172 s) O, k) = some (.inl none, (zHP (zrow D'' 172 s) O, k)) ∧ zFrM D D'' ∧ zML D'' (zfo (sOffL T (T 1 5)) d (i + 1) (sOffL T (T 1 5) i l)) ∧ ∀ x, x ∈ zfo (sOffL T (T 1 5)) d (i + 1) (sOffL T (T 1 5) i l) → x < 72 ∧ sIn T x = true) ∨ R' := by
        intro R' he ho
        left
        have e3 : sOffL T (T 1 5) i l = l := by unfold sOffL; rw [ho]; rfl
        rw [e3, he]
        exact ih (i + 1) l D' v hv (by omega) (by omega) hM hF hx
      by_cases hgp : i - i / 12 * 12 < sPgs T (i / 12)
      · cases ho : sOff T i (T 1 5)
        · refine (skip False ?_ ho).resolve_right (fun h => h)
          refine b211_7.trans ?_
          simp (disch := first | assumption | omega) only [e168s, e170s, S'.1.1, n1, ↓zn_l, zl_0, zl_1, zl_2, zl_3, zl_4, zl_5, zl_6, zl_7, zl_8, zl_9, zl_10, zl_11, zl_12, zl_13, zl_14, zl_15, zl_16, zl_17, zl_18, zl_19, zl_20, zl_21, zl_22, zl_23, zl_24, zl_25, zl_26, zl_27, zl_28, zl_29, zl_30, zl_31, zl_32, zl_36, zl_46, zl_48, zl_50, zl_57, zl_63, zl_64, zl_72, zl_97, zl_99, zl_100, zl_101, zl_122, zl_127, zl_200, zl_255, zl_406, zl_534, zl_540, zl_600, zl_9999, zl_33, zl_34, zl_35, zl_37, zl_38, zl_39, zl_40, zl_41, zl_42, zl_43, zl_44, zl_45, zl_47, zl_49, zl_52, zl_53, zl_54, zl_55, zl_58, zl_59, zl_60, zl_61, zl_62, zl_65, zl_70, zl_71, zl_98, zl_102, zl_103, zl_104, zl_105, zl_110, zl_111, zl_115, zl_120, zl_123, zl_126, zl_128, zl_256, zl_1000, zl_1024, zcon_inl, zcon_inr, Option.toList_some, Option.toList_none, List.cons_append, List.nil_append, List.append_nil, Nat.add_zero, zbind_some, zi_toNat, zi_lt, zi_inj, zi_add, zi_mul, zi_ne_zn, zn_ne_zi, zn_lt_zi, zi_lt_zn, Nat.not_lt_zero, false_or, if_true, if_false, true_or, or_false, hi, zi_div, zi_sub, hp6, eP, hgp, e212, ho, b211_46, zb_0]
        · have hin := valid i hi72 ho
          have e3 : sOffL T (T 1 5) i l = zins (sBw T) i l := by unfold sOffL; rw [ho]; rfl
          obtain ⟨D1, v1, hv1, f1, ⟨f2, f3, f4⟩, f5⟩ := m211loop (X := X) (O := O) (k := k) I S' R hw hi72 hin (by omega) hM hx l.length (Nat.le_refl _) D' ⟨fun _ _ => rfl, fun _ _ => rfl, fun j hj hn => by omega⟩
          have hpz := zpos_le (fun j => sBw T i (l.getD j 0)) l.length
          rw [e3]
          have e0 : D' 168 39 = zi l.length := hM.1
          have hM2 : zML (zw D1 168 39 (zi (l.length + 1))) (zins (sBw T) i l) := by
            refine ⟨by rw [zw_self, zins_len], fun j x hjx => ?_⟩
            rw [zw_row (by omega)]
            rcases zins_get hpz hjx with ⟨a1, a2⟩ | ⟨a1, a2⟩ | ⟨a1, a2⟩
            · rw [f3 j a1]; exact hM.2 j x a2
            · rw [a1, a2]; exact f5
            · have hlt := (List.getElem?_eq_some_iff.mp a2).1
              rw [f4 j a1 (by omega)]; exact hM.2 _ x a2
          have hF2 : zFrM D (zw D1 168 39 (zi (l.length + 1))) := zFrM_tr hF ⟨fun a ha hb => by rw [zw_row ha, f2 a hb], fun j hj => by rw [zw_ne (by omega), f2 168 (by omega)]⟩
          obtain ⟨D'', e, e2⟩ := ih (i + 1) _ _ v1 hv1 (by omega) (by rw [zins_len]; omega) hM2 hF2 (fun x hx' => by
            rcases zins_mem hx' with q | q
            · rw [q]; exact ⟨hi72, hin⟩
            · exact hx x q)
          refine ⟨D'', ?_, e2⟩
          rw [← e, ← f1]
          refine b211_7.trans ?_
          simp (disch := first | assumption | omega) only [e168s, e170s, S'.1.1, n1, ↓zn_l, zl_0, zl_1, zl_2, zl_3, zl_4, zl_5, zl_6, zl_7, zl_8, zl_9, zl_10, zl_11, zl_12, zl_13, zl_14, zl_15, zl_16, zl_17, zl_18, zl_19, zl_20, zl_21, zl_22, zl_23, zl_24, zl_25, zl_26, zl_27, zl_28, zl_29, zl_30, zl_31, zl_32, zl_36, zl_46, zl_48, zl_50, zl_57, zl_63, zl_64, zl_72, zl_97, zl_99, zl_100, zl_101, zl_122, zl_127, zl_200, zl_255, zl_406, zl_534, zl_540, zl_600, zl_9999, zl_33, zl_34, zl_35, zl_37, zl_38, zl_39, zl_40, zl_41, zl_42, zl_43, zl_44, zl_45, zl_47, zl_49, zl_52, zl_53, zl_54, zl_55, zl_58, zl_59, zl_60, zl_61, zl_62, zl_65, zl_70, zl_71, zl_98, zl_102, zl_103, zl_104, zl_105, zl_110, zl_111, zl_115, zl_120, zl_123, zl_126, zl_128, zl_256, zl_1000, zl_1024, zcon_inl, zcon_inr, Option.toList_some, Option.toList_none, List.cons_append, List.nil_append, List.append_nil, Nat.add_zero, zbind_some, zi_toNat, zi_lt, zi_inj, zi_add, zi_mul, zi_ne_zn, zn_ne_zi, zn_lt_zi, zi_lt_zn, Nat.not_lt_zero, false_or, if_true, if_false, true_or, or_false, hi, zi_div, zi_sub, hp6, eP, hgp, e212, ho, b211_46, zb_0, Bool.true_eq_false, e0]
      · refine (skip False ?_ (notin i hi72 (Or.inr (by omega)))).resolve_right (fun h => h)
        refine b211_7.trans ?_
        simp (disch := first | assumption | omega) only [e168s, e170s, S'.1.1, n1, ↓zn_l, zl_0, zl_1, zl_2, zl_3, zl_4, zl_5, zl_6, zl_7, zl_8, zl_9, zl_10, zl_11, zl_12, zl_13, zl_14, zl_15, zl_16, zl_17, zl_18, zl_19, zl_20, zl_21, zl_22, zl_23, zl_24, zl_25, zl_26, zl_27, zl_28, zl_29, zl_30, zl_31, zl_32, zl_36, zl_46, zl_48, zl_50, zl_57, zl_63, zl_64, zl_72, zl_97, zl_99, zl_100, zl_101, zl_122, zl_127, zl_200, zl_255, zl_406, zl_534, zl_540, zl_600, zl_9999, zl_33, zl_34, zl_35, zl_37, zl_38, zl_39, zl_40, zl_41, zl_42, zl_43, zl_44, zl_45, zl_47, zl_49, zl_52, zl_53, zl_54, zl_55, zl_58, zl_59, zl_60, zl_61, zl_62, zl_65, zl_70, zl_71, zl_98, zl_102, zl_103, zl_104, zl_105, zl_110, zl_111, zl_115, zl_120, zl_123, zl_126, zl_128, zl_256, zl_1000, zl_1024, zcon_inl, zcon_inr, Option.toList_some, Option.toList_none, List.cons_append, List.nil_append, List.append_nil, Nat.add_zero, zbind_some, zi_toNat, zi_lt, zi_inj, zi_add, zi_mul, zi_ne_zn, zn_ne_zi, zn_lt_zi, zi_lt_zn, Nat.not_lt_zero, false_or, if_true, if_false, true_or, or_false, hi, zi_div, zi_sub, hp6, eP, hgp]
  obtain ⟨D', e, e2, e3, e4⟩ := key (12 * sNp T) 0 [] (zw D 168 39 (zi 0)) zJ rfl (by omega) (by simp) ⟨zw_self _ _ _ _, fun i r h => by simp at h⟩ ⟨fun a ha _ => zw_row ha, fun j hj => zw_ne (by omega)⟩ (fun x hx => by simp at hx)
  have epad : zfo (sOffL T (T 1 5)) (12 * sNp T) 0 [] = sL T := by
    have := zfo_pad (f := sOffL T (T 1 5)) (d := 12 * sNp T) (e := 72 - 12 * sNp T) (i := 0) (a := []) (fun j b h1 h2 => by
      unfold sOffL
      rw [notin j (by omega) (Or.inl (by omega))]
      rfl)
    rw [show 12 * sNp T + (72 - 12 * sNp T) = 72 by omega] at this
    exact this.symm
  rw [epad] at e3 e4
  refine ⟨D', ?_, e2, e3, e4⟩
  rw [b211_0, zl_0, zw_so (by omega)]
  exact e
end
