/-! The model takes pages; what would be. -/
def rTkX : Nat → ZD2 → Option Nat → Nat × (ZD2 × Option Nat)
  | 0, V, o => (0, V, o)
  | d + 1, V, o => match sTaken V with
    | none => (0, V, o)
    | some r => ((rTkX d (uTakeX V r (sFr V r)) (some r)).1 + 1, (rTkX d (uTakeX V r (sFr V r)) (some r)).2)
theorem rTkX_none {d : Nat} {V : ZD2} {o : Option Nat} (h : sTaken V = none) : rTkX (d + 1) V o = (0, V, o) := by rw [rTkX, h]
theorem rTkX_some {d r : Nat} {V : ZD2} {o : Option Nat} (h : sTaken V = some r) : rTkX (d + 1) V o = ((rTkX d (uTakeX V r (sFr V r)) (some r)).1 + 1, (rTkX d (uTakeX V r (sFr V r)) (some r)).2) := by rw [rTkX, h]
theorem rTkX_is : ∀ {d : Nat} {V : ZD2} {r : Nat}, ∃ q, (rTkX d V (some r)).2.2 = some q
  | 0, V, r => ⟨r, rfl⟩
  | d + 1, V, r => by
    cases h : sTaken V with
    | none => rw [rTkX_none h]; exact ⟨r, rfl⟩
    | some q => rw [rTkX_some h]; exact rTkX_is
theorem rTkX_is0 {d : Nat} {V : ZD2} (h : 0 < (rTkX d V none).1) : ∃ q, (rTkX d V none).2.2 = some q := by
  cases d with
  | zero => exact absurd h (by rw [rTkX]; simp)
  | succ d =>
    cases ht : sTaken V with
    | none => rw [rTkX_none ht] at h; exact absurd h (Nat.lt_irrefl 0)
    | some q => rw [rTkX_some ht]; exact rTkX_is
theorem rTkX_le : ∀ {d : Nat} {V : ZD2} {o : Option Nat}, (rTkX d V o).1 ≤ d
  | 0, V, o => Nat.le_refl _
  | d + 1, V, o => by
    cases h : sTaken V with
    | none => rw [rTkX_none h]; exact Nat.zero_le _
    | some q =>
      rw [rTkX_some h]
      have := rTkX_le (d := d) (V := uTakeX V q (sFr V q)) (o := some q)
      show (rTkX d (uTakeX V q (sFr V q)) (some q)).1 + 1 ≤ d + 1
      omega
theorem rTakes_eq : ∀ (d : Nat) (V : ZD2) (x : Int32) (o : Option Nat), rTakes d (zw V 1 11 x) = ((rTkX d V o).1, zw (rTkX d V o).2.1 1 11 (x + zi (rTkX d V o).1))
  | 0, V, x, o => by
    rw [rTakes, rTkX, zaddz]
  | d + 1, V, x, o => by
    have e := lag_sTaken (T := V) (c := 11) (x := x) (by omega)
    cases h : sTaken V with
    | none =>
      rw [h] at e
      rw [rTakes, e, rTkX_none h]
      simp only [zaddz]
    | some r =>
      rw [h] at e
      have e2 : rTake (zw V 1 11 x) = zw (uTakeX V r (sFr V r)) 1 11 (x + zi 1) := by
        unfold rTake
        rw [e]
        show uTake (zw V 1 11 x) r (sFr (zw V 1 11 x) r) = _
        rw [lag_sFr, lag_take]
      rw [rTakes, e, rTkX_some h]
      simp only [e2, rTakes_eq d (uTakeX V r (sFr V r)) (x + zi 1) (some r), Int32.add_assoc, zi_add, Nat.add_comm 1]
theorem rVict_eq : ∀ (d : Nat) (V : ZD2) (x : Int32) (o : Option Nat), (rVict d (zw V 1 11 x) o).1 = if (rTkX d V o).1 < d then none else (rTkX d V o).2.2
  | 0, V, x, o => by
    rw [rVict, rTkX, if_neg (Nat.lt_irrefl 0)]
  | d + 1, V, x, o => by
    have e := lag_sTaken (T := V) (c := 11) (x := x) (by omega)
    cases h : sTaken V with
    | none =>
      rw [h] at e
      rw [rVict, e, rTkX_none h, if_pos (by simp)]
    | some r =>
      rw [h] at e
      have e2 : rTake (zw V 1 11 x) = zw (uTakeX V r (sFr V r)) 1 11 (x + zi 1) := by
        unfold rTake
        rw [e]
        show uTake (zw V 1 11 x) r (sFr (zw V 1 11 x) r) = _
        rw [lag_sFr, lag_take]
      rw [rVict, e, rTkX_some h]
      simp only [e2, rVict_eq d (uTakeX V r (sFr V r)) (x + zi 1) (some r)]
      exact zif_congr (by omega)
section
variable {X : ZX} {D T : ZD2} {s : Nat → Int32} {O : ZO2} {k : Nat × Nat × Nat}
theorem sTaken_sp {r : Nat} (I : zIv T) (h : sTaken T = some r) : r < 72 ∧ sLoose T r = true := (c58 (X := (0, fun _ => 0)) (D := fun _ _ => 0) (O := (fun _ => 0, fun _ => 0)) (k := (0, 0, 0)) hm20 (zIv_at I) (zIv_np I) (zIv_np6 I)).2 r h
/-- what stands while pages are taken -/
def zBt (T V : ZD2) : Prop := zIv V ∧ zEx V ∧ zIm T V ∧ V 1 = T 1
theorem uTakeX_1 {r f : Nat} : uTakeX T r f 1 = T 1 := by
  unfold uTakeX
  rw [zw_row (by omega), uLeave_o (by omega) (by omega)]
theorem zBt_step {V : ZD2} {r : Nat} (B : zBt T V) (h : sTaken V = some r) : zBt T (uTakeX V r (sFr V r)) := by
  obtain ⟨I, E, M, h1⟩ := B
  obtain ⟨hr, hl⟩ := sTaken_sp I h
  obtain ⟨f1, f2⟩ := sFr_of (zIv_at I r hr) (sLoose_in hl)
  exact ⟨zIv_w2 (zIv_leave I hr f1 f2) (by omega) (by omega) (by omega), zEx_w2 (zEx_leave I E hr f1 f2), uTakeX_im M, uTakeX_1.trans h1⟩
theorem m270step {r t : Nat} {n : Int32} (I : zIv T) (S : zRs D T) (R : zRd s T) (h : sTaken T = some r) (hin : zi t < n) : ∃ s', zev X 270 7 [.ref 168, .int n, .int (zi t), .int (zi r)] [] (zHP (zrow D 172 s) O, k) = zev X 270 7 [.ref 168, .int n, .int (zi (t + 1)), .int (zo (sTaken (uTakeX T r (sFr T r))))] [] (zHP (zrow (zw D 168 40 (zi r)) 172 s') O, k) ∧ zRd s' (uTakeX T r (sFr T r)) := by
  have n2 := zIv_np6 I
  obtain ⟨hr, hl⟩ := sTaken_sp I h
  have hi := sLoose_in hl
  have hp := zvalid I hr hi
  have hp6 : r / 12 < 6 := by omega
  have hle : r / 12 * 12 ≤ r := Nat.div_mul_le_self r 12
  have hg : r - r / 12 * 12 < 12 := by omega
  have ed : 12 * (r / 12) + (r - r / 12 * 12) = r := by omega
  obtain ⟨f1, f2⟩ := sFr_of (zIv_at I r hr) hi
  have e253 := m253 (X := X) (D := D) (O := O) (k := k) (p := r / 12) (g := r - r / 12 * 12) (f := sFr T r) (w := true) I S R hp hg f1 (by rw [ed]; exact f2)
  rw [ed, zb_t] at e253
  have R1 : zRd (vLeave s r (sFr T r) (sCnt T (sFr T r)) (sDirty T (sFr T r)) true (T 0 2)) (uLeave T r (sFr T r) false) := zRd_leave (w := true) I R hr f1 f2
  have M1 : zIm T (uLeave T r (sFr T r) false) := zIm_leave zIm_rfl
  have np1 : sNp (uLeave T r (sFr T r) false) = sNp T := zRd_np M1.2.1
  generalize vLeave s r (sFr T r) (sCnt T (sFr T r)) (sDirty T (sFr T r)) true (T 0 2) = s1 at *
  have e203 := @m203 X D s1 O k (r / 12) 0 hp6 (by omega)
  rw [Nat.add_zero (10 + 6 * (r / 12)), (R1.2.1 (r / 12) (by omega)).1] at e203
  have e258 := @m258 X D s1 O k (r / 12) 1 (zi 3 * uLeave T r (sFr T r) false 2 (12 * (r / 12))) hp6 (by omega)
  rw [(R1.2.1 (r / 12) (by omega)).2.1] at e258
  have R2 : zRd (zu s1 (10 + 6 * (r / 12) + 1) (uLeave T r (sFr T r) false 2 (12 * (r / 12) + 3) + zi 3 * uLeave T r (sFr T r) false 2 (12 * (r / 12)))) (uTakeX T r (sFr T r)) := zRd_credit (p := r / 12) R1 hp6 (by omega)
  have I2 : zIv (uTakeX T r (sFr T r)) := zIv_w2 (zIv_leave I hr f1 f2) (by omega) (by omega) (by omega)
  have S2 : zRs (zw D 168 40 (zi r)) (uTakeX T r (sFr T r)) := zRs_frS ⟨fun a a1 _ _ => zw_row a1, fun j _ _ j3 => zw_ne (by omega)⟩ (zRs_im S (uTakeX_im zIm_rfl) n2)
  have e271 := m271 (X := X) (O := O) (k := k) I2 S2 R2
  refine ⟨_, ?_, R2⟩
  refine b270_7.trans ?_
  rw [if_pos hin]
  simp (disch := first | assumption | omega) only [↓zn_l, zl_0, zl_1, zl_2, zl_3, zl_4, zl_5, zl_6, zl_7, zl_8, zl_9, zl_10, zl_11, zl_12, zl_13, zl_14, zl_15, zl_16, zl_17, zl_18, zl_19, zl_20, zl_21, zl_22, zl_23, zl_24, zl_25, zl_26, zl_27, zl_28, zl_29, zl_30, zl_31, zl_32, zl_36, zl_46, zl_48, zl_50, zl_57, zl_63, zl_64, zl_72, zl_97, zl_99, zl_100, zl_101, zl_122, zl_127, zl_200, zl_255, zl_406, zl_534, zl_540, zl_600, zl_9999, zl_33, zl_34, zl_35, zl_37, zl_38, zl_39, zl_40, zl_41, zl_42, zl_43, zl_44, zl_45, zl_47, zl_49, zl_52, zl_53, zl_54, zl_55, zl_58, zl_59, zl_60, zl_61, zl_62, zl_65, zl_70, zl_71, zl_98, zl_102, zl_103, zl_104, zl_105, zl_110, zl_111, zl_115, zl_120, zl_123, zl_126, zl_128, zl_256, zl_1000, zl_1024, zcon_inl, zcon_inr, Option.toList_some, Option.toList_none, List.cons_append, List.nil_append, List.append_nil, Nat.add_zero, zbind_some, zi_toNat, zi_lt, zi_inj, zi_add, zi_mul, zi_ne_zn, zn_ne_zi, zn_lt_zi, zi_lt_zn, Nat.not_lt_zero, false_or, if_true, if_false, true_or, or_false, Nat.reduceEqDiff, eq_self, zi_ne_zn, zi_div, zi_sub, e253]
  refine b270_30.trans ?_
  simp (disch := first | assumption | omega) only [↓zn_l, zl_0, zl_1, zl_2, zl_3, zl_4, zl_5, zl_6, zl_7, zl_8, zl_9, zl_10, zl_11, zl_12, zl_13, zl_14, zl_15, zl_16, zl_17, zl_18, zl_19, zl_20, zl_21, zl_22, zl_23, zl_24, zl_25, zl_26, zl_27, zl_28, zl_29, zl_30, zl_31, zl_32, zl_36, zl_46, zl_48, zl_50, zl_57, zl_63, zl_64, zl_72, zl_97, zl_99, zl_100, zl_101, zl_122, zl_127, zl_200, zl_255, zl_406, zl_534, zl_540, zl_600, zl_9999, zl_33, zl_34, zl_35, zl_37, zl_38, zl_39, zl_40, zl_41, zl_42, zl_43, zl_44, zl_45, zl_47, zl_49, zl_52, zl_53, zl_54, zl_55, zl_58, zl_59, zl_60, zl_61, zl_62, zl_65, zl_70, zl_71, zl_98, zl_102, zl_103, zl_104, zl_105, zl_110, zl_111, zl_115, zl_120, zl_123, zl_126, zl_128, zl_256, zl_1000, zl_1024, zcon_inl, zcon_inr, Option.toList_some, Option.toList_none, List.cons_append, List.nil_append, List.append_nil, Nat.add_zero, zbind_some, zi_toNat, zi_lt, zi_inj, zi_add, zi_mul, zi_ne_zn, zn_ne_zi, zn_lt_zi, zi_lt_zn, Nat.not_lt_zero, false_or, if_true, if_false, true_or, or_false, Nat.reduceEqDiff, eq_self, zi_div, e203]
  refine b270_46.trans ?_
  rw [e258, zcon_inl]
  refine b270_50.trans ?_
  simp (disch := first | assumption | omega) only [↓zn_l, zl_0, zl_1, zl_2, zl_3, zl_4, zl_5, zl_6, zl_7, zl_8, zl_9, zl_10, zl_11, zl_12, zl_13, zl_14, zl_15, zl_16, zl_17, zl_18, zl_19, zl_20, zl_21, zl_22, zl_23, zl_24, zl_25, zl_26, zl_27, zl_28, zl_29, zl_30, zl_31, zl_32, zl_36, zl_46, zl_48, zl_50, zl_57, zl_63, zl_64, zl_72, zl_97, zl_99, zl_100, zl_101, zl_122, zl_127, zl_200, zl_255, zl_406, zl_534, zl_540, zl_600, zl_9999, zl_33, zl_34, zl_35, zl_37, zl_38, zl_39, zl_40, zl_41, zl_42, zl_43, zl_44, zl_45, zl_47, zl_49, zl_52, zl_53, zl_54, zl_55, zl_58, zl_59, zl_60, zl_61, zl_62, zl_65, zl_70, zl_71, zl_98, zl_102, zl_103, zl_104, zl_105, zl_110, zl_111, zl_115, zl_120, zl_123, zl_126, zl_128, zl_256, zl_1000, zl_1024, zcon_inl, zcon_inr, Option.toList_some, Option.toList_none, List.cons_append, List.nil_append, List.append_nil, Nat.add_zero, zbind_some, zi_toNat, zi_lt, zi_inj, zi_add, zi_mul, zi_ne_zn, zn_ne_zi, zn_lt_zi, zi_lt_zn, Nat.not_lt_zero, false_or, if_true, if_false, true_or, or_false, Nat.reduceEqDiff, eq_self, zw_so, e271]
  exact b270_62
theorem m270 {n : Nat} (I : zIv T) (E : zEx T) (S : zRs D T) (R : zRd s T) (h2 : n ≤ 72) : ∃ D' s', zev X 270 0 [.ref 168, .int (zi n), zJ, zJ] [] (zHP (zrow D 172 s) O, k) = some (.inl (some (.int (zi (rTakes n T).1))), (zHP (zrow D' 172 s') O, k)) ∧ ((∀ a, a ≠ 168 → D' a = D a) ∧ ∀ j, j ≠ 40 → D' 168 j = D 168 j) ∧ zRd s' (rTakes n T).2 ∧ zIv (rTakes n T).2 ∧ zEx (rTakes n T).2 ∧ zIm T (rTakes n T).2 ∧ (rTakes n T).1 = (rTkX n T none).1 ∧ ∀ r, (rTkX n T none).2.2 = some r → D' 168 40 = zi r := by
  have h540 : ¬ 540 ≤ 6 := by omega
  have fin : ∀ (D : ZD2) s t (v : Int32), t ≤ n → zev X 270 66 [.ref 168, .int (zi n), .int (zi t), .int v] [] (zHP (zrow D 172 s) O, k) = some (.inl (some (.int (zi t))), (zHP (zrow D 172 (zu s 6 (s 6 + zi t))) O, k)) := by
    intro D s t v ht
    refine b270_66.trans ?_
    simp (disch := first | assumption | omega) only [↓zn_l, zl_0, zl_1, zl_2, zl_3, zl_4, zl_5, zl_6, zl_7, zl_8, zl_9, zl_10, zl_11, zl_12, zl_13, zl_14, zl_15, zl_16, zl_17, zl_18, zl_19, zl_20, zl_21, zl_22, zl_23, zl_24, zl_25, zl_26, zl_27, zl_28, zl_29, zl_30, zl_31, zl_32, zl_36, zl_46, zl_48, zl_50, zl_57, zl_63, zl_64, zl_72, zl_97, zl_99, zl_100, zl_101, zl_122, zl_127, zl_200, zl_255, zl_406, zl_534, zl_540, zl_600, zl_9999, zl_33, zl_34, zl_35, zl_37, zl_38, zl_39, zl_40, zl_41, zl_42, zl_43, zl_44, zl_45, zl_47, zl_49, zl_52, zl_53, zl_54, zl_55, zl_58, zl_59, zl_60, zl_61, zl_62, zl_65, zl_70, zl_71, zl_98, zl_102, zl_103, zl_104, zl_105, zl_110, zl_111, zl_115, zl_120, zl_123, zl_126, zl_128, zl_256, zl_1000, zl_1024, zcon_inl, zcon_inr, Option.toList_some, Option.toList_none, List.cons_append, List.nil_append, List.append_nil, Nat.add_zero, zbind_some, zi_toNat, zi_lt, zi_inj, zi_add, zi_mul, zi_ne_zn, zn_ne_zi, zn_lt_zi, zi_lt_zn, Nat.not_lt_zero, false_or, if_true, if_false, true_or, or_false, Nat.reduceEqDiff, eq_self, h540, zrow_self, zw_s]
  have key : ∀ d t V o (D : ZD2) s, t + d = n → zBt T V → zRs D T → zRd s V → (∀ r, o = some r → D 168 40 = zi r) → ∃ D' s', zev X 270 7 [.ref 168, .int (zi n), .int (zi t), .int (zo (sTaken V))] [] (zHP (zrow D 172 s) O, k) = some (.inl (some (.int (zi (t + (rTkX d V o).1)))), (zHP (zrow D' 172 (zu s' 6 (s' 6 + zi (t + (rTkX d V o).1)))) O, k)) ∧ ((∀ a, a ≠ 168 → D' a = D a) ∧ ∀ j, j ≠ 40 → D' 168 j = D 168 j) ∧ zRd s' (rTkX d V o).2.1 ∧ zBt T (rTkX d V o).2.1 ∧ ∀ r, (rTkX d V o).2.2 = some r → D' 168 40 = zi r := by
    intro d
    induction d with
    | zero =>
      intro t V o D s hi B SV RV hD
      have e : t = n := by omega
      refine ⟨D, s, ?_, ⟨fun _ _ => rfl, fun _ _ => rfl⟩, RV, B, hD⟩
      rw [rTkX, Nat.add_zero]
      refine b270_7.trans ?_
      rw [if_neg (by rw [e, zi_lt (by omega) (by omega)]; omega)]
      exact fin D s t _ (by omega)
    | succ d ih =>
      intro t V o D s hi B SV RV hD
      cases ht : sTaken V with
      | none =>
        rw [rTkX_none ht]
        refine ⟨D, s, ?_, ⟨fun _ _ => rfl, fun _ _ => rfl⟩, RV, B, hD⟩
        refine b270_7.trans ?_
        rw [if_pos (by rw [zi_lt (by omega) (by omega)]; omega), show zo none = zn from rfl, zn_l, if_pos rfl]
        exact fin D s t _ (by omega)
      | some r =>
        obtain ⟨s1, e1, R1⟩ := m270step (X := X) (O := O) (k := k) (n := zi n) (t := t) B.1 (zRs_im SV B.2.2.1 (zIv_np6 I)) RV ht (by rw [zi_lt (by omega) (by omega)]; omega)
        obtain ⟨D', s', e2, F2, R2, B2, L2⟩ := ih (t + 1) (uTakeX V r (sFr V r)) (some r) (zw D 168 40 (zi r)) s1 (by omega) (zBt_step B ht) (zRs_frS ⟨fun a a1 _ _ => zw_row a1, fun j _ _ j3 => zw_ne (by omega)⟩ SV) R1 (fun q hq => by cases hq; exact zw_self _ _ _ _)
        rw [rTkX_some ht]
        refine ⟨D', s', ?_, ⟨fun a a1 => (F2.1 a a1).trans (zw_row a1), fun j j1 => (F2.2 j j1).trans (zw_ne (by omega))⟩, R2, B2, L2⟩
        rw [show zo (some r) = zi r from rfl, e1]
        have ea : t + ((rTkX d (uTakeX V r (sFr V r)) (some r)).1 + 1) = t + 1 + (rTkX d (uTakeX V r (sFr V r)) (some r)).1 := by omega
        simp only [ea]
        exact e2
  obtain ⟨D', s', e, F, R', B', L⟩ := key n 0 T none D s (by omega) ⟨I, E, zIm_rfl, rfl⟩ S R (fun r h => by cases h)
  have tk : rTakes n T = ((rTkX n T none).1, zw (rTkX n T none).2.1 1 11 (T 1 11 + zi (rTkX n T none).1)) := by
    have e0 : zw T 1 11 (T 1 11) = T := zw_same rfl
    have := rTakes_eq n T (T 1 11) none
    rw [e0] at this
    exact this
  have e6 : s' 6 = T 1 11 := by
    have := zRt_all.mp R'.1 6 (by omega)
    rw [this, B'.2.2.2]
  rw [tk]
  refine ⟨D', zu s' 6 (s' 6 + zi (rTkX n T none).1), ?_, F, ?_, ?_, ?_, ?_, rfl, L⟩
  · rw [b270_0, m271 I S R, zcon_inl]
    refine b270_6.trans ?_
    rw [Nat.zero_add] at e
    exact e
  · rw [e6]
    exact zRd_w1 (i := 6) R' (by omega) (by omega)
  · exact zIv_w1 B'.1 (by omega) (by omega) (by omega)
  · exact zEx_w1 B'.2.1
  · exact zIm_w B'.2.2.1 (by omega) (by omega) (by omega)
end
