/-! The model's last changes: ends, prices, trust, the watch list; back and forth. -/
section
variable {X : ZX} {D T : ZD2} {s : Nat → Int32} {O : ZO2} {k : Nat × Nat × Nat}
/-- what stands while a program ends -/
def zBe (T V : ZD2) : Prop := zIv V ∧ zEx V ∧ zIm T V ∧ V 1 = T 1
theorem uEndRow_1 {p g : Nat} : uEndRow p g T 1 = T 1 := by
  unfold uEndRow uForget
  rw [zw_row (by omega), zw_row (by omega), zw_row (by omega)]
  unfold uEndIn
  split
  · exact uLeave_o (by omega) (by omega)
  · rfl
theorem zBe_step {V : ZD2} {p g : Nat} (B : zBe T V) (hp : p < 6) (hg : g < 12) : zBe T (uEndRow p g V) := by
  obtain ⟨I, E, M, h1⟩ := B
  have hr : 12 * p + g < 72 := by omega
  have key : zIv (uEndIn V (12 * p + g)) ∧ zEx (uEndIn V (12 * p + g)) ∧ zIm T (uEndIn V (12 * p + g)) := by
    unfold uEndIn
    cases hi : sIn V (12 * p + g)
    · exact ⟨I, E, M⟩
    · obtain ⟨f1, f2⟩ := sFr_of (zIv_at I _ hr) hi
      rw [if_pos rfl]
      exact ⟨zIv_leave I hr f1 f2, zEx_leave I E hr f1 f2, zIm_leave M⟩
  obtain ⟨I1, E1, M1⟩ := key
  refine ⟨zIv_forget (zIv_pin (w := false) I1 hr) hr, zEx_forget (zEx_w3 E1 (by omega)), zIm_forget (zIm_w M1 (by omega) (by omega) (by omega)), uEndRow_1.trans h1⟩
theorem m291step {p g : Nat} {b : Int32} {V : ZD2} (I : zIv V) (S : zRs D V) (R : zRd s V) (hp : p < sNp V) (hg : g < sPgs V p) : ∃ s', zev X 291 35 [.ref 168, .int (zi p), .int b, .int (zi g)] [] (zHP (zrow D 172 s) O, k) = zev X 291 35 [.ref 168, .int (zi p), .int b, .int (zi (g + 1))] [] (zHP (zrow D 172 s') O, k) ∧ zRd s' (uEndRow p g V) := by
  have n2 := zIv_np6 I
  have hp6 : p < 6 := by omega
  have h6 : ¬ 6 ≤ p := by omega
  obtain ⟨g1, g2⟩ := zIv_pg I hp6
  have eP : D 170 p = zi (sPgs V p) := (S.2.1 p hp).trans g1
  have hr : 12 * p + g < 72 := by omega
  have e214 := m214 (X := X) (D := D) (O := O) (k := k) (p := p) (g := g) R hp6 (by omega)
  have start : zev X 291 35 [.ref 168, .int (zi p), .int b, .int (zi g)] [] (zHP (zrow D 172 s) O, k) = zev X 291 51 [.ref 168, .int (zi p), .int b, .int (zi g)] [.int (zb (sIn V (12 * p + g)))] (zHP (zrow D 172 s) O, k) := by
    refine b291_35.trans ?_
    simp (disch := first | assumption | omega) only [↓zn_l, zl_0, zl_1, zl_2, zl_3, zl_4, zl_5, zl_6, zl_7, zl_8, zl_9, zl_10, zl_11, zl_12, zl_13, zl_14, zl_15, zl_16, zl_17, zl_18, zl_19, zl_20, zl_21, zl_22, zl_23, zl_24, zl_25, zl_26, zl_27, zl_28, zl_29, zl_30, zl_31, zl_32, zl_36, zl_46, zl_48, zl_50, zl_57, zl_63, zl_64, zl_72, zl_97, zl_99, zl_100, zl_101, zl_122, zl_127, zl_200, zl_255, zl_406, zl_534, zl_540, zl_600, zl_9999, zl_33, zl_34, zl_35, zl_37, zl_38, zl_39, zl_40, zl_41, zl_42, zl_43, zl_44, zl_45, zl_47, zl_49, zl_52, zl_53, zl_54, zl_55, zl_58, zl_59, zl_60, zl_61, zl_62, zl_65, zl_70, zl_71, zl_98, zl_102, zl_103, zl_104, zl_105, zl_110, zl_111, zl_115, zl_120, zl_123, zl_126, zl_128, zl_256, zl_1000, zl_1024, zcon_inl, zcon_inr, Option.toList_some, Option.toList_none, List.cons_append, List.nil_append, List.append_nil, Nat.add_zero, zbind_some, zi_toNat, zi_lt, zi_inj, zi_add, zi_mul, zi_ne_zn, zn_ne_zi, zn_lt_zi, zi_lt_zn, Nat.not_lt_zero, false_or, if_true, if_false, true_or, or_false, Nat.reduceEqDiff, eq_self, h6, e170s, eP, hg, e214]
  have mid : ∃ s1, zev X 291 51 [.ref 168, .int (zi p), .int b, .int (zi g)] [.int (zb (sIn V (12 * p + g)))] (zHP (zrow D 172 s) O, k) = zev X 291 61 [.ref 168, .int (zi p), .int b, .int (zi g)] [] (zHP (zrow D 172 s1) O, k) ∧ zRd s1 (uEndIn V (12 * p + g)) := by
    rw [b291_51, zl_0]
    unfold uEndIn
    cases hi : sIn V (12 * p + g)
    · rw [if_pos zb_f]
      exact ⟨s, rfl, R⟩
    · obtain ⟨f1, f2⟩ := sFr_of (zIv_at I _ hr) hi
      have e253 := m253 (X := X) (D := D) (O := O) (k := k) (w := true) (g := g) I S R hp (by omega) f1 f2
      rw [zb_t] at e253
      rw [if_neg zbt0, zl_1, e253, zcon_inl, if_pos rfl]
      exact ⟨_, rfl, zRd_leave (w := true) I R hr f1 f2⟩
  obtain ⟨s1, e1, R1⟩ := mid
  have np1 : sNp (uEndIn V (12 * p + g)) = sNp V := by
    unfold uEndIn
    split
    · exact zRd_np (by rw [uLeave_o (by omega) (by omega)])
    · rfl
  have e261 := @m261 X D s1 O k p g hp6 (by omega)
  have e254 := @m254 X D (vForget s1 (12 * p + g)) O k p g 2 (zi 0) hp6 (by omega) (by omega)
  have R2 := zRd_forget (r := 12 * p + g) R1 hr (by omega)
  have n3 : sNp (uForget (uEndIn V (12 * p + g)) (12 * p + g)) = sNp V := (zRd_np (by unfold uForget; rw [zw_row (by omega), zw_row (by omega)])).trans np1
  have R3 := zRd_pin (r := 12 * p + g) (v := zi 0) R2 hr (by omega)
  have ec : zw (uForget (uEndIn V (12 * p + g)) (12 * p + g)) 3 (5 * (12 * p + g) + 2) (zi 0) = uEndRow p g V := by
    unfold uEndRow uForget
    generalize uEndIn V (12 * p + g) = W
    rw [zw_comm (a := 3) (b := 3) (i := 5 * (12 * p + g) + 4) (j := 5 * (12 * p + g) + 2) (by omega), zw_comm (a := 3) (b := 3) (i := 5 * (12 * p + g) + 3) (j := 5 * (12 * p + g) + 2) (by omega)]
  rw [ec] at R3
  refine ⟨_, ?_, R3⟩
  rw [start, e1, b291_61, e261, zcon_inl]
  refine b291_67.trans ?_
  rw [zl_2, zl_0]
  change zcon (zev X 254 0 _ [] (zHP (zrow D 172 (vForget s1 (12 * p + g))) O, k)) _ = _
  rw [e254, zcon_inl]
  refine b291_75.trans ?_
  rw [zl_1, zi_add]
  rfl
theorem uEndRow_no {V : ZD2} {p g : Nat} (E : zEx V) (I : zIv V) (Z : zPz V) (hp : p < 6) (hg : g < 12) (hn : sNp V ≤ p ∨ sPgs V p ≤ g) : uEndRow p g V = V := by
  obtain ⟨a1, a2⟩ := I.2.2.2.1.2 p g hp hg hn
  have hi : sIn V (12 * p + g) = false := by unfold sIn; simp [a1]
  have a3 := E.1 (12 * p + g) (by omega) a2
  have a4 := Z p g hp hg hn
  unfold uEndRow uEndIn uForget
  rw [hi]
  simp only [Bool.false_eq_true, if_false]
  rw [zw_same a4, zw_same a2, zw_same a3]
theorem zPz_end {V : ZD2} {p g : Nat} (Z : zPz V) (hp : p < 6) (hg : g < 12) : zPz (uEndRow p g V) := by
  have eP : ∀ q, sPgs (uEndRow p g V) q = sPgs V q := fun q => by
    unfold sPgs uEndRow uForget
    rw [zw_row (by omega), zw_row (by omega), zw_row (by omega)]
    unfold uEndIn
    split
    · rw [uLeave_o (by omega) (by omega)]
    · rfl
  have eN : sNp (uEndRow p g V) = sNp V := zRd_np (by rw [uEndRow_1])
  intro q h hq hh hb
  rw [eN, eP] at hb
  have := Z q h hq hh hb
  unfold uEndRow uForget
  rw [zw_ne (by omega), zw_ne (by omega)]
  by_cases e : 12 * q + h = 12 * p + g
  · rw [e, zw_self]
  · rw [zw_ne (by omega)]
    unfold uEndIn
    split
    · rw [uLeave_3, zw_ne (by omega)]; exact this
    · exact this
theorem m291 {p hh : Nat} (I : zIv T) (E : zEx T) (Z : zPz T) (S : zRs D T) (R : zRd s T) (h : D 168 1 = zi 1) (hD : D 168 14 = zi hh) (h8 : hh ≤ 8) (hp : p < sNp T) (he : sEnd T p = false) : ∃ D' s', zCh D s T hh D' s' (uEnd T p) ∧ zPz (uEnd T p) ∧ zev X 291 0 [.ref 168, .int (zi p), zJ, zJ] [] (zHP (zrow D 172 s) O, k) = some (.inl (some (.int (zi (sFrees (uEnd T p)) - zi (sFrees T)))), (zHP (zrow D' 172 s') O, k)) := by
  have n2 := zIv_np6 I
  have hp6 : p < 6 := by omega
  have h6 : ¬ 6 ≤ p := by omega
  obtain ⟨g1, g2⟩ := zIv_pg I hp6
  have e223 := m223 (X := X) (s := s) (O := O) (k := k) I S h hp
  have e202 := m202 (X := X) (D := zth D 0) (O := O) (k := k) I R hp
  rw [he, zb_f] at e202
  obtain ⟨D1, e283, K⟩ := m283 (X := X) (s := s) (O := O) (k := k) hD h8
  have S1 := zRs_kp K S
  have e205 := m205 (X := X) (O := O) (k := k) (w := zi 0) I S1 R
  have loop : ∀ d i V (s : Nat → Int32), i + d = sPgs T p → zBe T V → zPz V → zRd s V → ∃ s', zev X 291 35 [.ref 168, .int (zi p), .int (zi (sFrees T)), .int (zi i)] [] (zHP (zrow D1 172 s) O, k) = zev X 291 35 [.ref 168, .int (zi p), .int (zi (sFrees T)), .int (zi (sPgs T p))] [] (zHP (zrow D1 172 s') O, k) ∧ zRd s' (zfo (uEndRow p) d i V) ∧ zBe T (zfo (uEndRow p) d i V) ∧ zPz (zfo (uEndRow p) d i V) := by
    intro d
    induction d with
    | zero =>
      intro i V s hi B ZV RV
      have e : i = sPgs T p := by omega
      rw [e]
      exact ⟨s, rfl, RV, B, ZV⟩
    | succ d ih =>
      intro i V s hi B ZV RV
      have eg : sPgs V p = sPgs T p := by unfold sPgs; rw [(B.2.2.1.2.2 p hp6).1]
      obtain ⟨s1, e1, R1⟩ := m291step (X := X) (D := D1) (O := O) (k := k) (p := p) (g := i) (b := zi (sFrees T)) B.1 (zRs_im S1 B.2.2.1 n2) RV (by rw [zRd_np B.2.2.1.2.1]; exact hp) (by omega)
      obtain ⟨s', e2, R2⟩ := ih (i + 1) (uEndRow p i V) s1 (by omega) (zBe_step B hp6 (by omega)) (zPz_end ZV hp6 (by omega)) R1
      have ez : zfo (uEndRow p) (d + 1) i V = zfo (uEndRow p) d (i + 1) (uEndRow p i V) := by rw [zfo]
      rw [ez]
      exact ⟨s', e1.trans e2, R2⟩
  obtain ⟨s1, e1, R1, B1, Z1⟩ := loop (sPgs T p) 0 T s (by omega) ⟨I, E, zIm_rfl, rfl⟩ Z R
  have pad : zfo (uEndRow p) 12 0 T = zfo (uEndRow p) (sPgs T p) 0 T := by
    have e12 : 12 = sPgs T p + (12 - sPgs T p) := by omega
    have ea := zfo_add (uEndRow p) (sPgs T p) (12 - sPgs T p) 0 T
    rw [← e12] at ea
    rw [ea]
    have eg : sPgs (zfo (uEndRow p) (sPgs T p) 0 T) p = sPgs T p := by
      show (zfo (uEndRow p) (sPgs T p) 0 T 2 (12 * p + 1)).toNatClampNeg = (T 2 (12 * p + 1)).toNatClampNeg
      rw [(B1.2.2.1.2.2 p hp6).1]
    generalize zfo (uEndRow p) (sPgs T p) 0 T = W at *
    have fix : ∀ d i, sPgs T p ≤ i → i + d ≤ 12 → zfo (uEndRow p) d i W = W := by
      intro d
      induction d with
      | zero => intro i _ _; rfl
      | succ d ih =>
        intro i h1 h2
        rw [zfo, uEndRow_no B1.2.1 B1.1 Z1 hp6 (by omega) (Or.inr (by omega))]
        exact ih (i + 1) (by omega) (by omega)
    exact fix _ _ (by omega) (by omega)
  have eU : uEnd T p = zw (zfo (uEndRow p) (sPgs T p) 0 T) 2 (12 * p + 10) (zi 1) := by unfold uEnd; rw [pad]
  have np1 : sNp (zfo (uEndRow p) (sPgs T p) 0 T) = sNp T := zRd_np B1.2.2.1.2.1
  have RU := zRd_ended (p := p) (v := zi 1) R1 hp6 (by omega)
  have IU := zIv_ended B1.1 hp6
  have MU : zIm T (zw (zfo (uEndRow p) (sPgs T p) 0 T) 2 (12 * p + 10) (zi 1)) := zIm_p B1.2.2.1 (by omega) (by omega)
  have e205U := m205 (X := X) (O := O) (k := k) (w := zi 0) IU (zRs_im S1 MU n2) RU
  have e260 := @m260 X D1 s1 O k p 5 (zi 1) hp6 (by omega)
  have eP : D1 170 p = zi (sPgs T p) := (S1.2.1 p hp).trans g1
  rw [eU]
  refine ⟨D1, _, ⟨K, RU, IU, zEx_w2 B1.2.1, MU⟩, ?_, ?_⟩
  · intro q j a b c
    have eq : sPgs (zw (zfo (uEndRow p) (sPgs T p) 0 T) 2 (12 * p + 10) (zi 1)) q = sPgs (zfo (uEndRow p) (sPgs T p) 0 T) q := by unfold sPgs; rw [zw_ne (by omega)]
    have en : sNp (zw (zfo (uEndRow p) (sPgs T p) 0 T) 2 (12 * p + 10) (zi 1)) = sNp (zfo (uEndRow p) (sPgs T p) 0 T) := zRd_np (by rw [zw_row (by omega)])
    rw [eq, en] at c
    rw [zw_row (by omega)]
    exact Z1 q j a b c
  · simp (disch := first | assumption | omega) only [b291_0, e223, b291_5, e202, b291_14, m176f0, b291_18, ↓zn_l, zl_0, zl_1, zl_2, zl_3, zl_4, zl_5, zl_6, zl_7, zl_8, zl_9, zl_10, zl_11, zl_12, zl_13, zl_14, zl_15, zl_16, zl_17, zl_18, zl_19, zl_20, zl_21, zl_22, zl_23, zl_24, zl_25, zl_26, zl_27, zl_28, zl_29, zl_30, zl_31, zl_32, zl_36, zl_46, zl_48, zl_50, zl_57, zl_63, zl_64, zl_72, zl_97, zl_99, zl_100, zl_101, zl_122, zl_127, zl_200, zl_255, zl_406, zl_534, zl_540, zl_600, zl_9999, zl_33, zl_34, zl_35, zl_37, zl_38, zl_39, zl_40, zl_41, zl_42, zl_43, zl_44, zl_45, zl_47, zl_49, zl_52, zl_53, zl_54, zl_55, zl_58, zl_59, zl_60, zl_61, zl_62, zl_65, zl_70, zl_71, zl_98, zl_102, zl_103, zl_104, zl_105, zl_110, zl_111, zl_115, zl_120, zl_123, zl_126, zl_128, zl_256, zl_1000, zl_1024, zcon_inl, zcon_inr, Option.toList_some, Option.toList_none, List.cons_append, List.nil_append, List.append_nil, Nat.add_zero, zbind_some, zi_toNat, zi_lt, zi_inj, zi_add, zi_mul, zi_ne_zn, zn_ne_zi, zn_lt_zi, zi_lt_zn, Nat.not_lt_zero, false_or, if_true, if_false, true_or, or_false, Nat.reduceEqDiff, eq_self, e283]
    refine b291_27.trans ?_
    rw [zl_0, e205, zcon_inl]
    refine b291_32.trans ?_
    rw [zl_0]
    refine e1.trans ?_
    refine b291_35.trans ?_
    simp (disch := first | assumption | omega) only [↓zn_l, zl_0, zl_1, zl_2, zl_3, zl_4, zl_5, zl_6, zl_7, zl_8, zl_9, zl_10, zl_11, zl_12, zl_13, zl_14, zl_15, zl_16, zl_17, zl_18, zl_19, zl_20, zl_21, zl_22, zl_23, zl_24, zl_25, zl_26, zl_27, zl_28, zl_29, zl_30, zl_31, zl_32, zl_36, zl_46, zl_48, zl_50, zl_57, zl_63, zl_64, zl_72, zl_97, zl_99, zl_100, zl_101, zl_122, zl_127, zl_200, zl_255, zl_406, zl_534, zl_540, zl_600, zl_9999, zl_33, zl_34, zl_35, zl_37, zl_38, zl_39, zl_40, zl_41, zl_42, zl_43, zl_44, zl_45, zl_47, zl_49, zl_52, zl_53, zl_54, zl_55, zl_58, zl_59, zl_60, zl_61, zl_62, zl_65, zl_70, zl_71, zl_98, zl_102, zl_103, zl_104, zl_105, zl_110, zl_111, zl_115, zl_120, zl_123, zl_126, zl_128, zl_256, zl_1000, zl_1024, zcon_inl, zcon_inr, Option.toList_some, Option.toList_none, List.cons_append, List.nil_append, List.append_nil, Nat.add_zero, zbind_some, zi_toNat, zi_lt, zi_inj, zi_add, zi_mul, zi_ne_zn, zn_ne_zi, zn_lt_zi, zi_lt_zn, Nat.not_lt_zero, false_or, if_true, if_false, true_or, or_false, Nat.reduceEqDiff, eq_self, h6, e170s, eP, Nat.lt_irrefl, e260]
    refine b291_88.trans ?_
    rw [zl_0, e205U, zcon_inl]
    exact b291_93
theorem m291n1 {a : Int32} (h : D 168 1 = zi 0) : zev X 291 0 [.ref 168, .int a, zJ, zJ] [] (zHP (zrow D 172 s) O, k) = some (.inl (some (.int (zi 0))), (zHP (zrow (zth D 1) 172 s) O, k)) := by
  have e := m223n1 (X := X) (s := s) (O := O) (k := k) (a := a) h
  simp (disch := first | assumption | omega) only [b291_0, b291_5, ↓zn_l, zl_0, zl_1, zl_2, zl_3, zl_4, zl_5, zl_6, zl_7, zl_8, zl_9, zl_10, zl_11, zl_12, zl_13, zl_14, zl_15, zl_16, zl_17, zl_18, zl_19, zl_20, zl_21, zl_22, zl_23, zl_24, zl_25, zl_26, zl_27, zl_28, zl_29, zl_30, zl_31, zl_32, zl_36, zl_46, zl_48, zl_50, zl_57, zl_63, zl_64, zl_72, zl_97, zl_99, zl_100, zl_101, zl_122, zl_127, zl_200, zl_255, zl_406, zl_534, zl_540, zl_600, zl_9999, zl_33, zl_34, zl_35, zl_37, zl_38, zl_39, zl_40, zl_41, zl_42, zl_43, zl_44, zl_45, zl_47, zl_49, zl_52, zl_53, zl_54, zl_55, zl_58, zl_59, zl_60, zl_61, zl_62, zl_65, zl_70, zl_71, zl_98, zl_102, zl_103, zl_104, zl_105, zl_110, zl_111, zl_115, zl_120, zl_123, zl_126, zl_128, zl_256, zl_1000, zl_1024, zcon_inl, zcon_inr, Option.toList_some, Option.toList_none, List.cons_append, List.nil_append, List.append_nil, Nat.add_zero, zbind_some, zi_toNat, zi_lt, zi_inj, zi_add, zi_mul, zi_ne_zn, zn_ne_zi, zn_lt_zi, zi_lt_zn, Nat.not_lt_zero, false_or, if_true, if_false, true_or, or_false, Nat.reduceEqDiff, eq_self, e]
theorem m291n2 {a : Int32} (I : zIv T) (S : zRs D T) (h : D 168 1 = zi 1) (ha : a < zi 0 ∨ ¬ a < zi (sNp T)) : zev X 291 0 [.ref 168, .int a, zJ, zJ] [] (zHP (zrow D 172 s) O, k) = some (.inl (some (.int (zi 0))), (zHP (zrow (zth D 2) 172 s) O, k)) := by
  have e := m223n2 (X := X) (s := s) (O := O) (k := k) I S h ha
  simp (disch := first | assumption | omega) only [b291_0, b291_5, ↓zn_l, zl_0, zl_1, zl_2, zl_3, zl_4, zl_5, zl_6, zl_7, zl_8, zl_9, zl_10, zl_11, zl_12, zl_13, zl_14, zl_15, zl_16, zl_17, zl_18, zl_19, zl_20, zl_21, zl_22, zl_23, zl_24, zl_25, zl_26, zl_27, zl_28, zl_29, zl_30, zl_31, zl_32, zl_36, zl_46, zl_48, zl_50, zl_57, zl_63, zl_64, zl_72, zl_97, zl_99, zl_100, zl_101, zl_122, zl_127, zl_200, zl_255, zl_406, zl_534, zl_540, zl_600, zl_9999, zl_33, zl_34, zl_35, zl_37, zl_38, zl_39, zl_40, zl_41, zl_42, zl_43, zl_44, zl_45, zl_47, zl_49, zl_52, zl_53, zl_54, zl_55, zl_58, zl_59, zl_60, zl_61, zl_62, zl_65, zl_70, zl_71, zl_98, zl_102, zl_103, zl_104, zl_105, zl_110, zl_111, zl_115, zl_120, zl_123, zl_126, zl_128, zl_256, zl_1000, zl_1024, zcon_inl, zcon_inr, Option.toList_some, Option.toList_none, List.cons_append, List.nil_append, List.append_nil, Nat.add_zero, zbind_some, zi_toNat, zi_lt, zi_inj, zi_add, zi_mul, zi_ne_zn, zn_ne_zi, zn_lt_zi, zi_lt_zn, Nat.not_lt_zero, false_or, if_true, if_false, true_or, or_false, Nat.reduceEqDiff, eq_self, e]
theorem m291n3 {p : Nat} (I : zIv T) (S : zRs D T) (R : zRd s T) (h : D 168 1 = zi 1) (hp : p < sNp T) (he : sEnd T p = true) : zev X 291 0 [.ref 168, .int (zi p), zJ, zJ] [] (zHP (zrow D 172 s) O, k) = some (.inl (some (.int (zi 0))), (zHP (zrow (zth D 3) 172 s) O, k)) := by
  have e := m223 (X := X) (s := s) (O := O) (k := k) I S h hp
  have e202 := m202 (X := X) (D := zth D 0) (O := O) (k := k) I R hp
  rw [he, zb_t] at e202
  simp (disch := first | assumption | omega) only [b291_0, b291_5, b291_14, b291_18, ↓zn_l, zl_0, zl_1, zl_2, zl_3, zl_4, zl_5, zl_6, zl_7, zl_8, zl_9, zl_10, zl_11, zl_12, zl_13, zl_14, zl_15, zl_16, zl_17, zl_18, zl_19, zl_20, zl_21, zl_22, zl_23, zl_24, zl_25, zl_26, zl_27, zl_28, zl_29, zl_30, zl_31, zl_32, zl_36, zl_46, zl_48, zl_50, zl_57, zl_63, zl_64, zl_72, zl_97, zl_99, zl_100, zl_101, zl_122, zl_127, zl_200, zl_255, zl_406, zl_534, zl_540, zl_600, zl_9999, zl_33, zl_34, zl_35, zl_37, zl_38, zl_39, zl_40, zl_41, zl_42, zl_43, zl_44, zl_45, zl_47, zl_49, zl_52, zl_53, zl_54, zl_55, zl_58, zl_59, zl_60, zl_61, zl_62, zl_65, zl_70, zl_71, zl_98, zl_102, zl_103, zl_104, zl_105, zl_110, zl_111, zl_115, zl_120, zl_123, zl_126, zl_128, zl_256, zl_1000, zl_1024, zcon_inl, zcon_inr, Option.toList_some, Option.toList_none, List.cons_append, List.nil_append, List.append_nil, Nat.add_zero, zbind_some, zi_toNat, zi_lt, zi_inj, zi_add, zi_mul, zi_ne_zn, zn_ne_zi, zn_lt_zi, zi_lt_zn, Nat.not_lt_zero, false_or, if_true, if_false, true_or, or_false, Nat.reduceEqDiff, eq_self, e, e202, m176t0]
theorem m292 {p v hh : Nat} (I : zIv T) (E : zEx T) (S : zRs D T) (R : zRd s T) (h : D 168 1 = zi 1) (hD : D 168 14 = zi hh) (h8 : hh ≤ 8) (hp : p < sNp T) (h1 : 1 ≤ v) (h2 : v ≤ 99) : ∃ D' s', zCh D s T hh D' s' (zw T 2 (12 * p) (zi v)) ∧ zev X 292 0 [.ref 168, .int (zi p), .int (zi v), zJ] [] (zHP (zrow D 172 s) O, k) = some (.inl (some (.int (T 2 (12 * p)))), (zHP (zrow D' 172 s') O, k)) := by
  have n2 := zIv_np6 I
  have hp6 : p < 6 := by omega
  have e223 := m223 (X := X) (s := s) (O := O) (k := k) I S h hp
  have e175 := m175z (X := X) (D := zrow (zth D 0) 172 s) (O := O) (k := k) (q := v) (l := 1) (n := 99) h1 h2 (by omega)
  obtain ⟨D1, e283, K⟩ := m283 (X := X) (s := s) (O := O) (k := k) hD h8
  have e203 := @m203 X D1 s O k p 0 hp6 (by omega)
  rw [Nat.add_zero (10 + 6 * p), (R.2.1 p hp).1] at e203
  have e260 := @m260 X D1 s O k p 0 (zi v) hp6 (by omega)
  rw [Nat.add_zero (10 + 6 * p)] at e260
  refine ⟨D1, _, ⟨K, zRd_price R hp6 n2, zIv_price I hp6 h2, zEx_w2 E, zIm_w zIm_rfl (by omega) (by omega) (fun _ => by omega)⟩, ?_⟩
  simp (disch := first | assumption | omega) only [b292_0, e223, b292_5, e175, b292_16, m176f0, b292_28, ↓zn_l, zl_0, zl_1, zl_2, zl_3, zl_4, zl_5, zl_6, zl_7, zl_8, zl_9, zl_10, zl_11, zl_12, zl_13, zl_14, zl_15, zl_16, zl_17, zl_18, zl_19, zl_20, zl_21, zl_22, zl_23, zl_24, zl_25, zl_26, zl_27, zl_28, zl_29, zl_30, zl_31, zl_32, zl_36, zl_46, zl_48, zl_50, zl_57, zl_63, zl_64, zl_72, zl_97, zl_99, zl_100, zl_101, zl_122, zl_127, zl_200, zl_255, zl_406, zl_534, zl_540, zl_600, zl_9999, zl_33, zl_34, zl_35, zl_37, zl_38, zl_39, zl_40, zl_41, zl_42, zl_43, zl_44, zl_45, zl_47, zl_49, zl_52, zl_53, zl_54, zl_55, zl_58, zl_59, zl_60, zl_61, zl_62, zl_65, zl_70, zl_71, zl_98, zl_102, zl_103, zl_104, zl_105, zl_110, zl_111, zl_115, zl_120, zl_123, zl_126, zl_128, zl_256, zl_1000, zl_1024, zcon_inl, zcon_inr, Option.toList_some, Option.toList_none, List.cons_append, List.nil_append, List.append_nil, Nat.add_zero, zbind_some, zi_toNat, zi_lt, zi_inj, zi_add, zi_mul, zi_ne_zn, zn_ne_zi, zn_lt_zi, zi_lt_zn, Nat.not_lt_zero, false_or, if_true, if_false, true_or, or_false, Nat.reduceEqDiff, eq_self, e283]
  refine b292_37.trans ?_
  rw [zl_0, e203, zcon_inl]
  refine b292_43.trans ?_
  rw [zl_0, e260, zcon_inl]
  exact b292_51
theorem m292n1 {a b : Int32} (h : D 168 1 = zi 0) : zev X 292 0 [.ref 168, .int a, .int b, zJ] [] (zHP (zrow D 172 s) O, k) = some (.inl (some (.int (zi 0))), (zHP (zrow (zth D 1) 172 s) O, k)) := by
  have e := m223n1 (X := X) (s := s) (O := O) (k := k) (a := a) h
  simp (disch := first | assumption | omega) only [b292_0, b292_5, ↓zn_l, zl_0, zl_1, zl_2, zl_3, zl_4, zl_5, zl_6, zl_7, zl_8, zl_9, zl_10, zl_11, zl_12, zl_13, zl_14, zl_15, zl_16, zl_17, zl_18, zl_19, zl_20, zl_21, zl_22, zl_23, zl_24, zl_25, zl_26, zl_27, zl_28, zl_29, zl_30, zl_31, zl_32, zl_36, zl_46, zl_48, zl_50, zl_57, zl_63, zl_64, zl_72, zl_97, zl_99, zl_100, zl_101, zl_122, zl_127, zl_200, zl_255, zl_406, zl_534, zl_540, zl_600, zl_9999, zl_33, zl_34, zl_35, zl_37, zl_38, zl_39, zl_40, zl_41, zl_42, zl_43, zl_44, zl_45, zl_47, zl_49, zl_52, zl_53, zl_54, zl_55, zl_58, zl_59, zl_60, zl_61, zl_62, zl_65, zl_70, zl_71, zl_98, zl_102, zl_103, zl_104, zl_105, zl_110, zl_111, zl_115, zl_120, zl_123, zl_126, zl_128, zl_256, zl_1000, zl_1024, zcon_inl, zcon_inr, Option.toList_some, Option.toList_none, List.cons_append, List.nil_append, List.append_nil, Nat.add_zero, zbind_some, zi_toNat, zi_lt, zi_inj, zi_add, zi_mul, zi_ne_zn, zn_ne_zi, zn_lt_zi, zi_lt_zn, Nat.not_lt_zero, false_or, if_true, if_false, true_or, or_false, Nat.reduceEqDiff, eq_self, e]
theorem m292n2 {a b : Int32} (I : zIv T) (S : zRs D T) (h : D 168 1 = zi 1) (ha : a < zi 0 ∨ ¬ a < zi (sNp T)) : zev X 292 0 [.ref 168, .int a, .int b, zJ] [] (zHP (zrow D 172 s) O, k) = some (.inl (some (.int (zi 0))), (zHP (zrow (zth D 2) 172 s) O, k)) := by
  have e := m223n2 (X := X) (s := s) (O := O) (k := k) I S h ha
  simp (disch := first | assumption | omega) only [b292_0, b292_5, ↓zn_l, zl_0, zl_1, zl_2, zl_3, zl_4, zl_5, zl_6, zl_7, zl_8, zl_9, zl_10, zl_11, zl_12, zl_13, zl_14, zl_15, zl_16, zl_17, zl_18, zl_19, zl_20, zl_21, zl_22, zl_23, zl_24, zl_25, zl_26, zl_27, zl_28, zl_29, zl_30, zl_31, zl_32, zl_36, zl_46, zl_48, zl_50, zl_57, zl_63, zl_64, zl_72, zl_97, zl_99, zl_100, zl_101, zl_122, zl_127, zl_200, zl_255, zl_406, zl_534, zl_540, zl_600, zl_9999, zl_33, zl_34, zl_35, zl_37, zl_38, zl_39, zl_40, zl_41, zl_42, zl_43, zl_44, zl_45, zl_47, zl_49, zl_52, zl_53, zl_54, zl_55, zl_58, zl_59, zl_60, zl_61, zl_62, zl_65, zl_70, zl_71, zl_98, zl_102, zl_103, zl_104, zl_105, zl_110, zl_111, zl_115, zl_120, zl_123, zl_126, zl_128, zl_256, zl_1000, zl_1024, zcon_inl, zcon_inr, Option.toList_some, Option.toList_none, List.cons_append, List.nil_append, List.append_nil, Nat.add_zero, zbind_some, zi_toNat, zi_lt, zi_inj, zi_add, zi_mul, zi_ne_zn, zn_ne_zi, zn_lt_zi, zi_lt_zn, Nat.not_lt_zero, false_or, if_true, if_false, true_or, or_false, Nat.reduceEqDiff, eq_self, e]
theorem m292n3 {p : Nat} {b : Int32} (I : zIv T) (S : zRs D T) (h : D 168 1 = zi 1) (hp : p < sNp T) (hb : b < zi 1 ∨ zi 99 < b) : zev X 292 0 [.ref 168, .int (zi p), .int b, zJ] [] (zHP (zrow D 172 s) O, k) = some (.inl (some (.int (zi 0))), (zHP (zrow (zth D 3) 172 s) O, k)) := by
  have e := m223 (X := X) (s := s) (O := O) (k := k) I S h hp
  simp (disch := first | assumption | omega) only [b292_0, b292_5, b292_16, b292_28, ↓zn_l, zl_0, zl_1, zl_2, zl_3, zl_4, zl_5, zl_6, zl_7, zl_8, zl_9, zl_10, zl_11, zl_12, zl_13, zl_14, zl_15, zl_16, zl_17, zl_18, zl_19, zl_20, zl_21, zl_22, zl_23, zl_24, zl_25, zl_26, zl_27, zl_28, zl_29, zl_30, zl_31, zl_32, zl_36, zl_46, zl_48, zl_50, zl_57, zl_63, zl_64, zl_72, zl_97, zl_99, zl_100, zl_101, zl_122, zl_127, zl_200, zl_255, zl_406, zl_534, zl_540, zl_600, zl_9999, zl_33, zl_34, zl_35, zl_37, zl_38, zl_39, zl_40, zl_41, zl_42, zl_43, zl_44, zl_45, zl_47, zl_49, zl_52, zl_53, zl_54, zl_55, zl_58, zl_59, zl_60, zl_61, zl_62, zl_65, zl_70, zl_71, zl_98, zl_102, zl_103, zl_104, zl_105, zl_110, zl_111, zl_115, zl_120, zl_123, zl_126, zl_128, zl_256, zl_1000, zl_1024, zcon_inl, zcon_inr, Option.toList_some, Option.toList_none, List.cons_append, List.nil_append, List.append_nil, Nat.add_zero, zbind_some, zi_toNat, zi_lt, zi_inj, zi_add, zi_mul, zi_ne_zn, zn_ne_zi, zn_lt_zi, zi_lt_zn, Nat.not_lt_zero, false_or, if_true, if_false, true_or, or_false, Nat.reduceEqDiff, eq_self, e, m175w, m176t0]
theorem m293 {p hh : Nat} {a : Int32} (I : zIv T) (E : zEx T) (S : zRs D T) (R : zRd s T) (h : D 168 1 = zi 1) (hD : D 168 14 = zi hh) (h8 : hh ≤ 8) (hp : p < sNp T) (h1 : ¬ a < -zi 99) (h2 : ¬ zi 99 < a) : ∃ D' s', zCh D s T hh D' s' (uTrust T p a) ∧ zev X 293 0 [.ref 168, .int (zi p), .int a] [] (zHP (zrow D 172 s) O, k) = some (.inl (some (.int (uTrust T p a 2 (12 * p + 4)))), (zHP (zrow D' 172 s') O, k)) := by
  have n2 := zIv_np6 I
  have hp6 : p < 6 := by omega
  have e223 := m223 (X := X) (s := s) (O := O) (k := k) I S h hp
  have e175 := m175p (X := X) (D := zrow (zth D 0) 172 s) (O := O) (k := k) h1 h2
  obtain ⟨D1, e283, K⟩ := m283 (X := X) (s := s) (O := O) (k := k) hD h8
  have e203 := @m203 X D1 s O k p 2 hp6 (by omega)
  rw [(R.2.1 p hp).2.2.1] at e203
  have e260 := @m260 X D1 s O k p 2 (zMx (zi 1) (zMn (T 2 (12 * p + 4) + a) (zi 100))) hp6 (by omega)
  have e203b := @m203 X D1 (zu s (10 + 6 * p + 2) (zMx (zi 1) (zMn (T 2 (12 * p + 4) + a) (zi 100)))) O k p 2 hp6 (by omega)
  rw [zu_self] at e203b
  refine ⟨D1, _, ⟨K, zRd_trust R hp6 n2, zIv_uTrust I hp6, zEx_w2 E, zIm_p zIm_rfl (by omega) (by omega)⟩, ?_⟩
  have start : zev X 293 0 [.ref 168, .int (zi p), .int a] [] (zHP (zrow D 172 s) O, k) = zev X 293 38 [.ref 168, .int (zi p), .int a] [] (zHP (zrow D1 172 s) O, k) := by
    rw [b293_0, e223, zcon_inl]
    refine b293_5.trans ?_
    rw [zl_0, if_pos rfl]
    change zcon (zev X 175 0 [.int a, .int (-zi 99), .int (zi 99)] [] (zHP (zrow (zth D 0) 172 s) O, k)) _ = _
    rw [e175, zcon_inl]
    refine b293_17.trans ?_
    simp (disch := first | assumption | omega) only [↓zn_l, zl_0, zl_1, zl_2, zl_3, zl_4, zl_5, zl_6, zl_7, zl_8, zl_9, zl_10, zl_11, zl_12, zl_13, zl_14, zl_15, zl_16, zl_17, zl_18, zl_19, zl_20, zl_21, zl_22, zl_23, zl_24, zl_25, zl_26, zl_27, zl_28, zl_29, zl_30, zl_31, zl_32, zl_36, zl_46, zl_48, zl_50, zl_57, zl_63, zl_64, zl_72, zl_97, zl_99, zl_100, zl_101, zl_122, zl_127, zl_200, zl_255, zl_406, zl_534, zl_540, zl_600, zl_9999, zl_33, zl_34, zl_35, zl_37, zl_38, zl_39, zl_40, zl_41, zl_42, zl_43, zl_44, zl_45, zl_47, zl_49, zl_52, zl_53, zl_54, zl_55, zl_58, zl_59, zl_60, zl_61, zl_62, zl_65, zl_70, zl_71, zl_98, zl_102, zl_103, zl_104, zl_105, zl_110, zl_111, zl_115, zl_120, zl_123, zl_126, zl_128, zl_256, zl_1000, zl_1024, zcon_inl, zcon_inr, Option.toList_some, Option.toList_none, List.cons_append, List.nil_append, List.append_nil, Nat.add_zero, zbind_some, zi_toNat, zi_lt, zi_inj, zi_add, zi_mul, zi_ne_zn, zn_ne_zi, zn_lt_zi, zi_lt_zn, Nat.not_lt_zero, false_or, if_true, if_false, true_or, or_false, Nat.reduceEqDiff, eq_self, m176f0, b293_29, e283]
  rw [start, b293_38, zl_2, e203, zcon_inl]
  refine b293_50.trans ?_
  change zcon (zev X 260 0 [.ref 168, .int (zi p), .int (zi 2), .int (zMx (zi 1) (zMn (T 2 (12 * p + 4) + a) (zi 100)))] [] (zHP (zrow D1 172 s) O, k)) _ = _
  rw [e260, zcon_inl]
  refine b293_61.trans ?_
  rw [zl_2, e203b, zcon_inl]
  refine b293_67.trans ?_
  unfold uTrust
  rw [zw_self]
theorem m293n1 {a b : Int32} (h : D 168 1 = zi 0) : zev X 293 0 [.ref 168, .int a, .int b] [] (zHP (zrow D 172 s) O, k) = some (.inl (some (.int (zi 0))), (zHP (zrow (zth D 1) 172 s) O, k)) := by
  have e := m223n1 (X := X) (s := s) (O := O) (k := k) (a := a) h
  simp (disch := first | assumption | omega) only [b293_0, b293_5, ↓zn_l, zl_0, zl_1, zl_2, zl_3, zl_4, zl_5, zl_6, zl_7, zl_8, zl_9, zl_10, zl_11, zl_12, zl_13, zl_14, zl_15, zl_16, zl_17, zl_18, zl_19, zl_20, zl_21, zl_22, zl_23, zl_24, zl_25, zl_26, zl_27, zl_28, zl_29, zl_30, zl_31, zl_32, zl_36, zl_46, zl_48, zl_50, zl_57, zl_63, zl_64, zl_72, zl_97, zl_99, zl_100, zl_101, zl_122, zl_127, zl_200, zl_255, zl_406, zl_534, zl_540, zl_600, zl_9999, zl_33, zl_34, zl_35, zl_37, zl_38, zl_39, zl_40, zl_41, zl_42, zl_43, zl_44, zl_45, zl_47, zl_49, zl_52, zl_53, zl_54, zl_55, zl_58, zl_59, zl_60, zl_61, zl_62, zl_65, zl_70, zl_71, zl_98, zl_102, zl_103, zl_104, zl_105, zl_110, zl_111, zl_115, zl_120, zl_123, zl_126, zl_128, zl_256, zl_1000, zl_1024, zcon_inl, zcon_inr, Option.toList_some, Option.toList_none, List.cons_append, List.nil_append, List.append_nil, Nat.add_zero, zbind_some, zi_toNat, zi_lt, zi_inj, zi_add, zi_mul, zi_ne_zn, zn_ne_zi, zn_lt_zi, zi_lt_zn, Nat.not_lt_zero, false_or, if_true, if_false, true_or, or_false, Nat.reduceEqDiff, eq_self, e]
theorem m293n2 {a b : Int32} (I : zIv T) (S : zRs D T) (h : D 168 1 = zi 1) (ha : a < zi 0 ∨ ¬ a < zi (sNp T)) : zev X 293 0 [.ref 168, .int a, .int b] [] (zHP (zrow D 172 s) O, k) = some (.inl (some (.int (zi 0))), (zHP (zrow (zth D 2) 172 s) O, k)) := by
  have e := m223n2 (X := X) (s := s) (O := O) (k := k) I S h ha
  simp (disch := first | assumption | omega) only [b293_0, b293_5, ↓zn_l, zl_0, zl_1, zl_2, zl_3, zl_4, zl_5, zl_6, zl_7, zl_8, zl_9, zl_10, zl_11, zl_12, zl_13, zl_14, zl_15, zl_16, zl_17, zl_18, zl_19, zl_20, zl_21, zl_22, zl_23, zl_24, zl_25, zl_26, zl_27, zl_28, zl_29, zl_30, zl_31, zl_32, zl_36, zl_46, zl_48, zl_50, zl_57, zl_63, zl_64, zl_72, zl_97, zl_99, zl_100, zl_101, zl_122, zl_127, zl_200, zl_255, zl_406, zl_534, zl_540, zl_600, zl_9999, zl_33, zl_34, zl_35, zl_37, zl_38, zl_39, zl_40, zl_41, zl_42, zl_43, zl_44, zl_45, zl_47, zl_49, zl_52, zl_53, zl_54, zl_55, zl_58, zl_59, zl_60, zl_61, zl_62, zl_65, zl_70, zl_71, zl_98, zl_102, zl_103, zl_104, zl_105, zl_110, zl_111, zl_115, zl_120, zl_123, zl_126, zl_128, zl_256, zl_1000, zl_1024, zcon_inl, zcon_inr, Option.toList_some, Option.toList_none, List.cons_append, List.nil_append, List.append_nil, Nat.add_zero, zbind_some, zi_toNat, zi_lt, zi_inj, zi_add, zi_mul, zi_ne_zn, zn_ne_zi, zn_lt_zi, zi_lt_zn, Nat.not_lt_zero, false_or, if_true, if_false, true_or, or_false, Nat.reduceEqDiff, eq_self, e]
theorem m293n3 {p : Nat} {b : Int32} (I : zIv T) (S : zRs D T) (h : D 168 1 = zi 1) (hp : p < sNp T) (hb : b < -zi 99 ∨ zi 99 < b) : zev X 293 0 [.ref 168, .int (zi p), .int b] [] (zHP (zrow D 172 s) O, k) = some (.inl (some (.int (zi 0))), (zHP (zrow (zth D 3) 172 s) O, k)) := by
  have e := m223 (X := X) (s := s) (O := O) (k := k) I S h hp
  have e175 := m175w (X := X) (D := zrow (zth D 0) 172 s) (O := O) (k := k) hb
  rw [b293_0, e, zcon_inl]
  refine b293_5.trans ?_
  rw [zl_0, if_pos rfl]
  change zcon (zev X 175 0 [.int b, .int (-zi 99), .int (zi 99)] [] (zHP (zrow (zth D 0) 172 s) O, k)) _ = _
  rw [e175, zcon_inl]
  refine b293_17.trans ?_
  simp (disch := first | assumption | omega) only [↓zn_l, zl_0, zl_1, zl_2, zl_3, zl_4, zl_5, zl_6, zl_7, zl_8, zl_9, zl_10, zl_11, zl_12, zl_13, zl_14, zl_15, zl_16, zl_17, zl_18, zl_19, zl_20, zl_21, zl_22, zl_23, zl_24, zl_25, zl_26, zl_27, zl_28, zl_29, zl_30, zl_31, zl_32, zl_36, zl_46, zl_48, zl_50, zl_57, zl_63, zl_64, zl_72, zl_97, zl_99, zl_100, zl_101, zl_122, zl_127, zl_200, zl_255, zl_406, zl_534, zl_540, zl_600, zl_9999, zl_33, zl_34, zl_35, zl_37, zl_38, zl_39, zl_40, zl_41, zl_42, zl_43, zl_44, zl_45, zl_47, zl_49, zl_52, zl_53, zl_54, zl_55, zl_58, zl_59, zl_60, zl_61, zl_62, zl_65, zl_70, zl_71, zl_98, zl_102, zl_103, zl_104, zl_105, zl_110, zl_111, zl_115, zl_120, zl_123, zl_126, zl_128, zl_256, zl_1000, zl_1024, zcon_inl, zcon_inr, Option.toList_some, Option.toList_none, List.cons_append, List.nil_append, List.append_nil, Nat.add_zero, zbind_some, zi_toNat, zi_lt, zi_inj, zi_add, zi_mul, zi_ne_zn, zn_ne_zi, zn_lt_zi, zi_lt_zn, Nat.not_lt_zero, false_or, if_true, if_false, true_or, or_false, Nat.reduceEqDiff, eq_self, m176t0, b293_29]
end
