/-! The model writes. -/
section
variable {X : ZX} {D T : ZD2} {s : Nat → Int32} {O : ZO2} {k : Nat × Nat × Nat} {t : List Int32}
/-- what the texts may change besides -/
def zFrX (D D' : ZD2) : Prop := (∀ a, a ≠ 168 → a ≠ 173 → a ≠ 181 → a ≠ 182 → D' a = D a) ∧ ∀ j, j ≠ 0 → j ≠ 39 → j ≠ 40 → j ≠ 42 → D' 168 j = D 168 j
theorem zFrX_S {D D' : ZD2} (h : zFrS D D') : zFrX D D' := ⟨fun a a1 a2 a3 _ => h.1 a a1 a2 a3, fun j j1 j2 j3 _ => h.2 j j1 j2 j3⟩
theorem zFrX_T {D D' : ZD2} (h : zFrT D D') : zFrX D D' := ⟨fun a a1 _ _ a4 => h.1 a a1 a4, fun j _ _ _ j4 => h.2 j j4⟩
theorem zFrX_tr {D D' D'' : ZD2} (h1 : zFrX D D') (h2 : zFrX D' D'') : zFrX D D'' := ⟨fun a a1 a2 a3 a4 => (h2.1 a a1 a2 a3 a4).trans (h1.1 a a1 a2 a3 a4), fun j j1 j2 j3 j4 => (h2.2 j j1 j2 j3 j4).trans (h1.2 j j1 j2 j3 j4)⟩
theorem zMT_0 (D : ZD2) : zMT (zw D 168 42 (zi 0)) [] := ⟨zw_self _ _ _ _, fun i v h => by rw [List.getElem?_nil] at h; cases h⟩
theorem zFrT_0 {D : ZD2} : zFrT D (zw D 168 42 (zi 0)) := ⟨fun a a1 _ => zw_row a1, fun j j1 => zw_ne (by omega)⟩
theorem zcat_succ (f : Nat → List Int32) : ∀ d i, zcat f (d + 1) i = zcat f d i ++ f (i + d)
  | 0, i => by simp [zcat]
  | d + 1, i => by
    rw [zcat, zcat_succ f d (i + 1), zcat, List.append_assoc, show i + 1 + d = i + (d + 1) by omega]
/-- one page told -/
theorem m274page {p g : Nat} (I : zIv T) (S : zRs D T) (R : zRd s T) (M : zMT D t) (h : t.length + 3 ≤ 1200) (hp : p < sNp T) (hg : g < 12) : ∃ D', zev X 274 45 [.ref 168, .int (zi p), .int (zi g)] [.int (sLetter T (12 * p + g)), .ref 168] (zHP (zrow D 172 s) O, k) = zev X 274 28 [.ref 168, .int (zi p), .int (zi (g + 1))] [] (zHP (zrow D' 172 s) O, k) ∧ zMT D' (t ++ sPage T (12 * p + g)) ∧ zFrT D D' := by
  have n2 := zIv_np6 I
  have hp6 : p < 6 := by omega
  have hr : 12 * p + g < 72 := by omega
  obtain ⟨a1, a2, a3, a4, a5⟩ := R.2.2.1 (12 * p + g) hr
  obtain ⟨D1, e1, M1, F1⟩ := m276 (X := X) (s := s) (O := O) (k := k) (c := sLetter T (12 * p + g)) M (by omega)
  have l1 : (t ++ [sLetter T (12 * p + g)]).length = t.length + 1 := by simp
  have step2 : ∃ D2, zev X 274 48 [.ref 168, .int (zi p), .int (zi g)] [] (zHP (zrow D1 172 s) O, k) = zev X 274 65 [.ref 168, .int (zi p), .int (zi g)] [] (zHP (zrow D2 172 s) O, k) ∧ zMT D2 (t ++ [sLetter T (12 * p + g)] ++ (if sPin T (12 * p + g) then [zi 33] else [])) ∧ zFrT D1 D2 := by
    have e208 := @m208 X D1 s O k p g 2 hp6 hg (by omega)
    rw [a3] at e208
    have start : zev X 274 48 [.ref 168, .int (zi p), .int (zi g)] [] (zHP (zrow D1 172 s) O, k) = if T 3 (5 * (12 * p + g) + 2) = zi 1 then zcon (zev X 276 0 [.ref 168, .int (zi 33)] [] (zHP (zrow D1 172 s) O, k)) (fun v S' => zev X 274 65 [.ref 168, .int (zi p), .int (zi g)] (v.toList ++ []) S') else zev X 274 65 [.ref 168, .int (zi p), .int (zi g)] [] (zHP (zrow D1 172 s) O, k) := by
      refine b274_48.trans ?_
      rw [zl_2, e208, zcon_inl]
      exact b274_55
    rw [start]
    rcases I.2.2.2.1.1 _ hr with q | q
    · have e : sPin T (12 * p + g) = false := by unfold sPin; simp [q]
      rw [if_neg (by rw [q, zi_inj (by omega) (by omega)]; omega), e]
      refine ⟨D1, rfl, ?_, zFrT_rfl⟩
      simpa using M1
    · have e : sPin T (12 * p + g) = true := by unfold sPin; rw [q]; simp (disch := first | assumption | omega) [zi_inj]
      obtain ⟨D2, e2, M2, F2⟩ := m276 (X := X) (s := s) (O := O) (k := k) (c := zi 33) M1 (by omega)
      rw [if_pos q, e2, zcon_inl, e]
      exact ⟨D2, rfl, M2, F2⟩
  obtain ⟨D2, e2, M2, F2⟩ := step2
  have l2 : (t ++ [sLetter T (12 * p + g)] ++ (if sPin T (12 * p + g) then [zi 33] else [])).length ≤ t.length + 2 := by
    split <;> simp
  have step3 : ∃ D3, zev X 274 65 [.ref 168, .int (zi p), .int (zi g)] [] (zHP (zrow D2 172 s) O, k) = zev X 274 82 [.ref 168, .int (zi p), .int (zi g)] [] (zHP (zrow D3 172 s) O, k) ∧ zMT D3 (t ++ [sLetter T (12 * p + g)] ++ (if sPin T (12 * p + g) then [zi 33] else []) ++ (if sSold T (12 * p + g) then [zi 42] else [])) ∧ zFrT D2 D3 := by
    have e208 := @m208 X D2 s O k p g 3 hp6 hg (by omega)
    rw [a4] at e208
    have start : zev X 274 65 [.ref 168, .int (zi p), .int (zi g)] [] (zHP (zrow D2 172 s) O, k) = if T 3 (5 * (12 * p + g) + 3) = zn then zev X 274 82 [.ref 168, .int (zi p), .int (zi g)] [] (zHP (zrow D2 172 s) O, k) else zcon (zev X 276 0 [.ref 168, .int (zi 42)] [] (zHP (zrow D2 172 s) O, k)) (fun v S' => zev X 274 82 [.ref 168, .int (zi p), .int (zi g)] (v.toList ++ []) S') := by
      refine b274_65.trans ?_
      rw [zl_3, e208, zcon_inl]
      exact b274_72
    rw [start]
    by_cases q : T 3 (5 * (12 * p + g) + 3) = zn
    · have e : sSold T (12 * p + g) = false := by unfold sSold; simp [q]
      rw [if_pos q, e]
      refine ⟨D2, rfl, ?_, zFrT_rfl⟩
      simpa using M2
    · have e : sSold T (12 * p + g) = true := by unfold sSold; simp [q]
      obtain ⟨D3, e3, M3, F3⟩ := m276 (X := X) (s := s) (O := O) (k := k) (c := zi 42) M2 (by omega)
      rw [if_neg q, e3, zcon_inl, e]
      exact ⟨D3, rfl, M3, F3⟩
  obtain ⟨D3, e3, M3, F3⟩ := step3
  refine ⟨D3, ?_, ?_, zFrT_tr (zFrT_tr F1 F2) F3⟩
  · refine b274_45.trans ?_
    rw [e1, zcon_inl]
    refine (e2.trans e3).trans ?_
    refine b274_82.trans ?_
    rw [zl_1, zi_add]
  · unfold sPage
    simpa using M3
theorem m274 {p : Nat} (I : zIv T) (S : zRs D T) (R : zRd s T) (N : zRn D T) (h : D 168 1 = zi 1) (hp : p < sNp T) : ∃ D', zFrX D D' ∧ D' 168 0 = zi 0 ∧ zMT D' (sTell1 T p) ∧ zev X 274 0 [.ref 168, .int (zi p), zJ] [] (zHP (zrow D 172 s) O, k) = some (.inl (some (.int (zi (sTell1 T p).length))), (zHP (zrow D' 172 s) O, k)) := by
  have n2 := zIv_np6 I
  have hp6 : p < 6 := by omega
  have h6 : ¬ 6 ≤ p := by omega
  obtain ⟨g1, g2⟩ := zIv_pg I hp6
  have e223 := m223 (X := X) (s := s) (O := O) (k := k) I S h hp
  obtain ⟨ls, hn, hw, hD⟩ := N p hp
  have F0 : zFrT (zth D 0) (zw (zth D 0) 168 42 (zi 0)) := zFrT_0
  have hl6 : (zLts ls).length ≤ 6 := by unfold zLts; rw [List.length_map]; exact hn.2.1
  obtain ⟨D1, e1, M1, F1⟩ := m275 (X := X) (s := s) (O := O) (k := k) (p := p) (zMT_0 (zth D 0)) (by simp) hn hp6 (by
    intro i hi
    rw [zw_row (by omega), zth_a (by omega)]
    exact hD i hi)
  rw [List.nil_append] at M1
  obtain ⟨D2, e2, M2, F2⟩ := m276 (X := X) (s := s) (O := O) (k := k) (c := zi 32) M1 (by omega)
  have F02 := zFrT_tr (zFrT_tr F0 F1) F2
  have S2 : zRs D2 T := zRs_frT F02 (zRs_th S)
  have l2 : (zLts ls ++ [zi 32]).length ≤ 7 := by rw [List.length_append]; simp; omega
  have loop : ∀ d i (D' : ZD2), i + d = sPgs T p → zMT D' (zLts ls ++ [zi 32] ++ zcat (fun g => sPage T (12 * p + g)) i 0) → zFrT D2 D' → ∃ D'', zev X 274 28 [.ref 168, .int (zi p), .int (zi i)] [] (zHP (zrow D' 172 s) O, k) = zev X 274 28 [.ref 168, .int (zi p), .int (zi (sPgs T p))] [] (zHP (zrow D'' 172 s) O, k) ∧ zMT D'' (zLts ls ++ [zi 32] ++ zcat (fun g => sPage T (12 * p + g)) (sPgs T p) 0) ∧ zFrT D2 D'' := by
    intro d
    induction d with
    | zero =>
      intro i D' hi M F
      have e : i = sPgs T p := by omega
      rw [e] at M ⊢
      exact ⟨D', rfl, M, F⟩
    | succ d ih =>
      intro i D' hi M F
      have hi2 : i < sPgs T p := by omega
      have S' : zRs D' T := zRs_frT F S2
      have eP : D' 170 p = zi (sPgs T p) := (S'.2.1 p hp).trans g1
      have hcat := zcat_len (f := fun g => sPage T (12 * p + g)) (b := 3) (fun g => sPage_len T _) i 0
      have e277 := m277 (X := X) (D := D') (O := O) (k := k) I S' R hp (show i < 12 by omega)
      obtain ⟨D3, e3, M3, F3⟩ := m274page (X := X) (O := O) (k := k) (g := i) I S' R M (by rw [List.length_append]; omega) hp (by omega)
      have ez := zcat_succ (fun g => sPage T (12 * p + g)) i 0
      rw [Nat.zero_add] at ez
      rw [List.append_assoc, ← ez] at M3
      obtain ⟨D4, e4, M4, F4⟩ := ih (i + 1) D3 (by omega) M3 (zFrT_tr F F3)
      refine ⟨D4, ?_, M4, F4⟩
      rw [← e4, ← e3]
      refine b274_28.trans ?_
      simp (disch := first | assumption | omega) only [↓zn_l, zl_0, zl_1, zl_2, zl_3, zl_4, zl_5, zl_6, zl_7, zl_8, zl_9, zl_10, zl_11, zl_12, zl_13, zl_14, zl_15, zl_16, zl_17, zl_18, zl_19, zl_20, zl_21, zl_22, zl_23, zl_24, zl_25, zl_26, zl_27, zl_28, zl_29, zl_30, zl_31, zl_32, zl_36, zl_46, zl_48, zl_50, zl_57, zl_63, zl_64, zl_72, zl_97, zl_99, zl_100, zl_101, zl_122, zl_127, zl_200, zl_255, zl_406, zl_534, zl_540, zl_600, zl_9999, zl_33, zl_34, zl_35, zl_37, zl_38, zl_39, zl_40, zl_41, zl_42, zl_43, zl_44, zl_45, zl_47, zl_49, zl_52, zl_53, zl_54, zl_55, zl_58, zl_59, zl_60, zl_61, zl_62, zl_65, zl_70, zl_71, zl_98, zl_102, zl_103, zl_104, zl_105, zl_110, zl_111, zl_115, zl_120, zl_123, zl_126, zl_128, zl_256, zl_1000, zl_1024, zcon_inl, zcon_inr, Option.toList_some, Option.toList_none, List.cons_append, List.nil_append, List.append_nil, Nat.add_zero, zbind_some, zi_toNat, zi_lt, zi_inj, zi_add, zi_mul, zi_ne_zn, zn_ne_zi, zn_lt_zi, zi_lt_zn, Nat.not_lt_zero, false_or, if_true, if_false, true_or, or_false, Nat.reduceEqDiff, eq_self, h6, e170s, eP, hi2, e277]
  obtain ⟨D3, e3, M3, F3⟩ := loop (sPgs T p) 0 D2 (by omega) (by
    have e : zcat (fun g => sPage T (12 * p + g)) 0 0 = [] := rfl
    rw [e, List.append_nil]
    exact M2) zFrT_rfl
  have S3 : zRs D3 T := zRs_frT F3 S2
  have eP3 : D3 170 p = zi (sPgs T p) := (S3.2.1 p hp).trans g1
  have hcat := zcat_len (f := fun g => sPage T (12 * p + g)) (b := 3) (fun g => sPage_len T _) (sPgs T p) 0
  have e202 := m202 (X := X) (D := D3) (O := O) (k := k) I R hp
  have tell : sTell1 T p = zLts ls ++ [zi 32] ++ zcat (fun g => sPage T (12 * p + g)) (sPgs T p) 0 ++ (if sEnd T p then [zi 120] else []) := by
    unfold sTell1
    rw [hw, sName_eq hn]
    simp
  have endp : ∃ D4, zev X 274 28 [.ref 168, .int (zi p), .int (zi (sPgs T p))] [] (zHP (zrow D3 172 s) O, k) = some (.inl (some (.int (D4 168 42))), (zHP (zrow D4 172 s) O, k)) ∧ zMT D4 (sTell1 T p) ∧ zFrT D3 D4 := by
    have fin : ∀ D4 : ZD2, zev X 274 102 [.ref 168, .int (zi p), .int (zi (sPgs T p))] [] (zHP (zrow D4 172 s) O, k) = some (.inl (some (.int (D4 168 42))), (zHP (zrow D4 172 s) O, k)) := by
      intro D4
      refine b274_102.trans ?_
      rw [e168s]
    have start : zev X 274 28 [.ref 168, .int (zi p), .int (zi (sPgs T p))] [] (zHP (zrow D3 172 s) O, k) = zev X 274 93 [.ref 168, .int (zi p), .int (zi (sPgs T p))] [.int (zb (sEnd T p))] (zHP (zrow D3 172 s) O, k) := by
      refine b274_28.trans ?_
      simp (disch := first | assumption | omega) only [↓zn_l, zl_0, zl_1, zl_2, zl_3, zl_4, zl_5, zl_6, zl_7, zl_8, zl_9, zl_10, zl_11, zl_12, zl_13, zl_14, zl_15, zl_16, zl_17, zl_18, zl_19, zl_20, zl_21, zl_22, zl_23, zl_24, zl_25, zl_26, zl_27, zl_28, zl_29, zl_30, zl_31, zl_32, zl_36, zl_46, zl_48, zl_50, zl_57, zl_63, zl_64, zl_72, zl_97, zl_99, zl_100, zl_101, zl_122, zl_127, zl_200, zl_255, zl_406, zl_534, zl_540, zl_600, zl_9999, zl_33, zl_34, zl_35, zl_37, zl_38, zl_39, zl_40, zl_41, zl_42, zl_43, zl_44, zl_45, zl_47, zl_49, zl_52, zl_53, zl_54, zl_55, zl_58, zl_59, zl_60, zl_61, zl_62, zl_65, zl_70, zl_71, zl_98, zl_102, zl_103, zl_104, zl_105, zl_110, zl_111, zl_115, zl_120, zl_123, zl_126, zl_128, zl_256, zl_1000, zl_1024, zcon_inl, zcon_inr, Option.toList_some, Option.toList_none, List.cons_append, List.nil_append, List.append_nil, Nat.add_zero, zbind_some, zi_toNat, zi_lt, zi_inj, zi_add, zi_mul, zi_ne_zn, zn_ne_zi, zn_lt_zi, zi_lt_zn, Nat.not_lt_zero, false_or, if_true, if_false, true_or, or_false, Nat.reduceEqDiff, eq_self, h6, e170s, eP3, Nat.lt_irrefl, e202]
    rw [start, b274_93, zl_0, tell]
    cases he : sEnd T p
    · rw [if_pos zb_f]
      refine ⟨D3, fin D3, ?_, zFrT_rfl⟩
      simpa using M3
    · obtain ⟨D4, e4, M4, F4⟩ := m276 (X := X) (s := s) (O := O) (k := k) (c := zi 120) M3 (by rw [List.length_append]; omega)
      rw [if_neg zbt0, zl_120, e4, zcon_inl]
      exact ⟨D4, fin D4, M4, F4⟩
  obtain ⟨D4, e4, M4, F4⟩ := endp
  have FT := zFrT_tr (zFrT_tr F02 F3) F4
  refine ⟨D4, zFrX_tr (zFrX_S zFrS_th) (zFrX_T FT), ?_, M4, ?_⟩
  · rw [FT.2 0 (by omega)]; exact zth_0 _ _
  · rw [← M4.1, ← e4, ← e3]
    have ew : zw (zrow (zth D 0) 172 s) 168 42 (zi 0) = zrow (zw (zth D 0) 168 42 (zi 0)) 172 s := zw_so (by omega)
    simp (disch := first | assumption | omega) only [b274_0, e223, b274_5, ↓zn_l, zl_0, zl_1, zl_2, zl_3, zl_4, zl_5, zl_6, zl_7, zl_8, zl_9, zl_10, zl_11, zl_12, zl_13, zl_14, zl_15, zl_16, zl_17, zl_18, zl_19, zl_20, zl_21, zl_22, zl_23, zl_24, zl_25, zl_26, zl_27, zl_28, zl_29, zl_30, zl_31, zl_32, zl_36, zl_46, zl_48, zl_50, zl_57, zl_63, zl_64, zl_72, zl_97, zl_99, zl_100, zl_101, zl_122, zl_127, zl_200, zl_255, zl_406, zl_534, zl_540, zl_600, zl_9999, zl_33, zl_34, zl_35, zl_37, zl_38, zl_39, zl_40, zl_41, zl_42, zl_43, zl_44, zl_45, zl_47, zl_49, zl_52, zl_53, zl_54, zl_55, zl_58, zl_59, zl_60, zl_61, zl_62, zl_65, zl_70, zl_71, zl_98, zl_102, zl_103, zl_104, zl_105, zl_110, zl_111, zl_115, zl_120, zl_123, zl_126, zl_128, zl_256, zl_1000, zl_1024, zcon_inl, zcon_inr, Option.toList_some, Option.toList_none, List.cons_append, List.nil_append, List.append_nil, Nat.add_zero, zbind_some, zi_toNat, zi_lt, zi_inj, zi_add, zi_mul, zi_ne_zn, zn_ne_zi, zn_lt_zi, zi_lt_zn, Nat.not_lt_zero, false_or, if_true, if_false, true_or, or_false, Nat.reduceEqDiff, eq_self, ew, e1]
    refine b274_20.trans ?_
    rw [zl_32, e2, zcon_inl]
    refine b274_26.trans ?_
    rw [zl_0]
theorem m274n1 {a : Int32} (h : D 168 1 = zi 0) : zev X 274 0 [.ref 168, .int a, zJ] [] (zHP (zrow D 172 s) O, k) = some (.inl (some (.int (zi 0))), (zHP (zrow (zth D 1) 172 s) O, k)) := by
  have e := m223n1 (X := X) (s := s) (O := O) (k := k) (a := a) h
  simp (disch := first | assumption | omega) only [b274_0, b274_5, ↓zn_l, zl_0, zl_1, zl_2, zl_3, zl_4, zl_5, zl_6, zl_7, zl_8, zl_9, zl_10, zl_11, zl_12, zl_13, zl_14, zl_15, zl_16, zl_17, zl_18, zl_19, zl_20, zl_21, zl_22, zl_23, zl_24, zl_25, zl_26, zl_27, zl_28, zl_29, zl_30, zl_31, zl_32, zl_36, zl_46, zl_48, zl_50, zl_57, zl_63, zl_64, zl_72, zl_97, zl_99, zl_100, zl_101, zl_122, zl_127, zl_200, zl_255, zl_406, zl_534, zl_540, zl_600, zl_9999, zl_33, zl_34, zl_35, zl_37, zl_38, zl_39, zl_40, zl_41, zl_42, zl_43, zl_44, zl_45, zl_47, zl_49, zl_52, zl_53, zl_54, zl_55, zl_58, zl_59, zl_60, zl_61, zl_62, zl_65, zl_70, zl_71, zl_98, zl_102, zl_103, zl_104, zl_105, zl_110, zl_111, zl_115, zl_120, zl_123, zl_126, zl_128, zl_256, zl_1000, zl_1024, zcon_inl, zcon_inr, Option.toList_some, Option.toList_none, List.cons_append, List.nil_append, List.append_nil, Nat.add_zero, zbind_some, zi_toNat, zi_lt, zi_inj, zi_add, zi_mul, zi_ne_zn, zn_ne_zi, zn_lt_zi, zi_lt_zn, Nat.not_lt_zero, false_or, if_true, if_false, true_or, or_false, Nat.reduceEqDiff, eq_self, e]
theorem m274n2 {a : Int32} (I : zIv T) (S : zRs D T) (h : D 168 1 = zi 1) (ha : a < zi 0 ∨ ¬ a < zi (sNp T)) : zev X 274 0 [.ref 168, .int a, zJ] [] (zHP (zrow D 172 s) O, k) = some (.inl (some (.int (zi 0))), (zHP (zrow (zth D 2) 172 s) O, k)) := by
  have e := m223n2 (X := X) (s := s) (O := O) (k := k) I S h ha
  simp (disch := first | assumption | omega) only [b274_0, b274_5, ↓zn_l, zl_0, zl_1, zl_2, zl_3, zl_4, zl_5, zl_6, zl_7, zl_8, zl_9, zl_10, zl_11, zl_12, zl_13, zl_14, zl_15, zl_16, zl_17, zl_18, zl_19, zl_20, zl_21, zl_22, zl_23, zl_24, zl_25, zl_26, zl_27, zl_28, zl_29, zl_30, zl_31, zl_32, zl_36, zl_46, zl_48, zl_50, zl_57, zl_63, zl_64, zl_72, zl_97, zl_99, zl_100, zl_101, zl_122, zl_127, zl_200, zl_255, zl_406, zl_534, zl_540, zl_600, zl_9999, zl_33, zl_34, zl_35, zl_37, zl_38, zl_39, zl_40, zl_41, zl_42, zl_43, zl_44, zl_45, zl_47, zl_49, zl_52, zl_53, zl_54, zl_55, zl_58, zl_59, zl_60, zl_61, zl_62, zl_65, zl_70, zl_71, zl_98, zl_102, zl_103, zl_104, zl_105, zl_110, zl_111, zl_115, zl_120, zl_123, zl_126, zl_128, zl_256, zl_1000, zl_1024, zcon_inl, zcon_inr, Option.toList_some, Option.toList_none, List.cons_append, List.nil_append, List.append_nil, Nat.add_zero, zbind_some, zi_toNat, zi_lt, zi_inj, zi_add, zi_mul, zi_ne_zn, zn_ne_zi, zn_lt_zi, zi_lt_zn, Nat.not_lt_zero, false_or, if_true, if_false, true_or, or_false, Nat.reduceEqDiff, eq_self, e]
theorem m278 (I : zIv T) (S : zRs D T) (R : zRd s T) (h : D 168 1 = zi 1) : ∃ D', zFrX D D' ∧ D' 168 0 = zi 0 ∧ zMT D' (sTell2 T) ∧ zev X 278 0 [.ref 168, zJ, zJ] [] (zHP (zrow D 172 s) O, k) = some (.inl (some (.int (zi (sTell2 T).length))), (zHP (zrow D' 172 s) O, k)) := by
  have n3 := zIv_nf I
  have n4 := zIv_nf64 I
  have F0 : zFrT (zth D 0) (zw (zth D 0) 168 42 (zi 0)) := zFrT_0
  have S0 : zRs (zw (zth D 0) 168 42 (zi 0)) T := zRs_frT F0 (zRs_th S)
  have loop : ∀ d i (D' : ZD2) v, i + d = sNf T → zMT D' (zcat (sFrm T) i 0) → zFrT (zw (zth D 0) 168 42 (zi 0)) D' → ∃ D'', zev X 278 16 [.ref 168, .int (zi i), v] [] (zHP (zrow D' 172 s) O, k) = some (.inl (some (.int (D'' 168 42))), (zHP (zrow D'' 172 s) O, k)) ∧ zMT D'' (sTell2 T) ∧ zFrT (zw (zth D 0) 168 42 (zi 0)) D'' := by
    intro d
    induction d with
    | zero =>
      intro i D' v hi M F
      have e : i = sNf T := by omega
      rw [e] at M ⊢
      have S' : zRs D' T := zRs_frT F S0
      refine ⟨D', b278_16.trans ?_, M, F⟩
      simp (disch := first | assumption | omega) only [↓zn_l, zl_0, zl_1, zl_2, zl_3, zl_4, zl_5, zl_6, zl_7, zl_8, zl_9, zl_10, zl_11, zl_12, zl_13, zl_14, zl_15, zl_16, zl_17, zl_18, zl_19, zl_20, zl_21, zl_22, zl_23, zl_24, zl_25, zl_26, zl_27, zl_28, zl_29, zl_30, zl_31, zl_32, zl_36, zl_46, zl_48, zl_50, zl_57, zl_63, zl_64, zl_72, zl_97, zl_99, zl_100, zl_101, zl_122, zl_127, zl_200, zl_255, zl_406, zl_534, zl_540, zl_600, zl_9999, zl_33, zl_34, zl_35, zl_37, zl_38, zl_39, zl_40, zl_41, zl_42, zl_43, zl_44, zl_45, zl_47, zl_49, zl_52, zl_53, zl_54, zl_55, zl_58, zl_59, zl_60, zl_61, zl_62, zl_65, zl_70, zl_71, zl_98, zl_102, zl_103, zl_104, zl_105, zl_110, zl_111, zl_115, zl_120, zl_123, zl_126, zl_128, zl_256, zl_1000, zl_1024, zcon_inl, zcon_inr, Option.toList_some, Option.toList_none, List.cons_append, List.nil_append, List.append_nil, Nat.add_zero, zbind_some, zi_toNat, zi_lt, zi_inj, zi_add, zi_mul, zi_ne_zn, zn_ne_zi, zn_lt_zi, zi_lt_zn, Nat.not_lt_zero, false_or, if_true, if_false, true_or, or_false, Nat.reduceEqDiff, eq_self, e168s, S'.1.2.1, n3, Nat.lt_irrefl]
    | succ d ih =>
      intro i D' v hi M F
      have hi2 : i < sNf T := by omega
      have hi64 : i < 64 := by omega
      have S' : zRs D' T := zRs_frT F S0
      have hcat := zcat_len (f := sFrm T) (b := 3) (fun g => sFrm_len T g) i 0
      have e206 := m206 (X := X) (O := O) (k := k) I S' R hi2
      have e207 := m207 (X := X) (O := O) (k := k) I S' R hi64
      have hc := I.2.2.2.2.1.1 i hi64
      have hle := sCnt_le T i
      have ez := zcat_succ (sFrm T) i 0
      rw [Nat.zero_add] at ez
      have one : ∀ c, sFrm T i = [c] → (∃ D3, zev X 276 0 [.ref 168, .int c] [] (zHP (zrow D' 172 s) O, k) = some (.inl none, (zHP (zrow D3 172 s) O, k)) ∧ zMT D3 (zcat (sFrm T) (i + 1) 0) ∧ zFrT (zw (zth D 0) 168 42 (zi 0)) D3) := by
        intro c hc
        obtain ⟨D3, e3, M3, F3⟩ := m276 (X := X) (s := s) (O := O) (k := k) (c := c) M (by omega)
        refine ⟨D3, e3, ?_, zFrT_tr F F3⟩
        rw [ez, hc]
        exact M3
      have go : ∃ D3 v3, zev X 278 16 [.ref 168, .int (zi i), v] [] (zHP (zrow D' 172 s) O, k) = zev X 278 16 [.ref 168, .int (zi (i + 1)), v3] [] (zHP (zrow D3 172 s) O, k) ∧ zMT D3 (zcat (sFrm T) (i + 1) 0) ∧ zFrT (zw (zth D 0) 168 42 (zi 0)) D3 := by
        have start : zev X 278 16 [.ref 168, .int (zi i), v] [] (zHP (zrow D' 172 s) O, k) = zev X 278 29 [.ref 168, .int (zi i), v] [.int (sState T i)] (zHP (zrow D' 172 s) O, k) := by
          refine b278_16.trans ?_
          simp (disch := first | assumption | omega) only [↓zn_l, zl_0, zl_1, zl_2, zl_3, zl_4, zl_5, zl_6, zl_7, zl_8, zl_9, zl_10, zl_11, zl_12, zl_13, zl_14, zl_15, zl_16, zl_17, zl_18, zl_19, zl_20, zl_21, zl_22, zl_23, zl_24, zl_25, zl_26, zl_27, zl_28, zl_29, zl_30, zl_31, zl_32, zl_36, zl_46, zl_48, zl_50, zl_57, zl_63, zl_64, zl_72, zl_97, zl_99, zl_100, zl_101, zl_122, zl_127, zl_200, zl_255, zl_406, zl_534, zl_540, zl_600, zl_9999, zl_33, zl_34, zl_35, zl_37, zl_38, zl_39, zl_40, zl_41, zl_42, zl_43, zl_44, zl_45, zl_47, zl_49, zl_52, zl_53, zl_54, zl_55, zl_58, zl_59, zl_60, zl_61, zl_62, zl_65, zl_70, zl_71, zl_98, zl_102, zl_103, zl_104, zl_105, zl_110, zl_111, zl_115, zl_120, zl_123, zl_126, zl_128, zl_256, zl_1000, zl_1024, zcon_inl, zcon_inr, Option.toList_some, Option.toList_none, List.cons_append, List.nil_append, List.append_nil, Nat.add_zero, zbind_some, zi_toNat, zi_lt, zi_inj, zi_add, zi_mul, zi_ne_zn, zn_ne_zi, zn_lt_zi, zi_lt_zn, Nat.not_lt_zero, false_or, if_true, if_false, true_or, or_false, Nat.reduceEqDiff, eq_self, e168s, S'.1.2.1, n3, hi2, e206]
        rw [start]
        rcases sState_or T i with q | q | q
        · obtain ⟨D3, e3, M3, F3⟩ := one (zi 46) (by unfold sFrm; rw [if_pos q])
          refine ⟨D3, .int (sState T i), ?_, M3, F3⟩
          refine b278_29.trans ?_
          simp (disch := first | assumption | omega) only [↓zn_l, zl_0, zl_1, zl_2, zl_3, zl_4, zl_5, zl_6, zl_7, zl_8, zl_9, zl_10, zl_11, zl_12, zl_13, zl_14, zl_15, zl_16, zl_17, zl_18, zl_19, zl_20, zl_21, zl_22, zl_23, zl_24, zl_25, zl_26, zl_27, zl_28, zl_29, zl_30, zl_31, zl_32, zl_36, zl_46, zl_48, zl_50, zl_57, zl_63, zl_64, zl_72, zl_97, zl_99, zl_100, zl_101, zl_122, zl_127, zl_200, zl_255, zl_406, zl_534, zl_540, zl_600, zl_9999, zl_33, zl_34, zl_35, zl_37, zl_38, zl_39, zl_40, zl_41, zl_42, zl_43, zl_44, zl_45, zl_47, zl_49, zl_52, zl_53, zl_54, zl_55, zl_58, zl_59, zl_60, zl_61, zl_62, zl_65, zl_70, zl_71, zl_98, zl_102, zl_103, zl_104, zl_105, zl_110, zl_111, zl_115, zl_120, zl_123, zl_126, zl_128, zl_256, zl_1000, zl_1024, zcon_inl, zcon_inr, Option.toList_some, Option.toList_none, List.cons_append, List.nil_append, List.append_nil, Nat.add_zero, zbind_some, zi_toNat, zi_lt, zi_inj, zi_add, zi_mul, zi_ne_zn, zn_ne_zi, zn_lt_zi, zi_lt_zn, Nat.not_lt_zero, false_or, if_true, if_false, true_or, or_false, Nat.reduceEqDiff, eq_self, q, e3]
          refine b278_66.trans ?_
          simp only [↓zn_l, zl_0, zl_1, zl_2, zl_3, zl_4, zl_5, zl_6, zl_7, zl_8, zl_9, zl_10, zl_11, zl_12, zl_13, zl_14, zl_15, zl_16, zl_17, zl_18, zl_19, zl_20, zl_21, zl_22, zl_23, zl_24, zl_25, zl_26, zl_27, zl_28, zl_29, zl_30, zl_31, zl_32, zl_36, zl_46, zl_48, zl_50, zl_57, zl_63, zl_64, zl_72, zl_97, zl_99, zl_100, zl_101, zl_122, zl_127, zl_200, zl_255, zl_406, zl_534, zl_540, zl_600, zl_9999, zl_33, zl_34, zl_35, zl_37, zl_38, zl_39, zl_40, zl_41, zl_42, zl_43, zl_44, zl_45, zl_47, zl_49, zl_52, zl_53, zl_54, zl_55, zl_58, zl_59, zl_60, zl_61, zl_62, zl_65, zl_70, zl_71, zl_98, zl_102, zl_103, zl_104, zl_105, zl_110, zl_111, zl_115, zl_120, zl_123, zl_126, zl_128, zl_256, zl_1000, zl_1024, zi_add]
        · have h0 : zi 0 < zi (sCnt T i) := by
            unfold sState at q
            rw [hc] at q
            by_cases hz : zi 0 < zi (sCnt T i)
            · exact hz
            · rw [if_neg hz] at q
              split at q
              · rw [zi_inj (by omega) (by omega)] at q; omega
              · rw [zi_inj (by omega) (by omega)] at q; omega
          have hcn : sIns T i = sCnt T i := by unfold sIns; rw [hc, zi_toNat (by omega)]
          have hf : sFrm T i = [zi (48 + (if sCnt T i < 9 then sCnt T i else 9))] := by
            unfold sFrm
            rw [q, if_neg (by rw [zi_inj (by omega) (by omega)]; omega), if_neg (by rw [zi_inj (by omega) (by omega)]; omega), hcn]
            have h9 : (if sCnt T i < 9 then sCnt T i else 9) < 10 := by split <;> omega
            generalize (if sCnt T i < 9 then sCnt T i else 9) = y at *
            unfold sNum
            rw [if_pos (by omega), if_pos h9, show y - y / 10 * 10 = y by omega]
            rfl
          obtain ⟨D3, e3, M3, F3⟩ := one _ hf
          refine ⟨D3, .int (sState T i), ?_, M3, F3⟩
          refine b278_29.trans ?_
          simp (disch := first | assumption | omega) only [↓zn_l, zl_0, zl_1, zl_2, zl_3, zl_4, zl_5, zl_6, zl_7, zl_8, zl_9, zl_10, zl_11, zl_12, zl_13, zl_14, zl_15, zl_16, zl_17, zl_18, zl_19, zl_20, zl_21, zl_22, zl_23, zl_24, zl_25, zl_26, zl_27, zl_28, zl_29, zl_30, zl_31, zl_32, zl_36, zl_46, zl_48, zl_50, zl_57, zl_63, zl_64, zl_72, zl_97, zl_99, zl_100, zl_101, zl_122, zl_127, zl_200, zl_255, zl_406, zl_534, zl_540, zl_600, zl_9999, zl_33, zl_34, zl_35, zl_37, zl_38, zl_39, zl_40, zl_41, zl_42, zl_43, zl_44, zl_45, zl_47, zl_49, zl_52, zl_53, zl_54, zl_55, zl_58, zl_59, zl_60, zl_61, zl_62, zl_65, zl_70, zl_71, zl_98, zl_102, zl_103, zl_104, zl_105, zl_110, zl_111, zl_115, zl_120, zl_123, zl_126, zl_128, zl_256, zl_1000, zl_1024, zcon_inl, zcon_inr, Option.toList_some, Option.toList_none, List.cons_append, List.nil_append, List.append_nil, Nat.add_zero, zbind_some, zi_toNat, zi_lt, zi_inj, zi_add, zi_mul, zi_ne_zn, zn_ne_zi, zn_lt_zi, zi_lt_zn, Nat.not_lt_zero, false_or, if_true, if_false, true_or, or_false, Nat.reduceEqDiff, eq_self, q, e207]
          refine b278_59.trans ?_
          have em : zi 48 + (if zi (sCnt T i) < zi 9 then zi (sCnt T i) else zi 9) = zi (48 + (if sCnt T i < 9 then sCnt T i else 9)) := by
            by_cases hl : sCnt T i < 9
            · rw [if_pos hl, if_pos (by rw [zi_lt (by omega) (by omega)]; exact hl), zi_add]
            · rw [if_neg hl, if_neg (by rw [zi_lt (by omega) (by omega)]; exact hl), zi_add]
          rw [em, e3, zcon_inl]
          refine b278_66.trans ?_
          simp only [↓zn_l, zl_0, zl_1, zl_2, zl_3, zl_4, zl_5, zl_6, zl_7, zl_8, zl_9, zl_10, zl_11, zl_12, zl_13, zl_14, zl_15, zl_16, zl_17, zl_18, zl_19, zl_20, zl_21, zl_22, zl_23, zl_24, zl_25, zl_26, zl_27, zl_28, zl_29, zl_30, zl_31, zl_32, zl_36, zl_46, zl_48, zl_50, zl_57, zl_63, zl_64, zl_72, zl_97, zl_99, zl_100, zl_101, zl_122, zl_127, zl_200, zl_255, zl_406, zl_534, zl_540, zl_600, zl_9999, zl_33, zl_34, zl_35, zl_37, zl_38, zl_39, zl_40, zl_41, zl_42, zl_43, zl_44, zl_45, zl_47, zl_49, zl_52, zl_53, zl_54, zl_55, zl_58, zl_59, zl_60, zl_61, zl_62, zl_65, zl_70, zl_71, zl_98, zl_102, zl_103, zl_104, zl_105, zl_110, zl_111, zl_115, zl_120, zl_123, zl_126, zl_128, zl_256, zl_1000, zl_1024, zi_add]
        · obtain ⟨D3, e3, M3, F3⟩ := one (zi 126) (by unfold sFrm; rw [q, if_neg (by rw [zi_inj (by omega) (by omega)]; omega), if_pos rfl])
          refine ⟨D3, .int (sState T i), ?_, M3, F3⟩
          refine b278_29.trans ?_
          simp (disch := first | assumption | omega) only [↓zn_l, zl_0, zl_1, zl_2, zl_3, zl_4, zl_5, zl_6, zl_7, zl_8, zl_9, zl_10, zl_11, zl_12, zl_13, zl_14, zl_15, zl_16, zl_17, zl_18, zl_19, zl_20, zl_21, zl_22, zl_23, zl_24, zl_25, zl_26, zl_27, zl_28, zl_29, zl_30, zl_31, zl_32, zl_36, zl_46, zl_48, zl_50, zl_57, zl_63, zl_64, zl_72, zl_97, zl_99, zl_100, zl_101, zl_122, zl_127, zl_200, zl_255, zl_406, zl_534, zl_540, zl_600, zl_9999, zl_33, zl_34, zl_35, zl_37, zl_38, zl_39, zl_40, zl_41, zl_42, zl_43, zl_44, zl_45, zl_47, zl_49, zl_52, zl_53, zl_54, zl_55, zl_58, zl_59, zl_60, zl_61, zl_62, zl_65, zl_70, zl_71, zl_98, zl_102, zl_103, zl_104, zl_105, zl_110, zl_111, zl_115, zl_120, zl_123, zl_126, zl_128, zl_256, zl_1000, zl_1024, zcon_inl, zcon_inr, Option.toList_some, Option.toList_none, List.cons_append, List.nil_append, List.append_nil, Nat.add_zero, zbind_some, zi_toNat, zi_lt, zi_inj, zi_add, zi_mul, zi_ne_zn, zn_ne_zi, zn_lt_zi, zi_lt_zn, Nat.not_lt_zero, false_or, if_true, if_false, true_or, or_false, Nat.reduceEqDiff, eq_self, q, e3]
          refine b278_66.trans ?_
          simp only [↓zn_l, zl_0, zl_1, zl_2, zl_3, zl_4, zl_5, zl_6, zl_7, zl_8, zl_9, zl_10, zl_11, zl_12, zl_13, zl_14, zl_15, zl_16, zl_17, zl_18, zl_19, zl_20, zl_21, zl_22, zl_23, zl_24, zl_25, zl_26, zl_27, zl_28, zl_29, zl_30, zl_31, zl_32, zl_36, zl_46, zl_48, zl_50, zl_57, zl_63, zl_64, zl_72, zl_97, zl_99, zl_100, zl_101, zl_122, zl_127, zl_200, zl_255, zl_406, zl_534, zl_540, zl_600, zl_9999, zl_33, zl_34, zl_35, zl_37, zl_38, zl_39, zl_40, zl_41, zl_42, zl_43, zl_44, zl_45, zl_47, zl_49, zl_52, zl_53, zl_54, zl_55, zl_58, zl_59, zl_60, zl_61, zl_62, zl_65, zl_70, zl_71, zl_98, zl_102, zl_103, zl_104, zl_105, zl_110, zl_111, zl_115, zl_120, zl_123, zl_126, zl_128, zl_256, zl_1000, zl_1024, zi_add]
      obtain ⟨D3, v3, e3, M3, F3⟩ := go
      obtain ⟨D4, e4, M4, F4⟩ := ih (i + 1) D3 v3 (by omega) M3 F3
      exact ⟨D4, e3.trans e4, M4, F4⟩
  obtain ⟨D4, e4, M4, F4⟩ := loop (sNf T) 0 (zw (zth D 0) 168 42 (zi 0)) zJ (by omega) (zMT_0 _) zFrT_rfl
  have FT := zFrT_tr F0 F4
  refine ⟨D4, zFrX_tr (zFrX_S zFrS_th) (zFrX_T FT), ?_, M4, ?_⟩
  · rw [FT.2 0 (by omega)]; exact zth_0 _ _
  · rw [← M4.1, ← e4]
    have e199 := m199 (X := X) (s := s) (O := O) (k := k) h
    have ew : zw (zrow (zth D 0) 172 s) 168 42 (zi 0) = zrow (zw (zth D 0) 168 42 (zi 0)) 172 s := zw_so (by omega)
    simp (disch := first | assumption | omega) only [b278_0, e199, b278_4, ↓zn_l, zl_0, zl_1, zl_2, zl_3, zl_4, zl_5, zl_6, zl_7, zl_8, zl_9, zl_10, zl_11, zl_12, zl_13, zl_14, zl_15, zl_16, zl_17, zl_18, zl_19, zl_20, zl_21, zl_22, zl_23, zl_24, zl_25, zl_26, zl_27, zl_28, zl_29, zl_30, zl_31, zl_32, zl_36, zl_46, zl_48, zl_50, zl_57, zl_63, zl_64, zl_72, zl_97, zl_99, zl_100, zl_101, zl_122, zl_127, zl_200, zl_255, zl_406, zl_534, zl_540, zl_600, zl_9999, zl_33, zl_34, zl_35, zl_37, zl_38, zl_39, zl_40, zl_41, zl_42, zl_43, zl_44, zl_45, zl_47, zl_49, zl_52, zl_53, zl_54, zl_55, zl_58, zl_59, zl_60, zl_61, zl_62, zl_65, zl_70, zl_71, zl_98, zl_102, zl_103, zl_104, zl_105, zl_110, zl_111, zl_115, zl_120, zl_123, zl_126, zl_128, zl_256, zl_1000, zl_1024, zcon_inl, zcon_inr, Option.toList_some, Option.toList_none, List.cons_append, List.nil_append, List.append_nil, Nat.add_zero, zbind_some, zi_toNat, zi_lt, zi_inj, zi_add, zi_mul, zi_ne_zn, zn_ne_zi, zn_lt_zi, zi_lt_zn, Nat.not_lt_zero, false_or, if_true, if_false, true_or, or_false, Nat.reduceEqDiff, eq_self, ew]
theorem m278n1 (h : D 168 1 = zi 0) : zev X 278 0 [.ref 168, zJ, zJ] [] (zHP (zrow D 172 s) O, k) = some (.inl (some (.int (zi 0))), (zHP (zrow (zth D 1) 172 s) O, k)) := by
  simp (disch := first | assumption | omega) only [b278_0, b278_4, ↓zn_l, zl_0, zl_1, zl_2, zl_3, zl_4, zl_5, zl_6, zl_7, zl_8, zl_9, zl_10, zl_11, zl_12, zl_13, zl_14, zl_15, zl_16, zl_17, zl_18, zl_19, zl_20, zl_21, zl_22, zl_23, zl_24, zl_25, zl_26, zl_27, zl_28, zl_29, zl_30, zl_31, zl_32, zl_36, zl_46, zl_48, zl_50, zl_57, zl_63, zl_64, zl_72, zl_97, zl_99, zl_100, zl_101, zl_122, zl_127, zl_200, zl_255, zl_406, zl_534, zl_540, zl_600, zl_9999, zl_33, zl_34, zl_35, zl_37, zl_38, zl_39, zl_40, zl_41, zl_42, zl_43, zl_44, zl_45, zl_47, zl_49, zl_52, zl_53, zl_54, zl_55, zl_58, zl_59, zl_60, zl_61, zl_62, zl_65, zl_70, zl_71, zl_98, zl_102, zl_103, zl_104, zl_105, zl_110, zl_111, zl_115, zl_120, zl_123, zl_126, zl_128, zl_256, zl_1000, zl_1024, zcon_inl, zcon_inr, Option.toList_some, Option.toList_none, List.cons_append, List.nil_append, List.append_nil, Nat.add_zero, zbind_some, zi_toNat, zi_lt, zi_inj, zi_add, zi_mul, zi_ne_zn, zn_ne_zi, zn_lt_zi, zi_lt_zn, Nat.not_lt_zero, false_or, if_true, if_false, true_or, or_false, Nat.reduceEqDiff, eq_self, m199n, h]
end
