/-! The model's texts. -/
theorem zand31 {n : Nat} (h : n < 2147483648) : zi n &&& (31 : Int32) = zi (n % 32) := by
  apply Int32.toBitVec_inj.1
  apply BitVec.eq_of_toNat_eq
  have e1 : (zi n &&& (31 : Int32)).toBitVec.toNat = (n % 2 ^ 32) &&& 31 := rfl
  have e2 : (zi (n % 32)).toBitVec.toNat = (n % 32) % 2 ^ 32 := rfl
  rw [e1, e2, Nat.mod_eq_of_lt (by omega), show (31 : Nat) = 2 ^ 5 - 1 from rfl, Nat.and_two_pow_sub_one_eq_mod]
  omega
theorem zand255 {n : Nat} (h : n < 256) : zi n &&& zi 255 = zi n := by
  apply Int32.toBitVec_inj.1
  apply BitVec.eq_of_toNat_eq
  have e1 : (zi n &&& zi 255).toBitVec.toNat = (n % 2 ^ 32) &&& 255 := rfl
  have e2 : (zi n).toBitVec.toNat = n % 2 ^ 32 := rfl
  rw [e1, e2, Nat.mod_eq_of_lt (by omega), show (255 : Nat) = 2 ^ 8 - 1 from rfl, Nat.and_two_pow_sub_one_eq_mod]
  omega
/-- a name's letters, packed -/
def yPk (ls : List Nat) : Nat := ls.foldl (fun n c => 32 * n + c) 0
def zNm (ls : List Nat) : Prop := 1 ≤ ls.length ∧ ls.length ≤ 6 ∧ ∀ c, c ∈ ls → 1 ≤ c ∧ c ≤ 26
def zLts (ls : List Nat) : List Int32 := ls.map fun c => zi (96 + c)
theorem sLet_eq {w s : Nat} (hw : w < 2147483648) (hs : s = 0 ∨ s = 5 ∨ s = 10 ∨ s = 15 ∨ s = 20 ∨ s = 25) : sLet (zi w) s = if 0 < w / 2 ^ s % 32 then [zi (96 + w / 2 ^ s % 32)] else [] := by
  have e1 : zi w >>> (zi s &&& 31) = zi (w / 2 ^ s) := pk_shrN (n := w) (by omega) (zi s &&& 31) s (by rcases hs with rfl | rfl | rfl | rfl | rfl | rfl <;> decide)
  have h2 : w / 2 ^ s < 2147483648 := Nat.lt_of_le_of_lt (Nat.div_le_self _ _) hw
  have e2 := zand31 h2
  unfold sLet
  rw [e1, e2]
  have h3 : w / 2 ^ s % 32 < 32 := Nat.mod_lt _ (by omega)
  generalize w / 2 ^ s % 32 = d at *
  have e3 : (0 < zi d) = (0 < d) := zi_lt (a := 0) (b := d) (by omega) (by omega)
  have e4 : (97 : Int32) + zi d - 1 = zi (96 + d) := by
    rw [zl_97, zl_1, zi_add, zi_sub (by omega) (by omega)]
    congr 1
    omega
  by_cases h : 0 < d
  · rw [if_pos (e3.mpr h), if_pos h, e4]
  · rw [if_neg (fun q => h (e3.mp q)), if_neg h]
theorem sName_eq {ls : List Nat} (h : zNm ls) : sName (zi (yPk ls)) = zLts ls := by
  obtain ⟨h1, h2, h3⟩ := h
  have fin : ∀ w, w < 2147483648 → sName (zi w) = (if 0 < w / 33554432 % 32 then [zi (96 + w / 33554432 % 32)] else []) ++ ((if 0 < w / 1048576 % 32 then [zi (96 + w / 1048576 % 32)] else []) ++ ((if 0 < w / 32768 % 32 then [zi (96 + w / 32768 % 32)] else []) ++ ((if 0 < w / 1024 % 32 then [zi (96 + w / 1024 % 32)] else []) ++ ((if 0 < w / 32 % 32 then [zi (96 + w / 32 % 32)] else []) ++ (if 0 < w % 32 then [zi (96 + w % 32)] else []))))) := by
    intro w hw
    unfold sName
    rw [sLet_eq hw (by omega), sLet_eq hw (by omega), sLet_eq hw (by omega), sLet_eq hw (by omega), sLet_eq hw (by omega), sLet_eq hw (by omega)]
    simp only [Nat.reducePow, Nat.div_one]
  match ls, h1, h2, h3 with
  | [a], _, _, h3 =>
    have ha := h3 a (by simp)
    have e : yPk [a] = a := by simp [yPk]
    rw [e, fin a (by omega)]
    rw [if_neg (by omega), if_neg (by omega), if_neg (by omega), if_neg (by omega), if_neg (by omega), if_pos (by omega), show a % 32 = a by omega]
    rfl
  | [a, b], _, _, h3 =>
    have ha := h3 a (by simp)
    have hb := h3 b (by simp)
    have e : yPk [a, b] = 32 * a + b := by simp [yPk]
    rw [e, fin _ (by omega)]
    rw [if_neg (by omega), if_neg (by omega), if_neg (by omega), if_neg (by omega), if_pos (by omega), if_pos (by omega), show (32 * a + b) / 32 % 32 = a by omega, show (32 * a + b) % 32 = b by omega]
    rfl
  | [a, b, c], _, _, h3 =>
    have ha := h3 a (by simp)
    have hb := h3 b (by simp)
    have hc := h3 c (by simp)
    have e : yPk [a, b, c] = 32 * (32 * a + b) + c := by simp [yPk]
    rw [e, fin _ (by omega)]
    rw [if_neg (by omega), if_neg (by omega), if_neg (by omega), if_pos (by omega), if_pos (by omega), if_pos (by omega), show (32 * (32 * a + b) + c) / 1024 % 32 = a by omega, show (32 * (32 * a + b) + c) / 32 % 32 = b by omega, show (32 * (32 * a + b) + c) % 32 = c by omega]
    rfl
  | [a, b, c, d], _, _, h3 =>
    have ha := h3 a (by simp)
    have hb := h3 b (by simp)
    have hc := h3 c (by simp)
    have hd := h3 d (by simp)
    have e : yPk [a, b, c, d] = 32 * (32 * (32 * a + b) + c) + d := by simp [yPk]
    rw [e, fin _ (by omega)]
    rw [if_neg (by omega), if_neg (by omega), if_pos (by omega), if_pos (by omega), if_pos (by omega), if_pos (by omega), show (32 * (32 * (32 * a + b) + c) + d) / 32768 % 32 = a by omega, show (32 * (32 * (32 * a + b) + c) + d) / 1024 % 32 = b by omega, show (32 * (32 * (32 * a + b) + c) + d) / 32 % 32 = c by omega, show (32 * (32 * (32 * a + b) + c) + d) % 32 = d by omega]
    rfl
  | [a, b, c, d, f], _, _, h3 =>
    have ha := h3 a (by simp)
    have hb := h3 b (by simp)
    have hc := h3 c (by simp)
    have hd := h3 d (by simp)
    have hf := h3 f (by simp)
    have e : yPk [a, b, c, d, f] = 32 * (32 * (32 * (32 * a + b) + c) + d) + f := by simp [yPk]
    rw [e, fin _ (by omega)]
    rw [if_neg (by omega), if_pos (by omega), if_pos (by omega), if_pos (by omega), if_pos (by omega), if_pos (by omega), show (32 * (32 * (32 * (32 * a + b) + c) + d) + f) / 1048576 % 32 = a by omega, show (32 * (32 * (32 * (32 * a + b) + c) + d) + f) / 32768 % 32 = b by omega, show (32 * (32 * (32 * (32 * a + b) + c) + d) + f) / 1024 % 32 = c by omega, show (32 * (32 * (32 * (32 * a + b) + c) + d) + f) / 32 % 32 = d by omega, show (32 * (32 * (32 * (32 * a + b) + c) + d) + f) % 32 = f by omega]
    rfl
  | [a, b, c, d, f, g], _, _, h3 =>
    have ha := h3 a (by simp)
    have hb := h3 b (by simp)
    have hc := h3 c (by simp)
    have hd := h3 d (by simp)
    have hf := h3 f (by simp)
    have hg := h3 g (by simp)
    have e : yPk [a, b, c, d, f, g] = 32 * (32 * (32 * (32 * (32 * a + b) + c) + d) + f) + g := by simp [yPk]
    rw [e, fin _ (by omega)]
    rw [if_pos (by omega), if_pos (by omega), if_pos (by omega), if_pos (by omega), if_pos (by omega), if_pos (by omega), show (32 * (32 * (32 * (32 * (32 * a + b) + c) + d) + f) + g) / 33554432 % 32 = a by omega, show (32 * (32 * (32 * (32 * (32 * a + b) + c) + d) + f) + g) / 1048576 % 32 = b by omega, show (32 * (32 * (32 * (32 * (32 * a + b) + c) + d) + f) + g) / 32768 % 32 = c by omega, show (32 * (32 * (32 * (32 * (32 * a + b) + c) + d) + f) + g) / 1024 % 32 = d by omega, show (32 * (32 * (32 * (32 * (32 * a + b) + c) + d) + f) + g) / 32 % 32 = f by omega, show (32 * (32 * (32 * (32 * (32 * a + b) + c) + d) + f) + g) % 32 = g by omega]
    rfl
  | _ :: _ :: _ :: _ :: _ :: _ :: _ :: _, _, h2, _ => simp at h2
  | [], h1, _, _ => simp at h1
/-- names alike -/
def zRn (D T : ZD2) : Prop := ∀ p, p < sNp T → ∃ ls, zNm ls ∧ T 2 (12 * p + 11) = zi (yPk ls) ∧ ∀ i, i < 6 → D 169 (6 * p + i) = (match ls[i]? with | some c => zi (96 + c) | none => zi 0)
theorem zRn_im {D T U : ZD2} (N : zRn D T) (h : zIm T U) (h6 : sNp T ≤ 6) : zRn D U := by
  intro p hp
  rw [zRd_np h.2.1] at hp
  obtain ⟨ls, a, b, c⟩ := N p hp
  exact ⟨ls, a, by rw [(h.2.2 p (by omega)).2.2]; exact b, c⟩
theorem zRn_frD {D D' T : ZD2} (N : zRn D T) (h : D' 169 = D 169) : zRn D' T := by
  intro p hp
  obtain ⟨ls, a, b, c⟩ := N p hp
  exact ⟨ls, a, b, fun i hi => by rw [h]; exact c i hi⟩
/-- the model's text -/
def zMT (D : ZD2) (t : List Int32) : Prop := D 168 42 = zi t.length ∧ ∀ i v, t[i]? = some v → D 182 i = v
def zFrT (D D' : ZD2) : Prop := (∀ a, a ≠ 168 → a ≠ 182 → D' a = D a) ∧ ∀ j, j ≠ 42 → D' 168 j = D 168 j
theorem zFrT_rfl {D : ZD2} : zFrT D D := ⟨fun _ _ _ => rfl, fun _ _ => rfl⟩
theorem zFrT_tr {D D' D'' : ZD2} (h1 : zFrT D D') (h2 : zFrT D' D'') : zFrT D D'' := ⟨fun a a1 a2 => (h2.1 a a1 a2).trans (h1.1 a a1 a2), fun j j1 => (h2.2 j j1).trans (h1.2 j j1)⟩
theorem zRs_frT {D D' T : ZD2} (h : zFrT D D') (S : zRs D T) : zRs D' T := by
  obtain ⟨⟨s1, s2, s3, s4, s5, s6⟩, s7, s8⟩ := S
  refine ⟨⟨?_, ?_, ?_, ?_, ?_, ?_⟩, fun p hp => ?_, fun p hp => ?_⟩
  · rw [h.2 7 (by omega)]; exact s1
  · rw [h.2 2 (by omega)]; exact s2
  · rw [h.2 3 (by omega)]; exact s3
  · rw [h.2 4 (by omega)]; exact s4
  · rw [h.2 5 (by omega)]; exact s5
  · rw [h.2 6 (by omega)]; exact s6
  · rw [h.1 170 (by omega) (by omega)]; exact s7 p hp
  · rw [h.1 171 (by omega) (by omega)]; exact s8 p hp
section
variable {X : ZX} {D T : ZD2} {s : Nat → Int32} {O : ZO2} {k : Nat × Nat × Nat} {t : List Int32}
theorem m276 {c : Int32} (M : zMT D t) (h : t.length < 1200) : ∃ D', zev X 276 0 [.ref 168, .int c] [] (zHP (zrow D 172 s) O, k) = some (.inl none, (zHP (zrow D' 172 s) O, k)) ∧ zMT D' (t ++ [c]) ∧ zFrT D D' := by
  obtain ⟨h1, h2⟩ := M
  refine ⟨zw (zw D 182 t.length c) 168 42 (zi (t.length + 1)), ?_, ⟨?_, fun i v hv => ?_⟩, ⟨fun a a1 a2 => by rw [zw_row a1, zw_row a2], fun j j1 => by rw [zw_ne (by omega), zw_ne (by omega)]⟩⟩
  · have hb : ¬ 1200 ≤ t.length := by omega
    refine b276_0.trans ?_
    simp (disch := first | assumption | omega) only [↓zn_l, zl_0, zl_1, zl_2, zl_3, zl_4, zl_5, zl_6, zl_7, zl_8, zl_9, zl_10, zl_11, zl_12, zl_13, zl_14, zl_15, zl_16, zl_17, zl_18, zl_19, zl_20, zl_21, zl_22, zl_23, zl_24, zl_25, zl_26, zl_27, zl_28, zl_29, zl_30, zl_31, zl_32, zl_36, zl_46, zl_48, zl_50, zl_57, zl_63, zl_64, zl_72, zl_97, zl_99, zl_100, zl_101, zl_122, zl_127, zl_200, zl_255, zl_406, zl_534, zl_540, zl_600, zl_9999, zl_33, zl_34, zl_35, zl_37, zl_38, zl_39, zl_40, zl_41, zl_42, zl_43, zl_44, zl_45, zl_47, zl_49, zl_52, zl_53, zl_54, zl_55, zl_58, zl_59, zl_60, zl_61, zl_62, zl_65, zl_70, zl_71, zl_98, zl_102, zl_103, zl_104, zl_105, zl_110, zl_111, zl_115, zl_120, zl_123, zl_126, zl_128, zl_256, zl_1000, zl_1024, zcon_inl, zcon_inr, Option.toList_some, Option.toList_none, List.cons_append, List.nil_append, List.append_nil, Nat.add_zero, zbind_some, zi_toNat, zi_lt, zi_inj, zi_add, zi_mul, zi_ne_zn, zn_ne_zi, zn_lt_zi, zi_lt_zn, Nat.not_lt_zero, false_or, if_true, if_false, true_or, or_false, Nat.reduceEqDiff, eq_self, e168s, h1, hb, zw_so, zw_nea]
  · rw [zw_self, List.length_append]
    rfl
  · rw [zw_ne (by omega)]
    by_cases hi : i < t.length
    · rw [List.getElem?_append_left hi] at hv
      rw [zw_ne (by omega)]
      exact h2 i v hv
    · have hl := (List.getElem?_eq_some_iff.mp hv).1
      rw [List.length_append] at hl
      simp only [List.length_cons, List.length_nil] at hl
      have e : i = t.length := by omega
      subst e
      rw [zw_self]
      simpa using hv
theorem m275 {p : Nat} {ls : List Nat} (M : zMT D t) (h : t.length + 6 ≤ 1200) (hn : zNm ls) (hp : p < 6) (hD : ∀ i, i < 6 → D 169 (6 * p + i) = (match ls[i]? with | some c => zi (96 + c) | none => zi 0)) : ∃ D', zev X 275 0 [.ref 168, .int (zi p), zJ] [] (zHP (zrow D 172 s) O, k) = some (.inl none, (zHP (zrow D' 172 s) O, k)) ∧ zMT D' (t ++ zLts ls) ∧ zFrT D D' := by
  have e169 : ∀ D : ZD2, zrow D 172 s 169 = D 169 := fun D => zrow_ne (by omega)
  have key : ∀ d i (D' : ZD2), i + d = 6 → i ≤ ls.length → zMT D' (t ++ zLts (ls.take i)) → zFrT D D' → ∃ D'', zev X 275 2 [.ref 168, .int (zi p), .int (zi i)] [] (zHP (zrow D' 172 s) O, k) = some (.inl none, (zHP (zrow D'' 172 s) O, k)) ∧ zMT D'' (t ++ zLts ls) ∧ zFrT D D'' := by
    intro d
    induction d with
    | zero =>
      intro i D' hi hl M' F
      have hl6 := hn.2.1
      have e : ls.take i = ls := List.take_of_length_le (by omega)
      rw [e] at M'
      refine ⟨D', b275_2.trans ?_, M', F⟩
      have hni : ¬ i < 6 := by omega
      simp (disch := first | assumption | omega) only [↓zn_l, zl_0, zl_1, zl_2, zl_3, zl_4, zl_5, zl_6, zl_7, zl_8, zl_9, zl_10, zl_11, zl_12, zl_13, zl_14, zl_15, zl_16, zl_17, zl_18, zl_19, zl_20, zl_21, zl_22, zl_23, zl_24, zl_25, zl_26, zl_27, zl_28, zl_29, zl_30, zl_31, zl_32, zl_36, zl_46, zl_48, zl_50, zl_57, zl_63, zl_64, zl_72, zl_97, zl_99, zl_100, zl_101, zl_122, zl_127, zl_200, zl_255, zl_406, zl_534, zl_540, zl_600, zl_9999, zl_33, zl_34, zl_35, zl_37, zl_38, zl_39, zl_40, zl_41, zl_42, zl_43, zl_44, zl_45, zl_47, zl_49, zl_52, zl_53, zl_54, zl_55, zl_58, zl_59, zl_60, zl_61, zl_62, zl_65, zl_70, zl_71, zl_98, zl_102, zl_103, zl_104, zl_105, zl_110, zl_111, zl_115, zl_120, zl_123, zl_126, zl_128, zl_256, zl_1000, zl_1024, zcon_inl, zcon_inr, Option.toList_some, Option.toList_none, List.cons_append, List.nil_append, List.append_nil, Nat.add_zero, zbind_some, zi_toNat, zi_lt, zi_inj, zi_add, zi_mul, zi_ne_zn, zn_ne_zi, zn_lt_zi, zi_lt_zn, Nat.not_lt_zero, false_or, if_true, if_false, true_or, or_false, Nat.reduceEqDiff, eq_self, hni]
    | succ d ih =>
      intro i D' hi hl M' F
      have hi6 : i < 6 := by omega
      have h36 : ¬ 36 ≤ 6 * p + i := by omega
      have hc := hD i hi6
      rw [← F.1 169 (by omega) (by omega)] at hc
      cases hg : ls[i]? with
      | none =>
        rw [hg] at hc
        have e : ls.take i = ls := List.take_of_length_le (by have := List.getElem?_eq_none_iff.mp hg; omega)
        rw [e] at M'
        refine ⟨D', b275_2.trans ?_, M', F⟩
        simp (disch := first | assumption | omega) only [↓zn_l, zl_0, zl_1, zl_2, zl_3, zl_4, zl_5, zl_6, zl_7, zl_8, zl_9, zl_10, zl_11, zl_12, zl_13, zl_14, zl_15, zl_16, zl_17, zl_18, zl_19, zl_20, zl_21, zl_22, zl_23, zl_24, zl_25, zl_26, zl_27, zl_28, zl_29, zl_30, zl_31, zl_32, zl_36, zl_46, zl_48, zl_50, zl_57, zl_63, zl_64, zl_72, zl_97, zl_99, zl_100, zl_101, zl_122, zl_127, zl_200, zl_255, zl_406, zl_534, zl_540, zl_600, zl_9999, zl_33, zl_34, zl_35, zl_37, zl_38, zl_39, zl_40, zl_41, zl_42, zl_43, zl_44, zl_45, zl_47, zl_49, zl_52, zl_53, zl_54, zl_55, zl_58, zl_59, zl_60, zl_61, zl_62, zl_65, zl_70, zl_71, zl_98, zl_102, zl_103, zl_104, zl_105, zl_110, zl_111, zl_115, zl_120, zl_123, zl_126, zl_128, zl_256, zl_1000, zl_1024, zcon_inl, zcon_inr, Option.toList_some, Option.toList_none, List.cons_append, List.nil_append, List.append_nil, Nat.add_zero, zbind_some, zi_toNat, zi_lt, zi_inj, zi_add, zi_mul, zi_ne_zn, zn_ne_zi, zn_lt_zi, zi_lt_zn, Nat.not_lt_zero, false_or, if_true, if_false, true_or, or_false, Nat.reduceEqDiff, eq_self, hi6, h36, e169, hc]
      | some c =>
        rw [hg] at hc
        have hlt := (List.getElem?_eq_some_iff.mp hg).1
        have hc26 := hn.2.2 c (List.mem_of_getElem? hg)
        obtain ⟨D2, e276, M2, F2⟩ := m276 (X := X) (s := s) (O := O) (k := k) (c := zi (96 + c)) M' (by
          rw [List.length_append]
          unfold zLts
          rw [List.length_map, List.length_take]
          omega)
        have et : t ++ zLts (ls.take i) ++ [zi (96 + c)] = t ++ zLts (ls.take (i + 1)) := by
          unfold zLts
          rw [List.take_add_one, hg, List.map_append, List.append_assoc]
          rfl
        rw [et] at M2
        obtain ⟨D3, e3, M3, F3⟩ := ih (i + 1) D2 (by omega) (by omega) M2 (zFrT_tr F F2)
        refine ⟨D3, ?_, M3, F3⟩
        rw [← e3]
        refine b275_2.trans ?_
        have hne : ¬ 96 + c = 0 := by omega
        simp (disch := first | assumption | omega) only [↓zn_l, zl_0, zl_1, zl_2, zl_3, zl_4, zl_5, zl_6, zl_7, zl_8, zl_9, zl_10, zl_11, zl_12, zl_13, zl_14, zl_15, zl_16, zl_17, zl_18, zl_19, zl_20, zl_21, zl_22, zl_23, zl_24, zl_25, zl_26, zl_27, zl_28, zl_29, zl_30, zl_31, zl_32, zl_36, zl_46, zl_48, zl_50, zl_57, zl_63, zl_64, zl_72, zl_97, zl_99, zl_100, zl_101, zl_122, zl_127, zl_200, zl_255, zl_406, zl_534, zl_540, zl_600, zl_9999, zl_33, zl_34, zl_35, zl_37, zl_38, zl_39, zl_40, zl_41, zl_42, zl_43, zl_44, zl_45, zl_47, zl_49, zl_52, zl_53, zl_54, zl_55, zl_58, zl_59, zl_60, zl_61, zl_62, zl_65, zl_70, zl_71, zl_98, zl_102, zl_103, zl_104, zl_105, zl_110, zl_111, zl_115, zl_120, zl_123, zl_126, zl_128, zl_256, zl_1000, zl_1024, zcon_inl, zcon_inr, Option.toList_some, Option.toList_none, List.cons_append, List.nil_append, List.append_nil, Nat.add_zero, zbind_some, zi_toNat, zi_lt, zi_inj, zi_add, zi_mul, zi_ne_zn, zn_ne_zi, zn_lt_zi, zi_lt_zn, Nat.not_lt_zero, false_or, if_true, if_false, true_or, or_false, Nat.reduceEqDiff, eq_self, hi6, h36, e169, hc, hne, e276]
        refine b275_37.trans ?_
        simp only [↓zn_l, zl_0, zl_1, zl_2, zl_3, zl_4, zl_5, zl_6, zl_7, zl_8, zl_9, zl_10, zl_11, zl_12, zl_13, zl_14, zl_15, zl_16, zl_17, zl_18, zl_19, zl_20, zl_21, zl_22, zl_23, zl_24, zl_25, zl_26, zl_27, zl_28, zl_29, zl_30, zl_31, zl_32, zl_36, zl_46, zl_48, zl_50, zl_57, zl_63, zl_64, zl_72, zl_97, zl_99, zl_100, zl_101, zl_122, zl_127, zl_200, zl_255, zl_406, zl_534, zl_540, zl_600, zl_9999, zl_33, zl_34, zl_35, zl_37, zl_38, zl_39, zl_40, zl_41, zl_42, zl_43, zl_44, zl_45, zl_47, zl_49, zl_52, zl_53, zl_54, zl_55, zl_58, zl_59, zl_60, zl_61, zl_62, zl_65, zl_70, zl_71, zl_98, zl_102, zl_103, zl_104, zl_105, zl_110, zl_111, zl_115, zl_120, zl_123, zl_126, zl_128, zl_256, zl_1000, zl_1024, zi_add]
  have e0 : t ++ zLts (ls.take 0) = t := by simp [zLts]
  rw [b275_0, zl_0]
  exact key 6 0 D (by omega) (by omega) (by rw [e0]; exact M) zFrT_rfl
theorem m280 {q : Nat} (M : zMT D t) (h : t.length + 3 ≤ 1200) (hq : q < 1000) : ∃ D', zev X 280 0 [.ref 168, .int (zi q), zJ] [] (zHP (zrow D 172 s) O, k) = some (.inl none, (zHP (zrow D' 172 s) O, k)) ∧ zMT D' (t ++ sNum q) ∧ zFrT D D' := by
  have up : ∀ u, 0 < u → u < 2147483648 → zev X 280 2 [.ref 168, .int (zi q), .int (zi u)] [] (zHP (zrow D 172 s) O, k) = if q / u < 10 then zev X 280 18 [.ref 168, .int (zi q), .int (zi u)] [] (zHP (zrow D 172 s) O, k) else zev X 280 2 [.ref 168, .int (zi q), .int (zi (10 * u))] [] (zHP (zrow D 172 s) O, k) := by
    intro u h1 h2
    have h3 : q / u < 2147483648 := Nat.lt_of_le_of_lt (Nat.div_le_self _ _) (by omega)
    have hne : ¬ u = 0 := by omega
    refine b280_2.trans ?_
    simp (disch := first | assumption | omega) only [↓zn_l, zl_0, zl_1, zl_2, zl_3, zl_4, zl_5, zl_6, zl_7, zl_8, zl_9, zl_10, zl_11, zl_12, zl_13, zl_14, zl_15, zl_16, zl_17, zl_18, zl_19, zl_20, zl_21, zl_22, zl_23, zl_24, zl_25, zl_26, zl_27, zl_28, zl_29, zl_30, zl_31, zl_32, zl_36, zl_46, zl_48, zl_50, zl_57, zl_63, zl_64, zl_72, zl_97, zl_99, zl_100, zl_101, zl_122, zl_127, zl_200, zl_255, zl_406, zl_534, zl_540, zl_600, zl_9999, zl_33, zl_34, zl_35, zl_37, zl_38, zl_39, zl_40, zl_41, zl_42, zl_43, zl_44, zl_45, zl_47, zl_49, zl_52, zl_53, zl_54, zl_55, zl_58, zl_59, zl_60, zl_61, zl_62, zl_65, zl_70, zl_71, zl_98, zl_102, zl_103, zl_104, zl_105, zl_110, zl_111, zl_115, zl_120, zl_123, zl_126, zl_128, zl_256, zl_1000, zl_1024, zcon_inl, zcon_inr, Option.toList_some, Option.toList_none, List.cons_append, List.nil_append, List.append_nil, Nat.add_zero, zbind_some, zi_toNat, zi_lt, zi_inj, zi_add, zi_mul, zi_ne_zn, zn_ne_zi, zn_lt_zi, zi_lt_zn, Nat.not_lt_zero, false_or, if_true, if_false, true_or, or_false, Nat.reduceEqDiff, eq_self, zi_div, hne]
  have last : ∀ (D : ZD2), zev X 280 18 [.ref 168, .int (zi q), .int (zi 0)] [] (zHP (zrow D 172 s) O, k) = some (.inl none, (zHP (zrow D 172 s) O, k)) := by
    intro D
    refine b280_18.trans ?_
    simp (disch := first | assumption | omega) only [↓zn_l, zl_0, zl_1, zl_2, zl_3, zl_4, zl_5, zl_6, zl_7, zl_8, zl_9, zl_10, zl_11, zl_12, zl_13, zl_14, zl_15, zl_16, zl_17, zl_18, zl_19, zl_20, zl_21, zl_22, zl_23, zl_24, zl_25, zl_26, zl_27, zl_28, zl_29, zl_30, zl_31, zl_32, zl_36, zl_46, zl_48, zl_50, zl_57, zl_63, zl_64, zl_72, zl_97, zl_99, zl_100, zl_101, zl_122, zl_127, zl_200, zl_255, zl_406, zl_534, zl_540, zl_600, zl_9999, zl_33, zl_34, zl_35, zl_37, zl_38, zl_39, zl_40, zl_41, zl_42, zl_43, zl_44, zl_45, zl_47, zl_49, zl_52, zl_53, zl_54, zl_55, zl_58, zl_59, zl_60, zl_61, zl_62, zl_65, zl_70, zl_71, zl_98, zl_102, zl_103, zl_104, zl_105, zl_110, zl_111, zl_115, zl_120, zl_123, zl_126, zl_128, zl_256, zl_1000, zl_1024, zcon_inl, zcon_inr, Option.toList_some, Option.toList_none, List.cons_append, List.nil_append, List.append_nil, Nat.add_zero, zbind_some, zi_toNat, zi_lt, zi_inj, zi_add, zi_mul, zi_ne_zn, zn_ne_zi, zn_lt_zi, zi_lt_zn, Nat.not_lt_zero, false_or, if_true, if_false, true_or, or_false, Nat.reduceEqDiff, eq_self, Nat.lt_irrefl]
  have down : ∀ u (D : ZD2) (t : List Int32), 0 < u → u ≤ 1000 → zMT D t → t.length < 1200 → ∃ D', zev X 280 18 [.ref 168, .int (zi q), .int (zi u)] [] (zHP (zrow D 172 s) O, k) = zev X 280 18 [.ref 168, .int (zi q), .int (zi (u / 10))] [] (zHP (zrow D' 172 s) O, k) ∧ zMT D' (t ++ [zi (48 + (q / u - q / u / 10 * 10))]) ∧ zFrT D D' := by
    intro u D t h1 h2 M hl
    have h3 : q / u < 1000 := Nat.lt_of_le_of_lt (Nat.div_le_self _ _) (by omega)
    have hle : q / u / 10 * 10 ≤ q / u := Nat.div_mul_le_self _ _
    have hne : ¬ u = 0 := by omega
    obtain ⟨D', e, M', F'⟩ := m276 (X := X) (s := s) (O := O) (k := k) (c := zi (48 + (q / u - q / u / 10 * 10))) M hl
    refine ⟨D', b280_18.trans ?_, M', F'⟩
    simp (disch := first | assumption | omega) only [↓zn_l, zl_0, zl_1, zl_2, zl_3, zl_4, zl_5, zl_6, zl_7, zl_8, zl_9, zl_10, zl_11, zl_12, zl_13, zl_14, zl_15, zl_16, zl_17, zl_18, zl_19, zl_20, zl_21, zl_22, zl_23, zl_24, zl_25, zl_26, zl_27, zl_28, zl_29, zl_30, zl_31, zl_32, zl_36, zl_46, zl_48, zl_50, zl_57, zl_63, zl_64, zl_72, zl_97, zl_99, zl_100, zl_101, zl_122, zl_127, zl_200, zl_255, zl_406, zl_534, zl_540, zl_600, zl_9999, zl_33, zl_34, zl_35, zl_37, zl_38, zl_39, zl_40, zl_41, zl_42, zl_43, zl_44, zl_45, zl_47, zl_49, zl_52, zl_53, zl_54, zl_55, zl_58, zl_59, zl_60, zl_61, zl_62, zl_65, zl_70, zl_71, zl_98, zl_102, zl_103, zl_104, zl_105, zl_110, zl_111, zl_115, zl_120, zl_123, zl_126, zl_128, zl_256, zl_1000, zl_1024, zcon_inl, zcon_inr, Option.toList_some, Option.toList_none, List.cons_append, List.nil_append, List.append_nil, Nat.add_zero, zbind_some, zi_toNat, zi_lt, zi_inj, zi_add, zi_mul, zi_ne_zn, zn_ne_zi, zn_lt_zi, zi_lt_zn, Nat.not_lt_zero, false_or, if_true, if_false, true_or, or_false, Nat.reduceEqDiff, eq_self, zi_div, zi_sub, h1, hne, e]
    refine b280_35.trans ?_
    simp (disch := first | assumption | omega) only [↓zn_l, zl_0, zl_1, zl_2, zl_3, zl_4, zl_5, zl_6, zl_7, zl_8, zl_9, zl_10, zl_11, zl_12, zl_13, zl_14, zl_15, zl_16, zl_17, zl_18, zl_19, zl_20, zl_21, zl_22, zl_23, zl_24, zl_25, zl_26, zl_27, zl_28, zl_29, zl_30, zl_31, zl_32, zl_36, zl_46, zl_48, zl_50, zl_57, zl_63, zl_64, zl_72, zl_97, zl_99, zl_100, zl_101, zl_122, zl_127, zl_200, zl_255, zl_406, zl_534, zl_540, zl_600, zl_9999, zl_33, zl_34, zl_35, zl_37, zl_38, zl_39, zl_40, zl_41, zl_42, zl_43, zl_44, zl_45, zl_47, zl_49, zl_52, zl_53, zl_54, zl_55, zl_58, zl_59, zl_60, zl_61, zl_62, zl_65, zl_70, zl_71, zl_98, zl_102, zl_103, zl_104, zl_105, zl_110, zl_111, zl_115, zl_120, zl_123, zl_126, zl_128, zl_256, zl_1000, zl_1024, zi_div]
  rw [b280_0, zl_1, up 1 (by omega) (by omega)]
  by_cases h10 : q < 10
  · rw [if_pos (by omega)]
    obtain ⟨D1, e1, M1, F1⟩ := down 1 D t (by omega) (by omega) M (by omega)
    refine ⟨D1, ?_, ?_, F1⟩
    · rw [e1]; exact last D1
    · unfold sNum
      rw [if_pos (by omega), if_pos h10]
      simpa using M1
  · rw [if_neg (by omega), up 10 (by omega) (by omega)]
    by_cases h100 : q < 100
    · rw [if_pos (by omega)]
      obtain ⟨D1, e1, M1, F1⟩ := down 10 D t (by omega) (by omega) M (by omega)
      obtain ⟨D2, e2, M2, F2⟩ := down 1 D1 _ (by omega) (by omega) M1 (by rw [List.length_append]; simp; omega)
      refine ⟨D2, ?_, ?_, zFrT_tr F1 F2⟩
      · rw [e1, e2]; exact last D2
      · unfold sNum
        rw [if_pos h100, if_neg h10]
        simpa using M2
    · rw [if_neg (by omega), up 100 (by omega) (by omega), if_pos (by omega)]
      obtain ⟨D1, e1, M1, F1⟩ := down 100 D t (by omega) (by omega) M (by omega)
      obtain ⟨D2, e2, M2, F2⟩ := down 10 D1 _ (by omega) (by omega) M1 (by rw [List.length_append]; simp; omega)
      obtain ⟨D3, e3, M3, F3⟩ := down 1 D2 _ (by omega) (by omega) M2 (by rw [List.length_append, List.length_append]; simp; omega)
      refine ⟨D3, ?_, ?_, zFrT_tr (zFrT_tr F1 F2) F3⟩
      · rw [e1, e2, e3]; exact last D3
      · unfold sNum
        rw [if_neg h100, if_neg h10]
        have hd : q / 100 - q / 100 / 10 * 10 = q / 100 := by omega
        rw [hd] at M3
        simpa using M3
theorem m277 {p g : Nat} (I : zIv T) (S : zRs D T) (R : zRd s T) (hp : p < sNp T) (hg : g < 12) : zev X 277 0 [.ref 168, .int (zi p), .int (zi g)] [] (zHP (zrow D 172 s) O, k) = some (.inl (some (.int (sLetter T (12 * p + g)))), (zHP (zrow D 172 s) O, k)) := by
  have n2 := zIv_np6 I
  have hp6 : p < 6 := by omega
  have e214 := m214 (X := X) (D := D) (O := O) (k := k) R hp6 hg
  have e215 := m215 (X := X) (O := O) (k := k) I S R hp6 hg
  have e208 := @m208 X D s O k p g 0 hp6 hg (by omega)
  rw [Nat.add_zero (46 + 5 * (12 * p + g)), (R.2.2.1 (12 * p + g) (by omega)).1] at e208
  simp (disch := first | assumption | omega) only [b277_0, e214, ↓zn_l, zl_0, zl_1, zl_2, zl_3, zl_4, zl_5, zl_6, zl_7, zl_8, zl_9, zl_10, zl_11, zl_12, zl_13, zl_14, zl_15, zl_16, zl_17, zl_18, zl_19, zl_20, zl_21, zl_22, zl_23, zl_24, zl_25, zl_26, zl_27, zl_28, zl_29, zl_30, zl_31, zl_32, zl_36, zl_46, zl_48, zl_50, zl_57, zl_63, zl_64, zl_72, zl_97, zl_99, zl_100, zl_101, zl_122, zl_127, zl_200, zl_255, zl_406, zl_534, zl_540, zl_600, zl_9999, zl_33, zl_34, zl_35, zl_37, zl_38, zl_39, zl_40, zl_41, zl_42, zl_43, zl_44, zl_45, zl_47, zl_49, zl_52, zl_53, zl_54, zl_55, zl_58, zl_59, zl_60, zl_61, zl_62, zl_65, zl_70, zl_71, zl_98, zl_102, zl_103, zl_104, zl_105, zl_110, zl_111, zl_115, zl_120, zl_123, zl_126, zl_128, zl_256, zl_1000, zl_1024, zcon_inl, zcon_inr, Option.toList_some, Option.toList_none, List.cons_append, List.nil_append, List.append_nil, Nat.add_zero, zbind_some, zi_toNat, zi_lt, zi_inj, zi_add, zi_mul, zi_ne_zn, zn_ne_zi, zn_lt_zi, zi_lt_zn, Nat.not_lt_zero, false_or, if_true, if_false, true_or, or_false, Nat.reduceEqDiff, eq_self]
  refine b277_6.trans ?_
  unfold sLetter
  simp only [↓zn_l, zl_0, zl_1, zl_2, zl_3, zl_4, zl_5, zl_6, zl_7, zl_8, zl_9, zl_10, zl_11, zl_12, zl_13, zl_14, zl_15, zl_16, zl_17, zl_18, zl_19, zl_20, zl_21, zl_22, zl_23, zl_24, zl_25, zl_26, zl_27, zl_28, zl_29, zl_30, zl_31, zl_32, zl_36, zl_46, zl_48, zl_50, zl_57, zl_63, zl_64, zl_72, zl_97, zl_99, zl_100, zl_101, zl_122, zl_127, zl_200, zl_255, zl_406, zl_534, zl_540, zl_600, zl_9999, zl_33, zl_34, zl_35, zl_37, zl_38, zl_39, zl_40, zl_41, zl_42, zl_43, zl_44, zl_45, zl_47, zl_49, zl_52, zl_53, zl_54, zl_55, zl_58, zl_59, zl_60, zl_61, zl_62, zl_65, zl_70, zl_71, zl_98, zl_102, zl_103, zl_104, zl_105, zl_110, zl_111, zl_115, zl_120, zl_123, zl_126, zl_128, zl_256, zl_1000, zl_1024, zb_0]
  cases hi : sIn T (12 * p + g)
  · simp only [if_true, Bool.false_eq_true, if_false]
  · obtain ⟨f1, f2⟩ := sFr_of (zIv_at I (12 * p + g) (by omega)) hi
    have e219 := m219 (X := X) (D := D) (O := O) (k := k) I R (zIv_lt I (by omega) f2 f1)
    rw [f2] at e208
    simp only [if_true, if_false, Bool.true_eq_false, e215, zcon_inl, Option.toList_some, List.cons_append, List.nil_append]
    refine b277_18.trans ?_
    simp only [↓zn_l, zl_0, zl_1, zl_2, zl_3, zl_4, zl_5, zl_6, zl_7, zl_8, zl_9, zl_10, zl_11, zl_12, zl_13, zl_14, zl_15, zl_16, zl_17, zl_18, zl_19, zl_20, zl_21, zl_22, zl_23, zl_24, zl_25, zl_26, zl_27, zl_28, zl_29, zl_30, zl_31, zl_32, zl_36, zl_46, zl_48, zl_50, zl_57, zl_63, zl_64, zl_72, zl_97, zl_99, zl_100, zl_101, zl_122, zl_127, zl_200, zl_255, zl_406, zl_534, zl_540, zl_600, zl_9999, zl_33, zl_34, zl_35, zl_37, zl_38, zl_39, zl_40, zl_41, zl_42, zl_43, zl_44, zl_45, zl_47, zl_49, zl_52, zl_53, zl_54, zl_55, zl_58, zl_59, zl_60, zl_61, zl_62, zl_65, zl_70, zl_71, zl_98, zl_102, zl_103, zl_104, zl_105, zl_110, zl_111, zl_115, zl_120, zl_123, zl_126, zl_128, zl_256, zl_1000, zl_1024, zb_0]
    cases sSh T (12 * p + g)
    · simp only [if_true, Bool.false_eq_true, if_false, e208, zcon_inl, Option.toList_some, List.cons_append, List.nil_append]
      refine b277_34.trans ?_
      rw [e219, zcon_inl]
      refine b277_37.trans ?_
      simp only [↓zn_l, zl_0, zl_1, zl_2, zl_3, zl_4, zl_5, zl_6, zl_7, zl_8, zl_9, zl_10, zl_11, zl_12, zl_13, zl_14, zl_15, zl_16, zl_17, zl_18, zl_19, zl_20, zl_21, zl_22, zl_23, zl_24, zl_25, zl_26, zl_27, zl_28, zl_29, zl_30, zl_31, zl_32, zl_36, zl_46, zl_48, zl_50, zl_57, zl_63, zl_64, zl_72, zl_97, zl_99, zl_100, zl_101, zl_122, zl_127, zl_200, zl_255, zl_406, zl_534, zl_540, zl_600, zl_9999, zl_33, zl_34, zl_35, zl_37, zl_38, zl_39, zl_40, zl_41, zl_42, zl_43, zl_44, zl_45, zl_47, zl_49, zl_52, zl_53, zl_54, zl_55, zl_58, zl_59, zl_60, zl_61, zl_62, zl_65, zl_70, zl_71, zl_98, zl_102, zl_103, zl_104, zl_105, zl_110, zl_111, zl_115, zl_120, zl_123, zl_126, zl_128, zl_256, zl_1000, zl_1024, zb_0]
      cases sDirty T (sFr T (12 * p + g)) <;> simp
    · simp only [if_true, if_false, Bool.true_eq_false]
end
