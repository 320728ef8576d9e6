/-! The model's page leaves its frame. -/
section
variable {X : ZX} {D T : ZD2} {s : Nat → Int32} {O : ZO2} {k : Nat × Nat × Nat}
theorem m219' {f : Nat} {b : Bool} (hf : f < 64) (h : s (406 + 2 * f + 1) = zb b) : zev X 219 0 [.ref 168, .int (zi f)] [] (zHP (zrow D 172 s) O, k) = some (.inl (some (.int (zb b))), (zHP (zrow D 172 s) O, k)) := by
  simp (disch := first | assumption | omega) only [b219_0, b219_6, m209, ↓zn_l, zl_0, zl_1, zl_2, zl_3, zl_4, zl_5, zl_6, zl_7, zl_8, zl_9, zl_10, zl_11, zl_12, zl_13, zl_14, zl_15, zl_16, zl_17, zl_18, zl_19, zl_20, zl_21, zl_22, zl_23, zl_24, zl_25, zl_26, zl_27, zl_28, zl_29, zl_30, zl_31, zl_32, zl_36, zl_46, zl_48, zl_50, zl_57, zl_63, zl_64, zl_72, zl_97, zl_99, zl_100, zl_101, zl_122, zl_127, zl_200, zl_255, zl_406, zl_534, zl_540, zl_600, zl_9999, zl_33, zl_34, zl_35, zl_37, zl_38, zl_39, zl_40, zl_41, zl_42, zl_43, zl_44, zl_45, zl_47, zl_49, zl_52, zl_53, zl_54, zl_55, zl_58, zl_59, zl_60, zl_61, zl_62, zl_65, zl_70, zl_71, zl_98, zl_102, zl_103, zl_104, zl_105, zl_110, zl_111, zl_115, zl_120, zl_123, zl_126, zl_128, zl_256, zl_1000, zl_1024, zcon_inl, zcon_inr, Option.toList_some, Option.toList_none, List.cons_append, List.nil_append, List.append_nil, Nat.add_zero, zbind_some, zi_toNat, zi_lt, zi_inj, zi_add, zi_mul, zi_ne_zn, zn_ne_zi, zn_lt_zi, zi_lt_zn, Nat.not_lt_zero, false_or, if_true, if_false, true_or, or_false, h]
  cases b <;> simp (disch := first | assumption | omega) [zb, zi_inj]
theorem zDty {f : Nat} (I : zIv T) (hf : f < 64) : T 4 (3 * f + 1) = zb (sDirty T f) := by
  rcases I.2.2.2.2.1.2.1 f hf with h | ⟨h, -⟩ <;> simp (disch := first | assumption | omega) [sDirty, h, zb, zi_inj]
/-- what the model's row becomes as a page leaves -/
def vLeave (s : Nat → Int32) (r f c : Nat) (dirty once : Bool) (fl : Int32) : Nat → Int32 :=
  if 1 < c then zu s (46 + 5 * r) zn else zu (zu (zu s (46 + 5 * r) zn) (406 + 2 * f) (if dirty && !once then s 0 + fl else zi 0)) (406 + 2 * f + 1) (zi 0)
theorem m253 {p g f : Nat} {w : Bool} (I : zIv T) (S : zRs D T) (R : zRd s T) (hp : p < sNp T) (hg : g < 12) (hf : f < 64) (ha : T 3 (5 * (12 * p + g)) = zi f) : zev X 253 0 [.ref 168, .int (zi p), .int (zi g), .int (zb w), zJ] [] (zHP (zrow D 172 s) O, k) = some (.inl none, (zHP (zrow D 172 (vLeave s (12 * p + g) f (sCnt T f) (sDirty T f) w (T 0 2))) O, k)) := by
  have n2 := zIv_np6 I
  have hp6 : p < 6 := by omega
  have hr : 12 * p + g < 72 := by omega
  have hlt := zIv_lt I hr ha hf
  have eA := (R.2.2.1 (12 * p + g) hr).1
  have hat : ∀ q, q ≠ 12 * p + g → zw T 3 (5 * (12 * p + g)) zn 3 (5 * q) = T 3 (5 * q) := fun q hq => zw_ne (by omega)
  obtain ⟨c1, -⟩ := sCnt_out (U := zw T 3 (5 * (12 * p + g)) zn) hr hf ha (zw_self _ _ _ _) hat
  have hle := sCnt_le T f
  have e254 := @m254 X D s O k p g 0 zn hp6 hg (by omega)
  rw [Nat.add_zero (46 + 5 * (12 * p + g))] at e254
  have S' : zRs D (zw T 3 (5 * (12 * p + g)) zn) := by
    obtain ⟨s1, s2, s3⟩ := S
    have e1 : sNp (zw T 3 (5 * (12 * p + g)) zn) = sNp T := by unfold sNp; rw [zw_row (by omega)]
    refine ⟨by rw [zw_row (by omega), zw_row (by omega)]; exact s1, fun q hq => ?_, fun q hq => ?_⟩
    · rw [zw_row (by omega)]; exact s2 q (by omega)
    · rw [zw_row (by omega)]; exact s3 q (by omega)
  have e207 := @m207' X D (zw T 3 (5 * (12 * p + g)) zn) (zu s (46 + 5 * (12 * p + g)) zn) O k f (by unfold sNp; rw [zw_row (by omega)]; exact zIv_np I) (by unfold sNp; rw [zw_row (by omega)]; exact n2) (fun q hq => by unfold sPgs; rw [zw_row (by omega)]; exact zIv_pg I hq) (fun q h hq hh hb => by
      by_cases e : 12 * q + h = 12 * p + g
      · rw [e, zw_self]
      · rw [zw_ne (by omega)]
        refine (I.2.2.2.1.2 q h hq hh ?_).1
        unfold sNp sPgs at hb ⊢
        rw [zw_row (by omega), zw_row (by omega)] at hb
        exact hb) S' (fun q hq => by
      by_cases e : q = 12 * p + g
      · rw [e, zu_self, zw_self]
      · rw [zu_ne (by omega), zw_ne (by omega)]
        exact (R.2.2.1 q hq).1) hf
  have hd := zDty I hf
  have hd2 : zu s (46 + 5 * (12 * p + g)) zn (406 + 2 * f + 1) = zb (sDirty T f) := by
    rw [zu_ne (by omega), (R.2.2.2.1 f hlt).1]
    exact hd
  have e219 := m219' (X := X) (D := D) (O := O) (k := k) hf hd2
  have h540 : ¬ 540 ≤ 0 := by omega
  have fin : ∀ u, zev X 253 62 [.ref 168, .int (zi p), .int (zi g), .int (zb w), .int (zi f)] [] (zHP (zrow D 172 (zu (zu s (46 + 5 * (12 * p + g)) zn) (406 + 2 * f) u)) O, k) = some (.inl none, (zHP (zrow D 172 (zu (zu (zu s (46 + 5 * (12 * p + g)) zn) (406 + 2 * f) u) (406 + 2 * f + 1) (zi 0))) O, k)) := by
    intro u
    simp (disch := first | assumption | omega) only [b253_62, m255, b253_70, ↓zn_l, zl_0, zl_1, zl_2, zl_3, zl_4, zl_5, zl_6, zl_7, zl_8, zl_9, zl_10, zl_11, zl_12, zl_13, zl_14, zl_15, zl_16, zl_17, zl_18, zl_19, zl_20, zl_21, zl_22, zl_23, zl_24, zl_25, zl_26, zl_27, zl_28, zl_29, zl_30, zl_31, zl_32, zl_36, zl_46, zl_48, zl_50, zl_57, zl_63, zl_64, zl_72, zl_97, zl_99, zl_100, zl_101, zl_122, zl_127, zl_200, zl_255, zl_406, zl_534, zl_540, zl_600, zl_9999, zl_33, zl_34, zl_35, zl_37, zl_38, zl_39, zl_40, zl_41, zl_42, zl_43, zl_44, zl_45, zl_47, zl_49, zl_52, zl_53, zl_54, zl_55, zl_58, zl_59, zl_60, zl_61, zl_62, zl_65, zl_70, zl_71, zl_98, zl_102, zl_103, zl_104, zl_105, zl_110, zl_111, zl_115, zl_120, zl_123, zl_126, zl_128, zl_256, zl_1000, zl_1024, zcon_inl, zcon_inr, Option.toList_some, Option.toList_none, List.cons_append, List.nil_append, List.append_nil, Nat.add_zero, zbind_some]
  simp (disch := first | assumption | omega) only [b253_0, m208, eA, ha, b253_7, e254, b253_17, e207, ↓zn_l, zl_0, zl_1, zl_2, zl_3, zl_4, zl_5, zl_6, zl_7, zl_8, zl_9, zl_10, zl_11, zl_12, zl_13, zl_14, zl_15, zl_16, zl_17, zl_18, zl_19, zl_20, zl_21, zl_22, zl_23, zl_24, zl_25, zl_26, zl_27, zl_28, zl_29, zl_30, zl_31, zl_32, zl_36, zl_46, zl_48, zl_50, zl_57, zl_63, zl_64, zl_72, zl_97, zl_99, zl_100, zl_101, zl_122, zl_127, zl_200, zl_255, zl_406, zl_534, zl_540, zl_600, zl_9999, zl_33, zl_34, zl_35, zl_37, zl_38, zl_39, zl_40, zl_41, zl_42, zl_43, zl_44, zl_45, zl_47, zl_49, zl_52, zl_53, zl_54, zl_55, zl_58, zl_59, zl_60, zl_61, zl_62, zl_65, zl_70, zl_71, zl_98, zl_102, zl_103, zl_104, zl_105, zl_110, zl_111, zl_115, zl_120, zl_123, zl_126, zl_128, zl_256, zl_1000, zl_1024, zcon_inl, zcon_inr, Option.toList_some, Option.toList_none, List.cons_append, List.nil_append, List.append_nil, Nat.add_zero, zbind_some]
  refine b253_23.trans ?_
  unfold vLeave
  by_cases hc : 1 < sCnt T f
  · rw [zl_0, if_pos (by rw [zi_lt (by omega) (by omega)]; omega), if_pos hc]
  · rw [zl_0, if_neg (by rw [zi_lt (by omega) (by omega)]; omega), if_neg hc, e219, zcon_inl]
    show zev X 253 37 _ [_, _, _, _] _ = _
    refine b253_37.trans ?_
    cases hdd : sDirty T f
    · simp (disch := first | assumption | omega) only [zb_0, ↓zn_l, zl_0, zl_1, zl_2, zl_3, zl_4, zl_5, zl_6, zl_7, zl_8, zl_9, zl_10, zl_11, zl_12, zl_13, zl_14, zl_15, zl_16, zl_17, zl_18, zl_19, zl_20, zl_21, zl_22, zl_23, zl_24, zl_25, zl_26, zl_27, zl_28, zl_29, zl_30, zl_31, zl_32, zl_36, zl_46, zl_48, zl_50, zl_57, zl_63, zl_64, zl_72, zl_97, zl_99, zl_100, zl_101, zl_122, zl_127, zl_200, zl_255, zl_406, zl_534, zl_540, zl_600, zl_9999, zl_33, zl_34, zl_35, zl_37, zl_38, zl_39, zl_40, zl_41, zl_42, zl_43, zl_44, zl_45, zl_47, zl_49, zl_52, zl_53, zl_54, zl_55, zl_58, zl_59, zl_60, zl_61, zl_62, zl_65, zl_70, zl_71, zl_98, zl_102, zl_103, zl_104, zl_105, zl_110, zl_111, zl_115, zl_120, zl_123, zl_126, zl_128, zl_256, zl_1000, zl_1024, zcon_inl, zcon_inr, Option.toList_some, Option.toList_none, List.cons_append, List.nil_append, List.append_nil, Nat.add_zero, zbind_some, zi_toNat, zi_lt, zi_inj, zi_add, zi_mul, zi_ne_zn, zn_ne_zi, zn_lt_zi, zi_lt_zn, Nat.not_lt_zero, false_or, if_true, if_false, true_or, or_false, m255, fin, Bool.false_and, Bool.false_eq_true]
    · have e0 : zu s (46 + 5 * (12 * p + g)) zn 0 = s 0 := zu_ne (by omega)
      cases w
      · simp (disch := first | assumption | omega) only [zb_0, ↓zn_l, zl_0, zl_1, zl_2, zl_3, zl_4, zl_5, zl_6, zl_7, zl_8, zl_9, zl_10, zl_11, zl_12, zl_13, zl_14, zl_15, zl_16, zl_17, zl_18, zl_19, zl_20, zl_21, zl_22, zl_23, zl_24, zl_25, zl_26, zl_27, zl_28, zl_29, zl_30, zl_31, zl_32, zl_36, zl_46, zl_48, zl_50, zl_57, zl_63, zl_64, zl_72, zl_97, zl_99, zl_100, zl_101, zl_122, zl_127, zl_200, zl_255, zl_406, zl_534, zl_540, zl_600, zl_9999, zl_33, zl_34, zl_35, zl_37, zl_38, zl_39, zl_40, zl_41, zl_42, zl_43, zl_44, zl_45, zl_47, zl_49, zl_52, zl_53, zl_54, zl_55, zl_58, zl_59, zl_60, zl_61, zl_62, zl_65, zl_70, zl_71, zl_98, zl_102, zl_103, zl_104, zl_105, zl_110, zl_111, zl_115, zl_120, zl_123, zl_126, zl_128, zl_256, zl_1000, zl_1024, zcon_inl, zcon_inr, Option.toList_some, Option.toList_none, List.cons_append, List.nil_append, List.append_nil, Nat.add_zero, zbind_some, zi_toNat, zi_lt, zi_inj, zi_add, zi_mul, zi_ne_zn, zn_ne_zi, zn_lt_zi, zi_lt_zn, Nat.not_lt_zero, false_or, if_true, if_false, true_or, or_false, m255, fin, Bool.true_and, Bool.not_false, Bool.true_eq_false, zrow_self, e168s, h540, S.1.2.2.2.1, e0]
      · simp (disch := first | assumption | omega) only [zb_0, ↓zn_l, zl_0, zl_1, zl_2, zl_3, zl_4, zl_5, zl_6, zl_7, zl_8, zl_9, zl_10, zl_11, zl_12, zl_13, zl_14, zl_15, zl_16, zl_17, zl_18, zl_19, zl_20, zl_21, zl_22, zl_23, zl_24, zl_25, zl_26, zl_27, zl_28, zl_29, zl_30, zl_31, zl_32, zl_36, zl_46, zl_48, zl_50, zl_57, zl_63, zl_64, zl_72, zl_97, zl_99, zl_100, zl_101, zl_122, zl_127, zl_200, zl_255, zl_406, zl_534, zl_540, zl_600, zl_9999, zl_33, zl_34, zl_35, zl_37, zl_38, zl_39, zl_40, zl_41, zl_42, zl_43, zl_44, zl_45, zl_47, zl_49, zl_52, zl_53, zl_54, zl_55, zl_58, zl_59, zl_60, zl_61, zl_62, zl_65, zl_70, zl_71, zl_98, zl_102, zl_103, zl_104, zl_105, zl_110, zl_111, zl_115, zl_120, zl_123, zl_126, zl_128, zl_256, zl_1000, zl_1024, zcon_inl, zcon_inr, Option.toList_some, Option.toList_none, List.cons_append, List.nil_append, List.append_nil, Nat.add_zero, zbind_some, zi_toNat, zi_lt, zi_inj, zi_add, zi_mul, zi_ne_zn, zn_ne_zi, zn_lt_zi, zi_lt_zn, Nat.not_lt_zero, false_or, if_true, if_false, true_or, or_false, m255, fin, Bool.true_and, Bool.not_true, Bool.true_eq_false, Bool.false_eq_true]
theorem zRd_leave {r f : Nat} {w : Bool} (I : zIv T) (R : zRd s T) (hr : r < 72) (hf : f < 64) (ha : T 3 (5 * r) = zi f) : zRd (vLeave s r f (sCnt T f) (sDirty T f) w (T 0 2)) (uLeave T r f (!w)) := by
  obtain ⟨h4, hpos⟩ := uLeave_4 (w := !w) I hr hf ha
  have hle := sCnt_le T f
  have n4 := zIv_nf64 I
  have n2 := zIv_np6 I
  have hlt := zIv_lt I hr ha hf
  have h3 := uLeave_3 T r f (!w)
  have h0 : uLeave T r f (!w) 0 = T 0 := uLeave_o (by omega) (by omega)
  have h1 : uLeave T r f (!w) 1 = T 1 := uLeave_o (by omega) (by omega)
  have h2 : uLeave T r f (!w) 2 = T 2 := uLeave_o (by omega) (by omega)
  have h5 : uLeave T r f (!w) 5 = T 5 := uLeave_o (by omega) (by omega)
  have np : sNp (uLeave T r f (!w)) = sNp T := by unfold sNp; rw [h1]
  have nf : sNf (uLeave T r f (!w)) = sNf T := by unfold sNf; rw [h0]
  generalize uLeave T r f (!w) = U at *
  have hv : ∀ j, j ≠ 46 + 5 * r → j ≠ 406 + 2 * f → j ≠ 406 + 2 * f + 1 → vLeave s r f (sCnt T f) (sDirty T f) w (T 0 2) j = s j := by
    intro j a b c
    unfold vLeave
    split
    · rw [zu_ne a]
    · rw [zu_ne c, zu_ne b, zu_ne a]
  have hvr : vLeave s r f (sCnt T f) (sDirty T f) w (T 0 2) (46 + 5 * r) = zn := by
    unfold vLeave
    split
    · rw [zu_self]
    · rw [zu_ne (by omega), zu_ne (by omega), zu_self]
  obtain ⟨⟨t0, t1, t2, t3, t4⟩, t5, t6, t7, t8, t9⟩ := R.1
  refine ⟨⟨⟨?_, ?_, ?_, ?_, ?_⟩, ?_, ?_, ?_, ?_, ?_⟩, ?_, ?_, ?_, ?_⟩
  · rw [hv 0 (by omega) (by omega) (by omega), h1]; exact t0
  · rw [hv 1 (by omega) (by omega) (by omega), h1]; exact t1
  · rw [hv 2 (by omega) (by omega) (by omega), h1]; exact t2
  · rw [hv 3 (by omega) (by omega) (by omega), h1]; exact t3
  · rw [hv 4 (by omega) (by omega) (by omega), h1]; exact t4
  · rw [hv 5 (by omega) (by omega) (by omega), h1]; exact t5
  · rw [hv 6 (by omega) (by omega) (by omega), h1]; exact t6
  · rw [hv 7 (by omega) (by omega) (by omega), h1]; exact t7
  · rw [hv 8 (by omega) (by omega) (by omega), h1]; exact t8
  · rw [hv 9 (by omega) (by omega) (by omega), h1]; exact t9
  · intro p hp
    rw [np] at hp
    have := R.2.1 p hp
    rw [h2, hv _ (by omega) (by omega) (by omega), hv _ (by omega) (by omega) (by omega), hv _ (by omega) (by omega) (by omega), hv _ (by omega) (by omega) (by omega), hv _ (by omega) (by omega) (by omega), hv _ (by omega) (by omega) (by omega)]
    exact this
  · intro q hq
    obtain ⟨a1, a2, a3, a4, a5⟩ := R.2.2.1 q hq
    have e : ∀ j, 0 < j → j < 5 → U 3 (5 * q + j) = T 3 (5 * q + j) := fun j a b => by rw [h3, zw_ne (by omega)]
    rw [e 1 (by omega) (by omega), e 2 (by omega) (by omega), e 3 (by omega) (by omega), e 4 (by omega) (by omega), hv (46 + 5 * q + 1) (by omega) (by omega) (by omega), hv (46 + 5 * q + 2) (by omega) (by omega) (by omega), hv (46 + 5 * q + 3) (by omega) (by omega) (by omega), hv (46 + 5 * q + 4) (by omega) (by omega) (by omega)]
    refine ⟨?_, a2, a3, a4, a5⟩
    by_cases hqr : q = r
    · rw [hqr, hvr, h3, zw_self]
    · rw [hv _ (by omega) (by omega) (by omega), h3, zw_ne (by omega)]
      exact a1
  · intro f' hf'
    rw [nf] at hf'
    obtain ⟨a1, a2⟩ := R.2.2.2.1 f' hf'
    rw [h1]
    by_cases e : f' = f
    · subst e
      have hz : T 4 (3 * f' + 2) = zn := by
        rcases I.2.2.2.2.1.2.2 f' hf with a | ⟨a, -⟩
        · exact a
        · omega
      unfold vLeave
      by_cases hc : 1 < sCnt T f'
      · rw [if_pos hc, zu_ne (by omega), zu_ne (by omega), h4, if_neg (by omega), if_pos hc, h4, if_pos rfl]
        refine ⟨a1, fun q => ?_⟩
        rw [zi_inj (by omega) (by omega)] at q
        omega
      · rw [if_neg hc, zu_self, zu_ne (by omega), zu_self, h4, if_neg (by omega), if_neg hc, if_pos rfl, h4, if_pos rfl, h4, if_neg (by omega), if_neg hc, if_neg (by omega)]
        refine ⟨rfl, fun _ => ?_⟩
        obtain ⟨tm, u1, u2⟩ := I.2.2.2.2.2.1
        obtain ⟨fl, u3, u4⟩ := I.2.2.2.2.2.2.1
        rw [t0, u1, u3]
        by_cases hq : (sDirty T f' && !w) = true
        · rw [if_pos hq]
          have hq' := hq
          simp only [Bool.and_eq_true] at hq'
          by_cases hfl : 0 < fl
          · right
            have hz0 : zi 0 < zi fl := by rw [zi_lt (by omega) (by omega)]; exact hfl
            rw [if_pos ⟨rfl, hq'.2, hq'.1, hz0⟩, zi_add]
            refine ⟨rfl, ?_⟩
            rw [zi_lt (by omega) (by omega)]
            omega
          · left
            rw [if_neg (fun h => hfl (by have := h.2.2.2; rwa [zi_lt (by omega) (by omega)] at this)), zi_add]
            refine ⟨hz, ?_⟩
            rw [zi_lt (by omega) (by omega)]
            omega
        · left
          rw [if_neg hq, if_neg (fun h => hq (by rw [h.2.1, h.2.2.1]; rfl))]
          refine ⟨hz, ?_⟩
          rw [zi_lt (by omega) (by omega)]
          omega
    · rw [hv _ (by omega) (by omega) (by omega), hv _ (by omega) (by omega) (by omega)]
      have g : ∀ j, j < 3 → U 4 (3 * f' + j) = T 4 (3 * f' + j) := by
        intro j hj
        rw [h4, if_neg (by omega), if_neg (by omega : ¬ 3 * f' + j = 3 * f + 1), if_neg (by omega : ¬ (3 * f' + j = 3 * f + 2 ∧ _))]
        split <;> rfl
      have g0 := g 0 (by omega)
      rw [Nat.add_zero (3 * f')] at g0
      rw [g 1 (by omega), g 2 (by omega), g0]
      exact ⟨a1, a2⟩
  · intro q hq
    rw [hv _ (by omega) (by omega) (by omega), h5]
    exact R.2.2.2.2 q hq
end
