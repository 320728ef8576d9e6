/-! What a load fixed stays; the model touches a page. -/
def zIm (T U : ZD2) : Prop := U 0 = T 0 ∧ U 1 0 = T 1 0 ∧ ∀ p, p < 6 → U 2 (12 * p + 1) = T 2 (12 * p + 1) ∧ U 2 (12 * p + 2) = T 2 (12 * p + 2) ∧ U 2 (12 * p + 11) = T 2 (12 * p + 11)
theorem zIm_rfl {T : ZD2} : zIm T T := ⟨rfl, rfl, fun _ _ => ⟨rfl, rfl, rfl⟩⟩
theorem zIm_tr {T U V : ZD2} (h1 : zIm T U) (h2 : zIm U V) : zIm T V := ⟨h2.1.trans h1.1, h2.2.1.trans h1.2.1, fun p hp => ⟨(h2.2.2 p hp).1.trans (h1.2.2 p hp).1, (h2.2.2 p hp).2.1.trans (h1.2.2 p hp).2.1, (h2.2.2 p hp).2.2.trans (h1.2.2 p hp).2.2⟩⟩
theorem zIm_w {T U : ZD2} {t j : Nat} {v : Int32} (h : zIm T U) (h0 : t ≠ 0) (h1 : t = 1 → j ≠ 0) (h2 : t = 2 → j % 12 ≠ 1 ∧ j % 12 ≠ 2 ∧ j % 12 ≠ 11) : zIm T (zw U t j v) := by
  refine zIm_tr h ⟨zw_row (fun e => h0 e.symm), zw_ne (by omega), fun p hp => ⟨zw_ne ?_, zw_ne ?_, zw_ne ?_⟩⟩
  · rintro ⟨e1, e2⟩
    have := h2 e1.symm
    omega
  · rintro ⟨e1, e2⟩
    have := h2 e1.symm
    omega
  · rintro ⟨e1, e2⟩
    have := h2 e1.symm
    omega
theorem zIm_leave {T U : ZD2} {r f : Nat} {w : Bool} (h : zIm T U) : zIm T (uLeave U r f w) := by
  refine zIm_tr h ⟨uLeave_o (by omega) (by omega), by rw [uLeave_o (by omega) (by omega)], fun p hp => ?_⟩
  rw [uLeave_o (by omega) (by omega)]
  exact ⟨rfl, rfl, rfl⟩
theorem zIm_enter {T U : ZD2} {r f : Nat} (h : zIm T U) : zIm T (uEnter U r f) := zIm_w (zIm_w h (by omega) (by omega) (by omega)) (by omega) (by omega) (by omega)
theorem zIm_tot {T U : ZD2} {c : Nat} (h : zIm T U) (hc : c ≠ 0) : zIm T (uTot U c) := zIm_w h (by omega) (by omega) (by omega)
theorem zIm_use {T U : ZD2} {r f : Nat} {w : Bool} (h : zIm T U) : zIm T (uUse U r f w) := by
  have h2 : zIm T (uUsed U r) := zIm_w (zIm_w h (by omega) (by omega) (by omega)) (by omega) (by omega) (by omega)
  unfold uUse
  split
  · exact zIm_w h2 (by omega) (by omega) (by omega)
  · exact h2
theorem zIm_forget {T U : ZD2} {r : Nat} (h : zIm T U) : zIm T (uForget U r) := zIm_w (zIm_w h (by omega) (by omega) (by omega)) (by omega) (by omega) (by omega)
theorem zIm_p {T U : ZD2} {p c : Nat} {v : Int32} (h : zIm T U) (hc : c < 12) (h2 : c ≠ 1 ∧ c ≠ 2 ∧ c ≠ 11) : zIm T (zw U 2 (12 * p + c) v) := zIm_w h (by omega) (by omega) (fun _ => by omega)
theorem zIm_judge {T U : ZD2} {p r : Nat} (h : zIm T U) : zIm T (rJudge U p r).2 := by
  have h1 := zIm_forget (r := r) h
  unfold rJudge
  split
  · have h2 : zIm T (uBack (uForget U r) p (U 3 (5 * r + 4))) := zIm_tot (zIm_p h1 (by omega) (by omega)) (by omega)
    split
    · exact zIm_tot (zIm_p (zIm_p h2 (by omega) (by omega)) (by omega) (by omega)) (by omega)
    · exact h2
  · exact zIm_p h1 (by omega) (by omega)
theorem zRs_im {D T U : ZD2} (S : zRs D T) (h : zIm T U) (h6 : sNp T ≤ 6) : zRs D U := by
  obtain ⟨s1, s2, s3⟩ := S
  have np : sNp U = sNp T := zRd_np h.2.1
  refine ⟨by rw [h.1, h.2.1]; exact s1, fun p hp => ?_, fun p hp => ?_⟩
  · rw [(h.2.2 p (by omega)).1]; exact s2 p (by omega)
  · rw [(h.2.2 p (by omega)).2.1]; exact s3 p (by omega)
/-- the touches counted -/
def zTq (T U : ZD2) : Prop := U 1 6 = T 1 6 ∨ U 1 6 = T 1 6 + zi 1
theorem zJudge_6 {T : ZD2} {p r : Nat} : (rJudge T p r).2 1 6 = T 1 6 := by
  unfold rJudge
  split
  · split <;> simp (disch := first | assumption | omega) only [uLied, uBack, uTot, uTrust, uForget, zw_ne]
  · simp (disch := first | assumption | omega) only [uTrust, uForget, zw_ne]
theorem zIv_judge {T : ZD2} {p r : Nat} (I : zIv T) (hp : p < 6) (hr : r < 72) : zIv (rJudge T p r).2 := by
  have h1 := zIv_forget I hr
  unfold rJudge
  split
  · have h2 : zIv (uBack (uForget T r) p (T 3 (5 * r + 4))) := zIv_tot (zIv_w2 h1 hp (by omega) (by omega)) (by omega) (by omega) (by omega)
    split
    · exact zIv_tot (zIv_w2 (zIv_uTrust h2 hp) hp (by omega) (by omega)) (by omega) (by omega) (by omega)
    · exact h2
  · exact zIv_uTrust h1 hp
section
variable {X : ZX} {D T : ZD2} {s : Nat → Int32} {O : ZO2} {k : Nat × Nat × Nat}
def vUse (s : Nat → Int32) (r f : Nat) (w : Bool) : Nat → Int32 := if w then zu (zu (zu s (46 + 5 * r + 1) (s 0)) (406 + 2 * f + 1) (zi 1)) 1 (s 1 + zi 1) else zu (zu s (46 + 5 * r + 1) (s 0)) 1 (s 1 + zi 1)
theorem zRd_use {r f : Nat} {w : Bool} (R : zRd s T) (hr : r < 72) (hf : f < 64) (h6 : sNp T ≤ 6) : zRd (vUse s r f w) (uUse T r f w) := by
  have e0 := R.1.1.1
  have R1 := zRd_used (r := r) (v := s 0) R hr h6
  have n1 : ∀ v, sNp (zw T 3 (5 * r + 1) v) = sNp T := fun v => zRd_np (by rw [zw_row (by omega)])
  unfold vUse uUse uUsed
  rw [e0] at R1 ⊢
  cases w
  · have R2 := zRd_tot (i := 1) R1 (by omega) (by omega)
    unfold uTot at R2
    rw [zu_ne (by omega)] at R2
    simp (disch := first | assumption | omega) only [zw_ne, Nat.reduceAdd] at R2
    exact R2
  · have R2 := zRd_dirty (f := f) (v := zi 1) R1 hf (by rw [n1]; exact h6)
    have R3 := zRd_tot (i := 1) R2 (by omega) (by omega)
    unfold uTot at R3
    rw [zu_ne (by omega), zu_ne (by omega)] at R3
    simp (disch := first | assumption | omega) only [zw_ne, Nat.reduceAdd] at R3
    rw [zw_comm (by omega)] at R3
    exact R3
theorem m250t {f p g : Nat} {w : Bool} {c : Int32} {v : Value} (hp : p < 6) (hg : g < 12) (hf : f < 64) (ha : s (46 + 5 * (12 * p + g)) = zi f) : zev X 250 61 [.ref 168, .int (zi p), .int (zi g), .int (zb w), .int c, v] [] (zHP (zrow D 172 s) O, k) = some (.inl (some (.int c)), (zHP (zrow D 172 (vUse s (12 * p + g) f w)) O, k)) := by
  have h540 : ¬ 540 ≤ 0 := by omega
  have h1 : ¬ 540 ≤ 1 := by omega
  have fin : ∀ (s' : Nat → Int32), zev X 250 91 [.ref 168, .int (zi p), .int (zi g), .int (zb w), .int c, v] [] (zHP (zrow D 172 s') O, k) = some (.inl (some (.int c)), (zHP (zrow D 172 (zu s' 1 (s' 1 + zi 1))) O, k)) := by
    intro s'
    refine b250_91.trans ?_
    simp (disch := first | assumption | omega) only [↓zn_l, zl_0, zl_1, zl_2, zl_3, zl_4, zl_5, zl_6, zl_7, zl_8, zl_9, zl_10, zl_11, zl_12, zl_13, zl_14, zl_15, zl_16, zl_17, zl_18, zl_19, zl_20, zl_21, zl_22, zl_23, zl_24, zl_25, zl_26, zl_27, zl_28, zl_29, zl_30, zl_31, zl_32, zl_36, zl_46, zl_48, zl_50, zl_57, zl_63, zl_64, zl_72, zl_97, zl_99, zl_100, zl_101, zl_122, zl_127, zl_200, zl_255, zl_406, zl_534, zl_540, zl_600, zl_9999, zl_33, zl_34, zl_35, zl_37, zl_38, zl_39, zl_40, zl_41, zl_42, zl_43, zl_44, zl_45, zl_47, zl_49, zl_52, zl_53, zl_54, zl_55, zl_58, zl_59, zl_60, zl_61, zl_62, zl_65, zl_70, zl_71, zl_98, zl_102, zl_103, zl_104, zl_105, zl_110, zl_111, zl_115, zl_120, zl_123, zl_126, zl_128, zl_256, zl_1000, zl_1024, zcon_inl, zcon_inr, Option.toList_some, Option.toList_none, List.cons_append, List.nil_append, List.append_nil, Nat.add_zero, zbind_some, zi_toNat, zi_lt, zi_inj, zi_add, zi_mul, zi_ne_zn, zn_ne_zi, zn_lt_zi, zi_lt_zn, Nat.not_lt_zero, false_or, if_true, if_false, true_or, or_false, h1, zrow_self, zw_s]
  refine b250_61.trans ?_
  simp (disch := first | assumption | omega) only [↓zn_l, zl_0, zl_1, zl_2, zl_3, zl_4, zl_5, zl_6, zl_7, zl_8, zl_9, zl_10, zl_11, zl_12, zl_13, zl_14, zl_15, zl_16, zl_17, zl_18, zl_19, zl_20, zl_21, zl_22, zl_23, zl_24, zl_25, zl_26, zl_27, zl_28, zl_29, zl_30, zl_31, zl_32, zl_36, zl_46, zl_48, zl_50, zl_57, zl_63, zl_64, zl_72, zl_97, zl_99, zl_100, zl_101, zl_122, zl_127, zl_200, zl_255, zl_406, zl_534, zl_540, zl_600, zl_9999, zl_33, zl_34, zl_35, zl_37, zl_38, zl_39, zl_40, zl_41, zl_42, zl_43, zl_44, zl_45, zl_47, zl_49, zl_52, zl_53, zl_54, zl_55, zl_58, zl_59, zl_60, zl_61, zl_62, zl_65, zl_70, zl_71, zl_98, zl_102, zl_103, zl_104, zl_105, zl_110, zl_111, zl_115, zl_120, zl_123, zl_126, zl_128, zl_256, zl_1000, zl_1024, zcon_inl, zcon_inr, Option.toList_some, Option.toList_none, List.cons_append, List.nil_append, List.append_nil, Nat.add_zero, zbind_some, zi_toNat, zi_lt, zi_inj, zi_add, zi_mul, zi_ne_zn, zn_ne_zi, zn_lt_zi, zi_lt_zn, Nat.not_lt_zero, false_or, if_true, if_false, true_or, or_false, h540, zrow_self, m254]
  refine b250_74.trans ?_
  unfold vUse
  cases w
  · simp (disch := first | assumption | omega) only [↓zn_l, zl_0, zl_1, zl_2, zl_3, zl_4, zl_5, zl_6, zl_7, zl_8, zl_9, zl_10, zl_11, zl_12, zl_13, zl_14, zl_15, zl_16, zl_17, zl_18, zl_19, zl_20, zl_21, zl_22, zl_23, zl_24, zl_25, zl_26, zl_27, zl_28, zl_29, zl_30, zl_31, zl_32, zl_36, zl_46, zl_48, zl_50, zl_57, zl_63, zl_64, zl_72, zl_97, zl_99, zl_100, zl_101, zl_122, zl_127, zl_200, zl_255, zl_406, zl_534, zl_540, zl_600, zl_9999, zl_33, zl_34, zl_35, zl_37, zl_38, zl_39, zl_40, zl_41, zl_42, zl_43, zl_44, zl_45, zl_47, zl_49, zl_52, zl_53, zl_54, zl_55, zl_58, zl_59, zl_60, zl_61, zl_62, zl_65, zl_70, zl_71, zl_98, zl_102, zl_103, zl_104, zl_105, zl_110, zl_111, zl_115, zl_120, zl_123, zl_126, zl_128, zl_256, zl_1000, zl_1024, zb_0, if_true]
    have := fin (zu s (46 + 5 * (12 * p + g) + 1) (s 0))
    rw [zu_ne (by omega)] at this
    exact this
  · have e208 := @m208 X D (zu s (46 + 5 * (12 * p + g) + 1) (s 0)) O k p g 0 hp hg (by omega)
    rw [Nat.add_zero (46 + 5 * (12 * p + g)), zu_ne (by omega), ha] at e208
    simp (disch := first | assumption | omega) only [↓zn_l, zl_0, zl_1, zl_2, zl_3, zl_4, zl_5, zl_6, zl_7, zl_8, zl_9, zl_10, zl_11, zl_12, zl_13, zl_14, zl_15, zl_16, zl_17, zl_18, zl_19, zl_20, zl_21, zl_22, zl_23, zl_24, zl_25, zl_26, zl_27, zl_28, zl_29, zl_30, zl_31, zl_32, zl_36, zl_46, zl_48, zl_50, zl_57, zl_63, zl_64, zl_72, zl_97, zl_99, zl_100, zl_101, zl_122, zl_127, zl_200, zl_255, zl_406, zl_534, zl_540, zl_600, zl_9999, zl_33, zl_34, zl_35, zl_37, zl_38, zl_39, zl_40, zl_41, zl_42, zl_43, zl_44, zl_45, zl_47, zl_49, zl_52, zl_53, zl_54, zl_55, zl_58, zl_59, zl_60, zl_61, zl_62, zl_65, zl_70, zl_71, zl_98, zl_102, zl_103, zl_104, zl_105, zl_110, zl_111, zl_115, zl_120, zl_123, zl_126, zl_128, zl_256, zl_1000, zl_1024, zcon_inl, zcon_inr, Option.toList_some, Option.toList_none, List.cons_append, List.nil_append, List.append_nil, Nat.add_zero, zbind_some, zb_0, Bool.true_eq_false, if_false, e208]
    refine b250_86.trans ?_
    simp (disch := first | assumption | omega) only [↓zn_l, zl_0, zl_1, zl_2, zl_3, zl_4, zl_5, zl_6, zl_7, zl_8, zl_9, zl_10, zl_11, zl_12, zl_13, zl_14, zl_15, zl_16, zl_17, zl_18, zl_19, zl_20, zl_21, zl_22, zl_23, zl_24, zl_25, zl_26, zl_27, zl_28, zl_29, zl_30, zl_31, zl_32, zl_36, zl_46, zl_48, zl_50, zl_57, zl_63, zl_64, zl_72, zl_97, zl_99, zl_100, zl_101, zl_122, zl_127, zl_200, zl_255, zl_406, zl_534, zl_540, zl_600, zl_9999, zl_33, zl_34, zl_35, zl_37, zl_38, zl_39, zl_40, zl_41, zl_42, zl_43, zl_44, zl_45, zl_47, zl_49, zl_52, zl_53, zl_54, zl_55, zl_58, zl_59, zl_60, zl_61, zl_62, zl_65, zl_70, zl_71, zl_98, zl_102, zl_103, zl_104, zl_105, zl_110, zl_111, zl_115, zl_120, zl_123, zl_126, zl_128, zl_256, zl_1000, zl_1024, zcon_inl, zcon_inr, Option.toList_some, Option.toList_none, List.cons_append, List.nil_append, List.append_nil, Nat.add_zero, zbind_some, m255]
    have := fin (zu (zu s (46 + 5 * (12 * p + g) + 1) (s 0)) (406 + 2 * f + 1) (zi 1))
    rw [zu_ne (by omega), zu_ne (by omega)] at this
    exact this
/-- the model's copying -/
def vCopied (s : Nat → Int32) (r f c : Nat) (d : Bool) (fl : Int32) (f' : Nat) : Nat → Int32 :=
  vUse (zu (zu (zu (vLeave s r f c d false fl) (46 + 5 * r) (zi f')) (46 + 5 * r + 1) (s 0)) 4 (s 4 + zi 1)) r f' true
theorem zRd_copied {r f f' : Nat} (I : zIv T) (R : zRd s T) (hr : r < 72) (hf : f < 64) (hf' : f' < 64) (ha : T 3 (5 * r) = zi f) : zRd (vCopied s r f (sCnt T f) (sDirty T f) (T 0 2) f') (uCopied T r f f') := by
  have h6 := zIv_np6 I
  have R1 := zRd_leave (w := false) I R hr hf ha
  have I1 : zIv (uLeave T r f true) := zIv_leave I hr hf ha
  have R2 := zRd_enter I1 R1 hr hf'
  have eL : uLeave T r f true 1 = T 1 := uLeave_o (by omega) (by omega)
  have n2 : sNp (uEnter (uLeave T r f true) r f') = sNp T := zRd_np (by unfold uEnter; rw [zw_row (by omega), zw_row (by omega), eL])
  have R3 := zRd_used (r := r) (v := s 0) R2 hr (by omega)
  have R4 := zRd_tot (i := 4) R3 (by omega) (by omega)
  have e4 : vLeave s r f (sCnt T f) (sDirty T f) false (T 0 2) 4 = s 4 := by
    have n3 := zIv_nf64 I
    unfold vLeave
    split
    · rw [zu_ne (by omega)]
    · rw [zu_ne (by omega), zu_ne (by omega), zu_ne (by omega)]
  rw [zu_ne (by omega), zu_ne (by omega), e4] at R4
  have n4 : sNp (uTot (zw (uEnter (uLeave T r f true) r f') 3 (5 * r + 1) (s 0)) (4 + 5)) = sNp T := (zRd_np (by unfold uTot; rw [zw_ne (by omega), zw_row (by omega)])).trans n2
  have R5 := zRd_use (r := r) (f := f') (w := true) R4 hr hf' (by omega)
  have e0 := R.1.1.1
  unfold vCopied
  have eT : uUse (uTot (zw (uEnter (uLeave T r f true) r f') 3 (5 * r + 1) (s 0)) (4 + 5)) r f' true = uCopied T r f f' := by
    unfold uCopied
    have h15 : uEnter (uLeave T r f true) r f' 1 5 = s 0 := by unfold uEnter; rw [zw_row (by omega), zw_row (by omega), eL, e0]
    generalize uEnter (uLeave T r f true) r f' = B at *
    unfold uUse uUsed uTot
    simp (disch := first | assumption | omega) only [zw_ne, if_true, h15, Nat.reduceAdd]
    funext a i
    unfold zw
    (repeat' split) <;> first | rfl | (exfalso; omega)
  rw [eT] at R5
  exact R5
theorem m250 {p g : Nat} {w : Bool} (I : zIv T) (S : zRs D T) (R : zRd s T) (hp : p < sNp T) (hg : g < 12) (hi : sIn T (12 * p + g) = true) : ∃ s', zev X 250 0 [.ref 168, .int (zi p), .int (zi g), .int (zb w), zJ, zJ] [] (zHP (zrow D 172 s) O, k) = some (.inl (some (.int (rTouch T p g w).1)), (zHP (zrow D 172 s') O, k)) ∧ zRd s' (rTouch T p g w).2 := by
  have n2 := zIv_np6 I
  have n4 := zIv_nf64 I
  have hp6 : p < 6 := by omega
  have hr : 12 * p + g < 72 := by omega
  have hz := zIv_at I _ hr
  obtain ⟨f1, f2⟩ := sFr_of hz hi
  have ea := (R.2.2.1 (12 * p + g) hr).1
  unfold rTouch
  rw [hi, if_pos rfl]
  have plain : ∀ w : Bool, ∃ s', zev X 250 61 [.ref 168, .int (zi p), .int (zi g), .int (zb w), .int (zi 0), zJ] [] (zHP (zrow D 172 s) O, k) = some (.inl (some (.int (zi 0))), (zHP (zrow D 172 s') O, k)) ∧ zRd s' (uUse T (12 * p + g) (sFr T (12 * p + g)) w) := fun w => ⟨_, m250t hp6 hg f1 (ea.trans f2), zRd_use R hr f1 n2⟩
  rw [b250_0, zl_0]
  cases w
  · rw [if_pos zb_f]
    exact plain false
  · have e215 := m215 (X := X) (O := O) (k := k) I S R hp6 hg
    rw [if_neg zbt0, e215, zcon_inl]
    simp only [Option.toList_some, List.cons_append, List.nil_append, Bool.true_and]
    rw [b250_13, zl_0]
    cases hs : sSh T (12 * p + g)
    · rw [if_pos zb_f]
      exact plain true
    · have e251 := m251 (X := X) (O := O) (k := k) I S R
      rw [if_neg zbt0, e251, zcon_inl, if_pos rfl]
      simp only [Option.toList_some, List.cons_append, List.nil_append]
      rw [b250_20, zn_l]
      unfold rCopy
      cases hfr : sFree T with
      | none =>
        refine ⟨zu s 3 (s 3 + zi 1), ?_, zRd_tot (i := 3) R (by omega) (by omega)⟩
        rw [show zo none = zn from rfl, if_pos rfl, m252, zcon_inl]
        exact b250_32
      | some f' =>
        have hf' := (sFree_lt hfr).1
        have e253 := m253 (X := X) (O := O) (k := k) (w := false) I S R hp hg f1 f2
        rw [zb_f] at e253
        refine ⟨_, ?_, zRd_copied I R hr f1 (by omega) f2⟩
        rw [show zo (some f') = zi f' from rfl, if_neg (by rw [zi_ne_zn (by omega)]; simp), zl_0, e253, zcon_inl]
        have R1 := zRd_leave (w := false) I R hr f1 f2
        generalize hs1 : vLeave s (12 * p + g) (sFr T (12 * p + g)) (sCnt T (sFr T (12 * p + g))) (sDirty T (sFr T (12 * p + g))) false (T 0 2) = s1 at *
        have e0 : s1 0 = s 0 := by
          rw [R1.1.1.1, uLeave_o (by omega) (by omega), R.1.1.1]
        have e4 : s1 4 = s 4 := by
          rw [R1.1.1.2.2.2.2, uLeave_o (by omega) (by omega), R.1.1.2.2.2.2]
        simp only [Option.toList_none, List.nil_append]
        refine b250_40.trans ?_
        simp (disch := first | assumption | omega) only [m256, ↓zn_l, zl_0, zl_1, zl_2, zl_3, zl_4, zl_5, zl_6, zl_7, zl_8, zl_9, zl_10, zl_11, zl_12, zl_13, zl_14, zl_15, zl_16, zl_17, zl_18, zl_19, zl_20, zl_21, zl_22, zl_23, zl_24, zl_25, zl_26, zl_27, zl_28, zl_29, zl_30, zl_31, zl_32, zl_36, zl_46, zl_48, zl_50, zl_57, zl_63, zl_64, zl_72, zl_97, zl_99, zl_100, zl_101, zl_122, zl_127, zl_200, zl_255, zl_406, zl_534, zl_540, zl_600, zl_9999, zl_33, zl_34, zl_35, zl_37, zl_38, zl_39, zl_40, zl_41, zl_42, zl_43, zl_44, zl_45, zl_47, zl_49, zl_52, zl_53, zl_54, zl_55, zl_58, zl_59, zl_60, zl_61, zl_62, zl_65, zl_70, zl_71, zl_98, zl_102, zl_103, zl_104, zl_105, zl_110, zl_111, zl_115, zl_120, zl_123, zl_126, zl_128, zl_256, zl_1000, zl_1024, zcon_inl, zcon_inr, Option.toList_some, Option.toList_none, List.cons_append, List.nil_append, List.append_nil, Nat.add_zero, zbind_some]
        refine b250_48.trans ?_
        have h4 : ¬ 540 ≤ 4 := by omega
        simp (disch := first | assumption | omega) only [↓zn_l, zl_0, zl_1, zl_2, zl_3, zl_4, zl_5, zl_6, zl_7, zl_8, zl_9, zl_10, zl_11, zl_12, zl_13, zl_14, zl_15, zl_16, zl_17, zl_18, zl_19, zl_20, zl_21, zl_22, zl_23, zl_24, zl_25, zl_26, zl_27, zl_28, zl_29, zl_30, zl_31, zl_32, zl_36, zl_46, zl_48, zl_50, zl_57, zl_63, zl_64, zl_72, zl_97, zl_99, zl_100, zl_101, zl_122, zl_127, zl_200, zl_255, zl_406, zl_534, zl_540, zl_600, zl_9999, zl_33, zl_34, zl_35, zl_37, zl_38, zl_39, zl_40, zl_41, zl_42, zl_43, zl_44, zl_45, zl_47, zl_49, zl_52, zl_53, zl_54, zl_55, zl_58, zl_59, zl_60, zl_61, zl_62, zl_65, zl_70, zl_71, zl_98, zl_102, zl_103, zl_104, zl_105, zl_110, zl_111, zl_115, zl_120, zl_123, zl_126, zl_128, zl_256, zl_1000, zl_1024, zcon_inl, zcon_inr, Option.toList_some, Option.toList_none, List.cons_append, List.nil_append, List.append_nil, Nat.add_zero, zbind_some, zi_toNat, zi_lt, zi_inj, zi_add, zi_mul, zi_ne_zn, zn_ne_zi, zn_lt_zi, zi_lt_zn, Nat.not_lt_zero, false_or, if_true, if_false, true_or, or_false, h4, zrow_self, zw_s, zu_ne, e0, e4]
        unfold vCopied
        rw [hs1]
        exact m250t hp6 hg (by omega) (by rw [zu_ne (by omega), zu_ne (by omega), zu_self])
/-- the model's coming back -/
def vFetched (s : Nat → Int32) (r f : Nat) (w : Bool) : Nat → Int32 :=
  zu (zu (zu (zu (zu s (46 + 5 * r) (zi f)) (46 + 5 * r + 1) (s 0)) (406 + 2 * f + 1) (zb w)) 1 (s 1 + zi 1)) 9 (s 9 + zi 1)
theorem zRd_fetched {r f : Nat} {w : Bool} (I : zIv T) (R : zRd s T) (hr : r < 72) (hf : f < 64) (hd : T 4 (3 * f + 1) = zi 0) : zRd (vFetched s r f w) (uFetch T r f w) := by
  have h6 := zIv_np6 I
  have R2 := zRd_enter I R hr hf
  have n2 : sNp (uEnter T r f) = sNp T := zRd_np (by unfold uEnter; rw [zw_row (by omega), zw_row (by omega)])
  have R3 := zRd_used (r := r) (v := s 0) R2 hr (by omega)
  have n3 : sNp (zw (uEnter T r f) 3 (5 * r + 1) (s 0)) = sNp T := (zRd_np (by rw [zw_row (by omega)])).trans n2
  have R4 := zRd_dirty (f := f) (v := zb w) R3 hf (by omega)
  have R5 := zRd_tot (i := 1) R4 (by omega) (by omega)
  have R6 := zRd_tot (i := 9) R5 (by omega) (by omega)
  rw [zu_ne (by omega), zu_ne (by omega), zu_ne (by omega), zu_ne (by omega), zu_ne (by omega), zu_ne (by omega), zu_ne (by omega)] at R6
  have e0 := R.1.1.1
  unfold vFetched
  have eT : uTot (uTot (zw (zw (uEnter T r f) 3 (5 * r + 1) (s 0)) 4 (3 * f + 1) (zb w)) (1 + 5)) (9 + 5) = uFetch T r f w := by
    unfold uFetch uUse uUsed uEnter uTot
    cases w
    · have hs : zw (zw (zw (zw T 3 (5 * r) (zi f)) 4 (3 * f) (T 4 (3 * f) + zi 1)) 3 (5 * r + 1) (s 0)) 4 (3 * f + 1) (zi 0) = zw (zw (zw T 3 (5 * r) (zi f)) 4 (3 * f) (T 4 (3 * f) + zi 1)) 3 (5 * r + 1) (s 0) := zw_same (by rw [zw_ne (by omega), zw_ne (by omega), zw_ne (by omega), hd])
      rw [zb_f]
      simp (disch := first | assumption | omega) only [zw_ne, if_false, Bool.false_eq_true, Nat.reduceAdd, e0] at hs ⊢
      rw [hs]
      funext a i
      unfold zw
      (repeat' split) <;> first | rfl | (exfalso; omega)
    · rw [zb_t]
      simp (disch := first | assumption | omega) only [zw_ne, if_true, Nat.reduceAdd, e0]
      funext a i
      unfold zw
      (repeat' split) <;> first | rfl | (exfalso; omega)
  rw [eT] at R6
  exact R6
theorem zIv_fetch {r f : Nat} {w : Bool} (I : zIv T) (hr : r < 72) (hf : f < sNf T) (ha : T 3 (5 * r) = zn) (hv : r / 12 < sNp T ∧ r - r / 12 * 12 < sPgs T (r / 12)) (hu : T 4 (3 * f + 2) = zn) : zIv (uFetch T r f w) := by
  have n4 := zIv_nf64 I
  have I1 : zIv (uTot T 14) := zIv_tot I (by omega) (by omega) (by omega)
  have np : sNp (uTot T 14) = sNp T := zRd_np (by unfold uTot; rw [zw_ne (by omega)])
  have nf : sNf (uTot T 14) = sNf T := by unfold sNf uTot; rw [zw_row (by omega)]
  have pg : ∀ p, sPgs (uTot T 14) p = sPgs T p := fun p => by unfold sPgs uTot; rw [zw_row (by omega)]
  have e3 : uTot T 14 3 = T 3 := by unfold uTot; rw [zw_row (by omega)]
  have e4 : uTot T 14 4 = T 4 := by unfold uTot; rw [zw_row (by omega)]
  have I2 : zIv (uEnter (uTot T 14) r f) := zIv_enter I1 hr (by omega) (by rw [e3]; exact ha) (by rw [np, pg]; exact hv) (by rw [e4]; exact hu)
  have hc := (sCnt_in (T := uTot T 14) (U := uEnter (uTot T 14) r f) (r := r) (f := f) hr (by omega) (by rw [e3]; exact ha) (uEnter_at _ _ _) (fun q hq => by unfold uEnter; rw [zw_row (by omega), zw_ne (by omega)])).1
  exact zIv_use I2 hr (by omega) (by omega)
theorem zFree_cells {f : Nat} (I : zIv T) (h : sFree T = some f) : f < sNf T ∧ T 4 (3 * f + 1) = zi 0 ∧ T 4 (3 * f + 2) = zn ∧ sCnt T f = 0 := by
  obtain ⟨h1, h2⟩ := sFree_lt h
  have n4 := zIv_nf64 I
  have hc := I.2.2.2.2.1.1 f (by omega)
  have hle := sCnt_le T f
  unfold sState at h2
  split at h2
  · rw [zi_inj (by omega) (by omega)] at h2
    omega
  · rename_i h3
    rw [hc, zi_lt (by omega) (by omega)] at h3
    split at h2
    · rename_i h4
      refine ⟨h1, ?_, h4, by omega⟩
      rcases I.2.2.2.2.1.2.1 f (by omega) with a | ⟨-, b⟩
      · exact a
      · omega
    · rw [zi_inj (by omega) (by omega)] at h2
      omega
theorem m257 {p g : Nat} {w : Bool} (I : zIv T) (S : zRs D T) (R : zRd s T) (hp : p < sNp T) (hg : g < sPgs T p) (hi : sIn T (12 * p + g) = false) : ∃ s', zev X 257 0 [.ref 168, .int (zi p), .int (zi g), .int (zb w), zJ] [] (zHP (zrow D 172 s) O, k) = some (.inl (some (.int (rFetch T p (12 * p + g) w).1)), (zHP (zrow D 172 s') O, k)) ∧ zRd s' (rFetch T p (12 * p + g) w).2 ∧ zIv (rFetch T p (12 * p + g) w).2 ∧ zIm T (rFetch T p (12 * p + g) w).2 := by
  have n2 := zIv_np6 I
  have n4 := zIv_nf64 I
  have hp6 : p < 6 := by omega
  have hg12 : g < 12 := by have := (zIv_pg I hp6).2; omega
  have hr : 12 * p + g < 72 := by omega
  have ha : T 3 (5 * (12 * p + g)) = zn := by
    unfold sIn at hi
    simpa using hi
  have Rf : zRd (zu (zu s 2 (s 2 + zi 1)) (10 + 6 * p + 3) (s (10 + 6 * p + 3) + zi 1)) (uFault T p) := by
    have R1 := zRd_tot (i := 2) R (by omega) (by omega)
    have n1 : sNp (uTot T (2 + 5)) = sNp T := zRd_np (by unfold uTot; rw [zw_ne (by omega)])
    have R2 := zRd_faults (p := p) (v := s (10 + 6 * p + 3) + zi 1) R1 hp6 (by omega)
    have e := (R.2.1 p hp).2.2.2.1
    unfold uFault
    rw [e] at R2 ⊢
    exact R2
  have If : zIv (uFault T p) := zIv_w2 (zIv_tot I (by omega) (by omega) (by omega)) hp6 (by omega) (by omega)
  have Mf : zIm T (uFault T p) := zIm_p (zIm_tot zIm_rfl (by omega)) (by omega) (by omega)
  have Sf : zRs D (uFault T p) := zRs_im S Mf n2
  have e3 : uFault T p 3 = T 3 := by unfold uFault uTot; rw [zw_row (by omega), zw_row (by omega)]
  have h2 : ¬ 540 ≤ 2 := by omega
  have h1 : ¬ 540 ≤ 1 := by omega
  have h9 : ¬ 540 ≤ 9 := by omega
  simp (disch := first | assumption | omega) only [b257_0, ↓zn_l, zl_0, zl_1, zl_2, zl_3, zl_4, zl_5, zl_6, zl_7, zl_8, zl_9, zl_10, zl_11, zl_12, zl_13, zl_14, zl_15, zl_16, zl_17, zl_18, zl_19, zl_20, zl_21, zl_22, zl_23, zl_24, zl_25, zl_26, zl_27, zl_28, zl_29, zl_30, zl_31, zl_32, zl_36, zl_46, zl_48, zl_50, zl_57, zl_63, zl_64, zl_72, zl_97, zl_99, zl_100, zl_101, zl_122, zl_127, zl_200, zl_255, zl_406, zl_534, zl_540, zl_600, zl_9999, zl_33, zl_34, zl_35, zl_37, zl_38, zl_39, zl_40, zl_41, zl_42, zl_43, zl_44, zl_45, zl_47, zl_49, zl_52, zl_53, zl_54, zl_55, zl_58, zl_59, zl_60, zl_61, zl_62, zl_65, zl_70, zl_71, zl_98, zl_102, zl_103, zl_104, zl_105, zl_110, zl_111, zl_115, zl_120, zl_123, zl_126, zl_128, zl_256, zl_1000, zl_1024, zcon_inl, zcon_inr, Option.toList_some, Option.toList_none, List.cons_append, List.nil_append, List.append_nil, Nat.add_zero, zbind_some, zi_toNat, zi_lt, zi_inj, zi_add, zi_mul, zi_ne_zn, zn_ne_zi, zn_lt_zi, zi_lt_zn, Nat.not_lt_zero, false_or, if_true, if_false, true_or, or_false, h2, zrow_self, zw_s, m258, zu_ne]
  generalize hsf : zu (zu s 2 (s 2 + zi 1)) (10 + 6 * p + 3) (s (10 + 6 * p + 3) + zi 1) = sf at *
  have e251 := m251 (X := X) (O := O) (k := k) If Sf Rf
  rw [b257_17, e251, sFree_fault, zcon_inl]
  simp only [Option.toList_some, List.cons_append, List.nil_append]
  rw [b257_21, zn_l]
  unfold rFetch
  cases hfr : sFree T with
  | none =>
    refine ⟨_, ?_, zRd_tot (i := 3) Rf (by omega) (by omega), zIv_tot If (by omega) (by omega) (by omega), zIm_tot Mf (by omega)⟩
    rw [show zo none = zn from rfl, if_pos rfl, m252, zcon_inl]
    exact b257_33
  | some f =>
    obtain ⟨hf, d1, d2, -⟩ := zFree_cells If ((sFree_fault T p).trans hfr)
    have nff : sNf (uFault T p) = sNf T := by unfold sNf uFault uTot; rw [zw_row (by omega), zw_row (by omega)]
    have hf64 : f < 64 := by omega
    have Rg := zRd_fetched (w := w) If Rf hr hf64 d1
    have npf : sNp (uFault T p) = sNp T := zRd_np Mf.2.1
    have pgf : ∀ q, q < 6 → sPgs (uFault T p) q = sPgs T q := fun q hq => by unfold sPgs; rw [(Mf.2.2 q hq).1]
    have Ig : zIv (uFetch (uFault T p) (12 * p + g) f w) := zIv_fetch If hr hf (by rw [e3]; exact ha) (by rw [npf, zrow12 hg12, pgf p hp6]; exact ⟨hp, by omega⟩) d2
    have Mg : zIm T (uFetch (uFault T p) (12 * p + g) f w) := zIm_use (zIm_enter (zIm_tot Mf (by omega)))
    have Sg : zRs D (uFetch (uFault T p) (12 * p + g) f w) := zRs_im S Mg n2
    have esold : uFetch (uFault T p) (12 * p + g) f w 3 (5 * (12 * p + g) + 3) = T 3 (5 * (12 * p + g) + 3) := by
      cases w <;> simp (disch := first | assumption | omega) [uFetch, uUse, uUsed, uEnter, uTot, uFault, zw_ne]
    rw [show zo (some f) = zi f from rfl, if_neg (by rw [zi_ne_zn (by omega)]; simp), m256 hp6 hg12, zcon_inl]
    simp only [Option.toList_none, List.nil_append]
    have e204 := @m204 X (zrow D 172 (zu (zu sf (46 + 5 * (12 * p + g)) (zi f)) (46 + 5 * (12 * p + g) + 1) (sf 0))) O k w
    rw [b257_42, e204, zcon_inl]
    simp only [Option.toList_some, List.cons_append, List.nil_append]
    refine Exists.imp (fun s' h => ⟨?_, h.2⟩) (p := fun s' => zev X 257 81 [.ref 168, .int (zi p), .int (zi g), .int (zb w), .int (zi f)] [.int (T 3 (5 * (12 * p + g) + 3))] (zHP (zrow D 172 (vFetched sf (12 * p + g) f w)) O, k) = some (.inl (some (.int (match some f with | none => (zi 5, uTot (uFault T p) 8) | some f => if sSold T (12 * p + g) = true then rJudge (uFetch (uFault T p) (12 * p + g) f w) p (12 * p + g) else (zi 2, uFetch (uFault T p) (12 * p + g) f w)).1)), (zHP (zrow D 172 s') O, k)) ∧ _) ?_
    · rw [← h.1]
      refine b257_50.trans ?_
      simp (disch := first | assumption | omega) only [↓zn_l, zl_0, zl_1, zl_2, zl_3, zl_4, zl_5, zl_6, zl_7, zl_8, zl_9, zl_10, zl_11, zl_12, zl_13, zl_14, zl_15, zl_16, zl_17, zl_18, zl_19, zl_20, zl_21, zl_22, zl_23, zl_24, zl_25, zl_26, zl_27, zl_28, zl_29, zl_30, zl_31, zl_32, zl_36, zl_46, zl_48, zl_50, zl_57, zl_63, zl_64, zl_72, zl_97, zl_99, zl_100, zl_101, zl_122, zl_127, zl_200, zl_255, zl_406, zl_534, zl_540, zl_600, zl_9999, zl_33, zl_34, zl_35, zl_37, zl_38, zl_39, zl_40, zl_41, zl_42, zl_43, zl_44, zl_45, zl_47, zl_49, zl_52, zl_53, zl_54, zl_55, zl_58, zl_59, zl_60, zl_61, zl_62, zl_65, zl_70, zl_71, zl_98, zl_102, zl_103, zl_104, zl_105, zl_110, zl_111, zl_115, zl_120, zl_123, zl_126, zl_128, zl_256, zl_1000, zl_1024, m255, zcon_inl, Option.toList_none, List.nil_append]
      refine b257_53.trans ?_
      have e208 := @m208 X D (vFetched sf (12 * p + g) f w) O k p g 3 hp6 hg12 (by omega)
      rw [(Rg.2.2.1 (12 * p + g) hr).2.2.2.1, esold] at e208
      have ez : zu (zu (zu (zu (zu sf (46 + 5 * (12 * p + g)) (zi f)) (46 + 5 * (12 * p + g) + 1) (sf 0)) (406 + 2 * f + 1) (zb w)) 1 (zu (zu (zu sf (46 + 5 * (12 * p + g)) (zi f)) (46 + 5 * (12 * p + g) + 1) (sf 0)) (406 + 2 * f + 1) (zb w) 1 + zi 1)) 9 (zu (zu (zu (zu sf (46 + 5 * (12 * p + g)) (zi f)) (46 + 5 * (12 * p + g) + 1) (sf 0)) (406 + 2 * f + 1) (zb w)) 1 (zu (zu (zu sf (46 + 5 * (12 * p + g)) (zi f)) (46 + 5 * (12 * p + g) + 1) (sf 0)) (406 + 2 * f + 1) (zb w) 1 + zi 1) 9 + zi 1) = vFetched sf (12 * p + g) f w := by
        unfold vFetched
        simp (disch := first | assumption | omega) only [zu_ne]
      simp (disch := first | assumption | omega) only [↓zn_l, zl_0, zl_1, zl_2, zl_3, zl_4, zl_5, zl_6, zl_7, zl_8, zl_9, zl_10, zl_11, zl_12, zl_13, zl_14, zl_15, zl_16, zl_17, zl_18, zl_19, zl_20, zl_21, zl_22, zl_23, zl_24, zl_25, zl_26, zl_27, zl_28, zl_29, zl_30, zl_31, zl_32, zl_36, zl_46, zl_48, zl_50, zl_57, zl_63, zl_64, zl_72, zl_97, zl_99, zl_100, zl_101, zl_122, zl_127, zl_200, zl_255, zl_406, zl_534, zl_540, zl_600, zl_9999, zl_33, zl_34, zl_35, zl_37, zl_38, zl_39, zl_40, zl_41, zl_42, zl_43, zl_44, zl_45, zl_47, zl_49, zl_52, zl_53, zl_54, zl_55, zl_58, zl_59, zl_60, zl_61, zl_62, zl_65, zl_70, zl_71, zl_98, zl_102, zl_103, zl_104, zl_105, zl_110, zl_111, zl_115, zl_120, zl_123, zl_126, zl_128, zl_256, zl_1000, zl_1024, zcon_inl, zcon_inr, Option.toList_some, Option.toList_none, List.cons_append, List.nil_append, List.append_nil, Nat.add_zero, zbind_some, zi_toNat, zi_lt, zi_inj, zi_add, zi_mul, zi_ne_zn, zn_ne_zi, zn_lt_zi, zi_lt_zn, Nat.not_lt_zero, false_or, if_true, if_false, true_or, or_false, h1, h9, zrow_self, zw_s, ez, e208]
    · by_cases hs : T 3 (5 * (12 * p + g) + 3) = zn
      · have hs2 : sSold T (12 * p + g) = false := by unfold sSold; simp [hs]
        simp only [hs2, Bool.false_eq_true, if_false]
        refine ⟨_, ?_, Rg, Ig, Mg⟩
        rw [b257_81, zn_l, if_pos hs]
        exact b257_95
      · have hs2 : sSold T (12 * p + g) = true := by unfold sSold; simp [hs]
        simp only [hs2, if_true]
        obtain ⟨s', q1, q2⟩ := m259 (X := X) (O := O) (k := k) Ig Sg Rg (p := p) (g := g) (by rw [zRd_np Mg.2.1]; exact hp) hg12 (by rw [esold]; exact hs)
        refine ⟨s', ?_, q2, zIv_judge Ig hp6 hr, zIm_judge Mg⟩
        rw [b257_81, zn_l, if_neg hs, q1, zcon_inl]
        exact b257_95
theorem zIv_copied {r f f' : Nat} (I : zIv T) (hr : r < 72) (hf : f < 64) (ha : T 3 (5 * r) = zi f) (hfr : sFree T = some f') (hv : r / 12 < sNp T ∧ r - r / 12 * 12 < sPgs T (r / 12)) : zIv (uCopied T r f f') := by
  obtain ⟨h1, -, h3, h4⟩ := zFree_cells I hfr
  have n4 := zIv_nf64 I
  obtain ⟨g4, hpos⟩ := uLeave_4 (w := true) I hr hf ha
  have hne : f' ≠ f := by
    intro e
    rw [e] at h4
    omega
  have I1 : zIv (uLeave T r f true) := zIv_leave I hr hf ha
  have M1 : zIm T (uLeave T r f true) := zIm_leave zIm_rfl
  have np : sNp (uLeave T r f true) = sNp T := zRd_np M1.2.1
  have nf : sNf (uLeave T r f true) = sNf T := by unfold sNf; rw [M1.1]
  have pg : ∀ p, p < 6 → sPgs (uLeave T r f true) p = sPgs T p := fun p hp => by unfold sPgs; rw [(M1.2.2 p hp).1]
  have eat : uLeave T r f true 3 (5 * r) = zn := by rw [uLeave_3, zw_self]
  have I2 : zIv (uEnter (uLeave T r f true) r f') := zIv_enter I1 hr (by omega) eat (by rw [np, pg _ (by omega)]; exact hv) (by
    rw [g4, if_neg (by omega), if_neg (by omega : ¬ 3 * f' + 2 = 3 * f + 1), if_neg (by omega : ¬ (3 * f' + 2 = 3 * f + 2 ∧ _))]
    split <;> exact h3)
  have hc := (sCnt_in (T := uLeave T r f true) (U := uEnter (uLeave T r f true) r f') (r := r) (f := f') hr (by omega) eat (uEnter_at _ _ _) (fun q hq => by unfold uEnter; rw [zw_row (by omega), zw_ne (by omega)])).1
  exact zIv_tot (zIv_use I2 hr (by omega) (by omega)) (by omega) (by omega) (by omega)
theorem sCnt_pos {r f : Nat} (hr : r < 72) (ha : T 3 (5 * r) = zi f) : 0 < sCnt T f := by
  have := zct_one (p := fun r' => decide (T 3 (5 * r') = zi f)) (q := fun r' => decide (T 3 (5 * r') = zi f) && !decide (r' = r)) (r := r) (by rw [ha]; simp) (by simp) (fun j hj => by simp [hj]) 72 0 0 (by omega) (by omega)
  unfold sCnt
  omega
theorem m249 {p g : Nat} {w : Bool} (I : zIv T) (S : zRs D T) (R : zRd s T) (hp : p < sNp T) (hg : g < sPgs T p) : ∃ s', zev X 249 0 [.ref 168, .int (zi p), .int (zi g), .int (zb w)] [] (zHP (zrow D 172 s) O, k) = some (.inl (some (.int (rTouch T p g w).1)), (zHP (zrow D 172 s') O, k)) ∧ zRd s' (rTouch T p g w).2 ∧ zIv (rTouch T p g w).2 ∧ zIm T (rTouch T p g w).2 := by
  have n2 := zIv_np6 I
  have hp6 : p < 6 := by omega
  have hg12 : g < 12 := by have := (zIv_pg I hp6).2; omega
  have hr : 12 * p + g < 72 := by omega
  have e214 := m214 (X := X) (D := D) (O := O) (k := k) R hp6 hg12
  rw [b249_0, e214, zcon_inl]
  simp only [Option.toList_some, List.cons_append, List.nil_append]
  rw [b249_6, zl_0]
  cases hi : sIn T (12 * p + g)
  · obtain ⟨s', q1, q2⟩ := m257 (X := X) (O := O) (k := k) (w := w) I S R hp hg hi
    have e : rTouch T p g w = rFetch T p (12 * p + g) w := by unfold rTouch; rw [hi]; rfl
    rw [e]
    refine ⟨s', ?_, q2⟩
    rw [if_pos zb_f, q1, zcon_inl]
    exact b249_26
  · obtain ⟨s', q1, q2⟩ := m250 (X := X) (O := O) (k := k) (w := w) I S R hp hg12 hi
    obtain ⟨f1, f2⟩ := sFr_of (zIv_at I _ hr) hi
    refine ⟨s', ?_, q2, ?_⟩
    · rw [if_neg zbt0, q1, zcon_inl]
      exact b249_16.trans b249_26
    · unfold rTouch
      rw [hi, if_pos rfl]
      split
      · unfold rCopy
        cases hfr : sFree T with
        | none => exact ⟨zIv_tot I (by omega) (by omega) (by omega), zIm_tot zIm_rfl (by omega)⟩
        | some f' => exact ⟨zIv_copied I hr f1 f2 hfr (by rw [zrow12 hg12]; exact ⟨hp, by omega⟩), zIm_tot (zIm_use (zIm_enter (zIm_leave zIm_rfl))) (by omega)⟩
      · exact ⟨zIv_use I hr f1 (sCnt_pos hr f2), zIm_use zIm_rfl⟩
end
