/-! The class's changes. -/
def zHs (D : ZD2) (x h : Nat) : Prop := D 59 1 = zi x ∧ x < 8 ∧ D 59 2 = zi h ∧ h ≤ 8 ∧ ∀ i, i < 8 → zFin (zT D (zRg i))
section
variable {X : ZX} {D T : ZD2} {O : ZO2} {k : Nat × Nat × Nat} {x hh : Nat}
theorem zIv_fin (I : zIv T) : zFin T := I.2.2.2.2.2.2.2.2
theorem c13k (I : zIv T) (H : zHs D x hh) (h : D 20 6 = zi 1) : zev X 13 0 [.ref 59, .ref 20, zJ] [] (zHP (zmt D 20 T) O, k) = some (.inl none, (zHP (zmt (uKeep D T x hh) 20 T) O, k)) := c13 H.1 H.2.1 H.2.2.1 H.2.2.2.1 (Or.inr h) (H.2.2.2.2 x H.2.1) (zIv_fin I)
theorem c150 {p g : Nat} {w : Bool} (I : zIv T) (H : zHs D x hh) (h : D 20 6 = zi 1) (hp : p < sNp T) (hg : g < sPgs T p) (he : sEnd T p = false) : zev X 150 0 [.ref 0, .int (zi p), .int (zi g), .int (zb w)] [] (zHP (zmt D 20 T) O, k) = some (.inl (some (.int (rTouch T p g w).1)), (zHP (zmt (uKeep D T x hh) 20 (rTouch T p g w).2) O, k)) := by
  have n2 := zIv_np6 I
  have hp6 : p < 6 := by omega
  obtain ⟨g1, g2⟩ := zIv_pg I hp6
  have e121 := @c121 X D T O k p g (sNp T) h (zIv_np I) n2 hp g1 g2 hg
  have e139 := @c139 X D T O k p hp6 he
  have e13 := c13k (X := X) (O := O) (k := k) I H h
  have e49 := @c49 X (uKeep D T x hh) T O k 20 p g w hm20 (by omega) hp6 (zIv_at I _ (by omega)) (zIv_nf I) (zIv_nf64 I)
  simp (disch := first | assumption | omega) only [b150_0, e121, b150_6, e139, b150_11, e13, b150_22, e49, b150_32, ↓zn_l, zl_0, zl_1, zl_2, zl_3, zl_4, zl_5, zl_6, zl_7, zl_8, zl_9, zl_10, zl_11, zl_12, zl_13, zl_14, zl_15, zl_16, zl_17, zl_18, zl_19, zl_20, zl_21, zl_22, zl_23, zl_24, zl_25, zl_26, zl_27, zl_28, zl_29, zl_30, zl_31, zl_32, zl_36, zl_46, zl_48, zl_50, zl_57, zl_63, zl_64, zl_72, zl_97, zl_99, zl_100, zl_101, zl_122, zl_127, zl_200, zl_255, zl_406, zl_534, zl_540, zl_600, zl_9999, zl_33, zl_34, zl_35, zl_37, zl_38, zl_39, zl_40, zl_41, zl_42, zl_43, zl_44, zl_45, zl_47, zl_49, zl_52, zl_53, zl_54, zl_55, zl_58, zl_59, zl_60, zl_61, zl_62, zl_65, zl_70, zl_71, zl_98, zl_102, zl_103, zl_104, zl_105, zl_110, zl_111, zl_115, zl_120, zl_123, zl_126, zl_128, zl_256, zl_1000, zl_1024, zcon_inl, zcon_inr, Option.toList_some, Option.toList_none, List.cons_append, List.nil_append, List.append_nil, Nat.add_zero, zbind_some]
def sBuyF (l : List Nat) (i : Nat) (T : ZD2) : ZD2 := uBuy T (l.getD i 0) (sFr T (l.getD i 0))
def rAsk (T : ZD2) (n : Nat) : ZD2 := zfo (sBuyF (sL T)) (min n (sL T).length) 0 T
/-- of the listed offers, those not yet bought are in still -/
def zIns (l : List Nat) (i : Nat) (T : ZD2) : Prop := ∀ j, i ≤ j → j < l.length → sIn T (l.getD j 0) = true ∧ zAt T (l.getD j 0)
theorem uBuy_3 {T : ZD2} {r f q : Nat} (h : q ≠ r) : uBuy T r f 3 (5 * q) = T 3 (5 * q) := by
  unfold uBuy uTot
  rw [zw_row (by omega), uLeave_3, zw_ne (by omega), zw_ne (by omega), zw_ne (by omega), zw_row (by omega)]
theorem c151 {n : Nat} (I : zIv T) (hw : zWok T) (H : zHs D x hh) (h : D 20 6 = zi 1) (h1 : 1 ≤ n) (h2 : n ≤ 72) (hnd : (sL T).Nodup) (hin : ∀ r, r ∈ sL T → sIn T r = true) : ∃ D', zFrO (uKeep D T x hh) D' ∧ zev X 151 0 [.ref 0, .int (zi n), zJ, zJ] [] (zHP (zmt D 20 T) O, k) = some (.inl (some (.int (zi (min n (sL T).length)))), (zHP (zmt D' 20 (rAsk T n)) O, k)) := by
  obtain ⟨D', e, hO, hF, hL⟩ := c65i (X := X) (D := uKeep D T x hh) (O := O) (k := k) I hw
  refine ⟨D', hF, ?_⟩
  have e116 := @c116z X (zmt D 20 T) O k n 1 72 h1 h2 (by omega)
  have e13 := c13k (X := X) (O := O) (k := k) I H h
  have e1 := zOL_1 hO
  have hb : min n (sL T).length ≤ 72 := by omega
  have hb2 : min n (sL T).length ≤ (sL T).length := Nat.min_le_right _ _
  have em2 : (if zi n < zi (sL T).length then zi n else zi (sL T).length) = zi (min n (sL T).length) := zmin (by omega) (by omega)
  have em : (if zi (sL T).length < zi n then zi (sL T).length else zi n) = zi (min n (sL T).length) := by rw [zmin (by omega) (by omega), Nat.min_comm]
  have loop := (zloopJ (P := fun i U => zev X 151 47 [.ref 0, .int (zi n), .int (zi (min n (sL T).length)), .int (zi i)] [] (zHP (zmt D' 20 U) O, k)) (Q := fun U => some (.inl (some (.int (zi (min n (sL T).length)))), (zHP (zmt D' 20 U) O, k))) (f := sBuyF (sL T)) (n := min n (sL T).length) (J := fun i U => zIns (sL T) i U) ?_ ?_ (min n (sL T).length) 0 T (by omega) ?_).1
  · simp (disch := first | assumption | omega) only [b151_0, c114, b151_4, e116, b151_11, e13, b151_22, e, b151_33, c71, e1, ↓zn_l, zl_0, zl_1, zl_2, zl_3, zl_4, zl_5, zl_6, zl_7, zl_8, zl_9, zl_10, zl_11, zl_12, zl_13, zl_14, zl_15, zl_16, zl_17, zl_18, zl_19, zl_20, zl_21, zl_22, zl_23, zl_24, zl_25, zl_26, zl_27, zl_28, zl_29, zl_30, zl_31, zl_32, zl_36, zl_46, zl_48, zl_50, zl_57, zl_63, zl_64, zl_72, zl_97, zl_99, zl_100, zl_101, zl_122, zl_127, zl_200, zl_255, zl_406, zl_534, zl_540, zl_600, zl_9999, zl_33, zl_34, zl_35, zl_37, zl_38, zl_39, zl_40, zl_41, zl_42, zl_43, zl_44, zl_45, zl_47, zl_49, zl_52, zl_53, zl_54, zl_55, zl_58, zl_59, zl_60, zl_61, zl_62, zl_65, zl_70, zl_71, zl_98, zl_102, zl_103, zl_104, zl_105, zl_110, zl_111, zl_115, zl_120, zl_123, zl_126, zl_128, zl_256, zl_1000, zl_1024, zcon_inl, zcon_inr, Option.toList_some, Option.toList_none, List.cons_append, List.nil_append, List.append_nil, Nat.add_zero, zbind_some]
    refine b151_41.trans ?_
    first
    | rw [em]
    | rw [em2]
    exact loop
  · intro i U hi hJ
    have hil : i < (sL T).length := by omega
    have hi72 : i < 72 := by omega
    obtain ⟨j1, j2⟩ := hJ i (Nat.le_refl _) hil
    have hr := zOL_4 hO hil
    obtain ⟨f1, f2⟩ := sFr_of j2 j1
    have e60 := @c60 X D' U O k 20 ((sL T).getD i 0) (sFr U ((sL T).getD i 0)) hm20 hr f1 f2
    have e2 : zmt D' 20 U 166 i = zi ((sL T).getD i 0) := by rw [zmt_o (by omega)]; exact (hO.2.1 i _ (zget_D hil)).1
    refine ⟨?_, ?_⟩
    · refine b151_47.trans ?_
      simp (disch := first | assumption | omega) only [hi, c68, e2, b151_64, e60, b151_67, ↓zn_l, zl_0, zl_1, zl_2, zl_3, zl_4, zl_5, zl_6, zl_7, zl_8, zl_9, zl_10, zl_11, zl_12, zl_13, zl_14, zl_15, zl_16, zl_17, zl_18, zl_19, zl_20, zl_21, zl_22, zl_23, zl_24, zl_25, zl_26, zl_27, zl_28, zl_29, zl_30, zl_31, zl_32, zl_36, zl_46, zl_48, zl_50, zl_57, zl_63, zl_64, zl_72, zl_97, zl_99, zl_100, zl_101, zl_122, zl_127, zl_200, zl_255, zl_406, zl_534, zl_540, zl_600, zl_9999, zl_33, zl_34, zl_35, zl_37, zl_38, zl_39, zl_40, zl_41, zl_42, zl_43, zl_44, zl_45, zl_47, zl_49, zl_52, zl_53, zl_54, zl_55, zl_58, zl_59, zl_60, zl_61, zl_62, zl_65, zl_70, zl_71, zl_98, zl_102, zl_103, zl_104, zl_105, zl_110, zl_111, zl_115, zl_120, zl_123, zl_126, zl_128, zl_256, zl_1000, zl_1024, zcon_inl, zcon_inr, Option.toList_some, Option.toList_none, List.cons_append, List.nil_append, List.append_nil, Nat.add_zero, zbind_some, zi_toNat, zi_lt, zi_inj, zi_add, zi_mul, zi_ne_zn, zn_ne_zi, zn_lt_zi, zi_lt_zn, Nat.not_lt_zero, false_or, if_true, if_false, true_or, or_false]
      rfl
    · intro j hj hj2
      have hne : (sL T).getD j 0 ≠ (sL T).getD i 0 := by
        intro q
        have a1 := zget_D hj2
        have a2 := zget_D hil
        rw [q] at a1
        have := (List.getElem?_inj hj2 hnd).mp (a1.trans a2.symm)
        omega
      obtain ⟨q1, q2⟩ := hJ j (by omega) hj2
      have e3 : sBuyF (sL T) i U 3 (5 * (sL T).getD j 0) = U 3 (5 * (sL T).getD j 0) := uBuy_3 hne
      refine ⟨?_, zAt_congr e3 q2⟩
      unfold sIn at q1 ⊢
      rw [e3]
      exact q1
  · intro U _
    refine b151_47.trans ?_
    simp (disch := first | assumption | omega) only [↓zn_l, zl_0, zl_1, zl_2, zl_3, zl_4, zl_5, zl_6, zl_7, zl_8, zl_9, zl_10, zl_11, zl_12, zl_13, zl_14, zl_15, zl_16, zl_17, zl_18, zl_19, zl_20, zl_21, zl_22, zl_23, zl_24, zl_25, zl_26, zl_27, zl_28, zl_29, zl_30, zl_31, zl_32, zl_36, zl_46, zl_48, zl_50, zl_57, zl_63, zl_64, zl_72, zl_97, zl_99, zl_100, zl_101, zl_122, zl_127, zl_200, zl_255, zl_406, zl_534, zl_540, zl_600, zl_9999, zl_33, zl_34, zl_35, zl_37, zl_38, zl_39, zl_40, zl_41, zl_42, zl_43, zl_44, zl_45, zl_47, zl_49, zl_52, zl_53, zl_54, zl_55, zl_58, zl_59, zl_60, zl_61, zl_62, zl_65, zl_70, zl_71, zl_98, zl_102, zl_103, zl_104, zl_105, zl_110, zl_111, zl_115, zl_120, zl_123, zl_126, zl_128, zl_256, zl_1000, zl_1024, zcon_inl, zcon_inr, Option.toList_some, Option.toList_none, List.cons_append, List.nil_append, List.append_nil, Nat.add_zero, zbind_some, zi_toNat, zi_lt, zi_inj, zi_add, zi_mul, zi_ne_zn, zn_ne_zi, zn_lt_zi, zi_lt_zn, Nat.not_lt_zero, false_or, if_true, if_false, true_or, or_false, Nat.lt_irrefl]
  · intro j _ hj
    exact ⟨hin _ (List.mem_of_getElem? (zget_D hj)), zIv_at I _ (zOL_4 hO hj)⟩
theorem c153 {a : Int32} (I : zIv T) (H : zHs D x hh) (h : D 20 6 = zi 1) (h1 : ¬ a < zi 1) (h2 : ¬ zi 200 < a) (h3 : ¬ zi 9999 < T 1 5 + a) : zev X 153 0 [.ref 0, .int a] [] (zHP (zmt D 20 T) O, k) = some (.inl (some (.int (zi (rPass T a).2))), (zHP (zmt (uKeep D T x hh) 20 (rPass T a).1) O, k)) := by
  have e116 := @c116 X (zmt D 20 T) O k a (zi 1) (zi 200) h1 h2
  have e32 := @c32 X D T O k 20 hm20
  have e13 := c13k (X := X) (O := O) (k := k) I H h
  have e61 := @c61 X (uKeep D T x hh) T O k 20 a hm20 (zIv_nf I) (zIv_nf64 I)
  simp (disch := first | assumption | omega) only [b153_0, c114, b153_4, e116, b153_12, e32, b153_19, h3, if_false, e13, b153_49, e61, b153_57, ↓zn_l, zl_0, zl_1, zl_2, zl_3, zl_4, zl_5, zl_6, zl_7, zl_8, zl_9, zl_10, zl_11, zl_12, zl_13, zl_14, zl_15, zl_16, zl_17, zl_18, zl_19, zl_20, zl_21, zl_22, zl_23, zl_24, zl_25, zl_26, zl_27, zl_28, zl_29, zl_30, zl_31, zl_32, zl_36, zl_46, zl_48, zl_50, zl_57, zl_63, zl_64, zl_72, zl_97, zl_99, zl_100, zl_101, zl_122, zl_127, zl_200, zl_255, zl_406, zl_534, zl_540, zl_600, zl_9999, zl_33, zl_34, zl_35, zl_37, zl_38, zl_39, zl_40, zl_41, zl_42, zl_43, zl_44, zl_45, zl_47, zl_49, zl_52, zl_53, zl_54, zl_55, zl_58, zl_59, zl_60, zl_61, zl_62, zl_65, zl_70, zl_71, zl_98, zl_102, zl_103, zl_104, zl_105, zl_110, zl_111, zl_115, zl_120, zl_123, zl_126, zl_128, zl_256, zl_1000, zl_1024, zcon_inl, zcon_inr, Option.toList_some, Option.toList_none, List.cons_append, List.nil_append, List.append_nil, Nat.add_zero, zbind_some]
theorem c153n {a : Int32} (h : D 20 6 = zi 1) (h1 : ¬ a < zi 1) (h2 : ¬ zi 200 < a) (h3 : zi 9999 < T 1 5 + a) : zev X 153 0 [.ref 0, .int a] [] (zHP (zmt D 20 T) O, k) = some (.inr 0, (zHP (zmt D 20 T) O, kt k)) := by
  have e116 := @c116 X (zmt D 20 T) O k a (zi 1) (zi 200) h1 h2
  have e32 := @c32 X D T O k 20 hm20
  simp (disch := first | assumption | omega) only [b153_0, c114, b153_4, e116, b153_12, e32, b153_19, h3, if_true, ↓zn_l, zl_0, zl_1, zl_2, zl_3, zl_4, zl_5, zl_6, zl_7, zl_8, zl_9, zl_10, zl_11, zl_12, zl_13, zl_14, zl_15, zl_16, zl_17, zl_18, zl_19, zl_20, zl_21, zl_22, zl_23, zl_24, zl_25, zl_26, zl_27, zl_28, zl_29, zl_30, zl_31, zl_32, zl_36, zl_46, zl_48, zl_50, zl_57, zl_63, zl_64, zl_72, zl_97, zl_99, zl_100, zl_101, zl_122, zl_127, zl_200, zl_255, zl_406, zl_534, zl_540, zl_600, zl_9999, zl_33, zl_34, zl_35, zl_37, zl_38, zl_39, zl_40, zl_41, zl_42, zl_43, zl_44, zl_45, zl_47, zl_49, zl_52, zl_53, zl_54, zl_55, zl_58, zl_59, zl_60, zl_61, zl_62, zl_65, zl_70, zl_71, zl_98, zl_102, zl_103, zl_104, zl_105, zl_110, zl_111, zl_115, zl_120, zl_123, zl_126, zl_128, zl_256, zl_1000, zl_1024, zcon_inl, zcon_inr, Option.toList_some, Option.toList_none, List.cons_append, List.nil_append, List.append_nil, Nat.add_zero, zbind_some]
  rfl
theorem c154 {p g q s : Nat} (I : zIv T) (H : zHs D x hh) (h : D 20 6 = zi 1) (hp : p < sNp T) (hg : g < sPgs T p) (hq : q < sNp T) (hs : s < sPgs T q) (he : sEnd T p = false) (he2 : sEnd T q = false) (hi : sIn T (12 * p + g) = true) (hi2 : sIn T (12 * q + s) = false) : zev X 154 0 [.ref 0, .int (zi p), .int (zi g), .int (zi q), .int (zi s), zJ, zJ] [] (zHP (zmt D 20 T) O, k) = some (.inl (some (.int (uJoin T (12 * q + s) (sFr T (12 * p + g)) 4 (3 * sFr T (12 * p + g))))), (zHP (zmt (uKeep D T x hh) 20 (uJoin T (12 * q + s) (sFr T (12 * p + g)))) O, k)) := by
  have n2 := zIv_np6 I
  have hp6 : p < 6 := by omega
  have hq6 : q < 6 := by omega
  obtain ⟨g1, g2⟩ := zIv_pg I hp6
  obtain ⟨g3, g4⟩ := zIv_pg I hq6
  have e121 := @c121 X D T O k p g (sNp T) h (zIv_np I) n2 hp g1 g2 hg
  have e121b := @c121 X D T O k q s (sNp T) h (zIv_np I) n2 hq g3 g4 hs
  have e139 := @c139 X D T O k p hp6 he
  have e139b := @c139 X D T O k q hq6 he2
  have hr : 12 * p + g < 72 := by omega
  have hr2 : 12 * q + s < 72 := by omega
  have e22 := @c22 X D T O k 20 _ hm20 hr
  have e22b := @c22 X D T O k 20 _ hm20 hr2
  have e13 := c13k (X := X) (O := O) (k := k) I H h
  obtain ⟨f1, f2⟩ := sFr_of (zIv_at I _ hr) hi
  have e94 := @tg3 X (uKeep D T x hh) T O k 20 _ 0 hm20 hr (by omega)
  have e62 := @c62 X (uKeep D T x hh) T O k 20 (12 * q + s) (sFr T (12 * p + g)) hm20 hr2 f1
  rw [Nat.add_zero (5 * (12 * p + g)), f2] at e94
  simp (disch := first | assumption | omega) only [b154_0, e121, b154_6, e121b, b154_13, e139, b154_18, e139b, b154_23, c21, b154_28, b154_36, e22, hi, b154_47, zb_0, if_false, Bool.true_eq_false, e22b, hi2, b154_59, if_true, e13, b154_84, e94, b154_103, e62, b154_106, ↓zn_l, zl_0, zl_1, zl_2, zl_3, zl_4, zl_5, zl_6, zl_7, zl_8, zl_9, zl_10, zl_11, zl_12, zl_13, zl_14, zl_15, zl_16, zl_17, zl_18, zl_19, zl_20, zl_21, zl_22, zl_23, zl_24, zl_25, zl_26, zl_27, zl_28, zl_29, zl_30, zl_31, zl_32, zl_36, zl_46, zl_48, zl_50, zl_57, zl_63, zl_64, zl_72, zl_97, zl_99, zl_100, zl_101, zl_122, zl_127, zl_200, zl_255, zl_406, zl_534, zl_540, zl_600, zl_9999, zl_33, zl_34, zl_35, zl_37, zl_38, zl_39, zl_40, zl_41, zl_42, zl_43, zl_44, zl_45, zl_47, zl_49, zl_52, zl_53, zl_54, zl_55, zl_58, zl_59, zl_60, zl_61, zl_62, zl_65, zl_70, zl_71, zl_98, zl_102, zl_103, zl_104, zl_105, zl_110, zl_111, zl_115, zl_120, zl_123, zl_126, zl_128, zl_256, zl_1000, zl_1024, zcon_inl, zcon_inr, Option.toList_some, Option.toList_none, List.cons_append, List.nil_append, List.append_nil, Nat.add_zero, zbind_some]
theorem c154n {p g q s : Nat} (I : zIv T) (h : D 20 6 = zi 1) (hp : p < sNp T) (hg : g < sPgs T p) (hq : q < sNp T) (hs : s < sPgs T q) (hb : sEnd T p = true ∨ sEnd T q = true ∨ sIn T (12 * p + g) = false ∨ sIn T (12 * q + s) = true) : zev X 154 0 [.ref 0, .int (zi p), .int (zi g), .int (zi q), .int (zi s), zJ, zJ] [] (zHP (zmt D 20 T) O, k) = some (.inr 0, (zHP (zmt D 20 T) O, kt k)) := by
  have n2 := zIv_np6 I
  have hp6 : p < 6 := by omega
  have hq6 : q < 6 := by omega
  obtain ⟨g1, g2⟩ := zIv_pg I hp6
  obtain ⟨g3, g4⟩ := zIv_pg I hq6
  have e121 := @c121 X D T O k p g (sNp T) h (zIv_np I) n2 hp g1 g2 hg
  have e121b := @c121 X D T O k q s (sNp T) h (zIv_np I) n2 hq g3 g4 hs
  have hr : 12 * p + g < 72 := by omega
  have hr2 : 12 * q + s < 72 := by omega
  have e22 := @c22 X D T O k 20 _ hm20 hr
  have e22b := @c22 X D T O k 20 _ hm20 hr2
  simp (disch := first | assumption | omega) only [b154_0, e121, b154_6, e121b, ↓zn_l, zl_0, zl_1, zl_2, zl_3, zl_4, zl_5, zl_6, zl_7, zl_8, zl_9, zl_10, zl_11, zl_12, zl_13, zl_14, zl_15, zl_16, zl_17, zl_18, zl_19, zl_20, zl_21, zl_22, zl_23, zl_24, zl_25, zl_26, zl_27, zl_28, zl_29, zl_30, zl_31, zl_32, zl_36, zl_46, zl_48, zl_50, zl_57, zl_63, zl_64, zl_72, zl_97, zl_99, zl_100, zl_101, zl_122, zl_127, zl_200, zl_255, zl_406, zl_534, zl_540, zl_600, zl_9999, zl_33, zl_34, zl_35, zl_37, zl_38, zl_39, zl_40, zl_41, zl_42, zl_43, zl_44, zl_45, zl_47, zl_49, zl_52, zl_53, zl_54, zl_55, zl_58, zl_59, zl_60, zl_61, zl_62, zl_65, zl_70, zl_71, zl_98, zl_102, zl_103, zl_104, zl_105, zl_110, zl_111, zl_115, zl_120, zl_123, zl_126, zl_128, zl_256, zl_1000, zl_1024, zcon_inl, zcon_inr, Option.toList_some, Option.toList_none, List.cons_append, List.nil_append, List.append_nil, Nat.add_zero, zbind_some]
  cases he : sEnd T p
  · have e139 := @c139 X D T O k p hp6 he
    simp (disch := first | assumption | omega) only [b154_13, e139, ↓zn_l, zl_0, zl_1, zl_2, zl_3, zl_4, zl_5, zl_6, zl_7, zl_8, zl_9, zl_10, zl_11, zl_12, zl_13, zl_14, zl_15, zl_16, zl_17, zl_18, zl_19, zl_20, zl_21, zl_22, zl_23, zl_24, zl_25, zl_26, zl_27, zl_28, zl_29, zl_30, zl_31, zl_32, zl_36, zl_46, zl_48, zl_50, zl_57, zl_63, zl_64, zl_72, zl_97, zl_99, zl_100, zl_101, zl_122, zl_127, zl_200, zl_255, zl_406, zl_534, zl_540, zl_600, zl_9999, zl_33, zl_34, zl_35, zl_37, zl_38, zl_39, zl_40, zl_41, zl_42, zl_43, zl_44, zl_45, zl_47, zl_49, zl_52, zl_53, zl_54, zl_55, zl_58, zl_59, zl_60, zl_61, zl_62, zl_65, zl_70, zl_71, zl_98, zl_102, zl_103, zl_104, zl_105, zl_110, zl_111, zl_115, zl_120, zl_123, zl_126, zl_128, zl_256, zl_1000, zl_1024, zcon_inl, zcon_inr, Option.toList_some, Option.toList_none, List.cons_append, List.nil_append, List.append_nil, Nat.add_zero, zbind_some]
    cases he2 : sEnd T q
    · have e139b := @c139 X D T O k q hq6 he2
      simp (disch := first | assumption | omega) only [b154_18, e139b, b154_23, c21, b154_28, b154_36, e22, b154_47, zb_0, ↓zn_l, zl_0, zl_1, zl_2, zl_3, zl_4, zl_5, zl_6, zl_7, zl_8, zl_9, zl_10, zl_11, zl_12, zl_13, zl_14, zl_15, zl_16, zl_17, zl_18, zl_19, zl_20, zl_21, zl_22, zl_23, zl_24, zl_25, zl_26, zl_27, zl_28, zl_29, zl_30, zl_31, zl_32, zl_36, zl_46, zl_48, zl_50, zl_57, zl_63, zl_64, zl_72, zl_97, zl_99, zl_100, zl_101, zl_122, zl_127, zl_200, zl_255, zl_406, zl_534, zl_540, zl_600, zl_9999, zl_33, zl_34, zl_35, zl_37, zl_38, zl_39, zl_40, zl_41, zl_42, zl_43, zl_44, zl_45, zl_47, zl_49, zl_52, zl_53, zl_54, zl_55, zl_58, zl_59, zl_60, zl_61, zl_62, zl_65, zl_70, zl_71, zl_98, zl_102, zl_103, zl_104, zl_105, zl_110, zl_111, zl_115, zl_120, zl_123, zl_126, zl_128, zl_256, zl_1000, zl_1024, zcon_inl, zcon_inr, Option.toList_some, Option.toList_none, List.cons_append, List.nil_append, List.append_nil, Nat.add_zero, zbind_some]
      cases hi : sIn T (12 * p + g)
      · simp only [if_true]
        rfl
      · cases hi2 : sIn T (12 * q + s)
        · simp [he, he2, hi, hi2] at hb
        · simp (disch := first | assumption | omega) only [Bool.true_eq_false, if_false, e22b, hi2, b154_59, zb_0, ↓zn_l, zl_0, zl_1, zl_2, zl_3, zl_4, zl_5, zl_6, zl_7, zl_8, zl_9, zl_10, zl_11, zl_12, zl_13, zl_14, zl_15, zl_16, zl_17, zl_18, zl_19, zl_20, zl_21, zl_22, zl_23, zl_24, zl_25, zl_26, zl_27, zl_28, zl_29, zl_30, zl_31, zl_32, zl_36, zl_46, zl_48, zl_50, zl_57, zl_63, zl_64, zl_72, zl_97, zl_99, zl_100, zl_101, zl_122, zl_127, zl_200, zl_255, zl_406, zl_534, zl_540, zl_600, zl_9999, zl_33, zl_34, zl_35, zl_37, zl_38, zl_39, zl_40, zl_41, zl_42, zl_43, zl_44, zl_45, zl_47, zl_49, zl_52, zl_53, zl_54, zl_55, zl_58, zl_59, zl_60, zl_61, zl_62, zl_65, zl_70, zl_71, zl_98, zl_102, zl_103, zl_104, zl_105, zl_110, zl_111, zl_115, zl_120, zl_123, zl_126, zl_128, zl_256, zl_1000, zl_1024, zcon_inl, zcon_inr, Option.toList_some, Option.toList_none, List.cons_append, List.nil_append, List.append_nil, Nat.add_zero, zbind_some]
          rfl
    · have e139b := @c139n X D T O k q hq6 he2
      simp (disch := first | assumption | omega) only [b154_18, e139b, ↓zn_l, zl_0, zl_1, zl_2, zl_3, zl_4, zl_5, zl_6, zl_7, zl_8, zl_9, zl_10, zl_11, zl_12, zl_13, zl_14, zl_15, zl_16, zl_17, zl_18, zl_19, zl_20, zl_21, zl_22, zl_23, zl_24, zl_25, zl_26, zl_27, zl_28, zl_29, zl_30, zl_31, zl_32, zl_36, zl_46, zl_48, zl_50, zl_57, zl_63, zl_64, zl_72, zl_97, zl_99, zl_100, zl_101, zl_122, zl_127, zl_200, zl_255, zl_406, zl_534, zl_540, zl_600, zl_9999, zl_33, zl_34, zl_35, zl_37, zl_38, zl_39, zl_40, zl_41, zl_42, zl_43, zl_44, zl_45, zl_47, zl_49, zl_52, zl_53, zl_54, zl_55, zl_58, zl_59, zl_60, zl_61, zl_62, zl_65, zl_70, zl_71, zl_98, zl_102, zl_103, zl_104, zl_105, zl_110, zl_111, zl_115, zl_120, zl_123, zl_126, zl_128, zl_256, zl_1000, zl_1024, zcon_inl, zcon_inr, Option.toList_some, Option.toList_none, List.cons_append, List.nil_append, List.append_nil, Nat.add_zero, zbind_some]
  · have e139 := @c139n X D T O k p hp6 he
    simp (disch := first | assumption | omega) only [b154_13, e139, ↓zn_l, zl_0, zl_1, zl_2, zl_3, zl_4, zl_5, zl_6, zl_7, zl_8, zl_9, zl_10, zl_11, zl_12, zl_13, zl_14, zl_15, zl_16, zl_17, zl_18, zl_19, zl_20, zl_21, zl_22, zl_23, zl_24, zl_25, zl_26, zl_27, zl_28, zl_29, zl_30, zl_31, zl_32, zl_36, zl_46, zl_48, zl_50, zl_57, zl_63, zl_64, zl_72, zl_97, zl_99, zl_100, zl_101, zl_122, zl_127, zl_200, zl_255, zl_406, zl_534, zl_540, zl_600, zl_9999, zl_33, zl_34, zl_35, zl_37, zl_38, zl_39, zl_40, zl_41, zl_42, zl_43, zl_44, zl_45, zl_47, zl_49, zl_52, zl_53, zl_54, zl_55, zl_58, zl_59, zl_60, zl_61, zl_62, zl_65, zl_70, zl_71, zl_98, zl_102, zl_103, zl_104, zl_105, zl_110, zl_111, zl_115, zl_120, zl_123, zl_126, zl_128, zl_256, zl_1000, zl_1024, zcon_inl, zcon_inr, Option.toList_some, Option.toList_none, List.cons_append, List.nil_append, List.append_nil, Nat.add_zero, zbind_some]
theorem c155 {p g : Nat} (I : zIv T) (H : zHs D x hh) (h : D 20 6 = zi 1) (hp : p < sNp T) (hg : g < sPgs T p) (he : sEnd T p = false) (hi : sIn T (12 * p + g) = true) (hi2 : sPin T (12 * p + g) = false) : zev X 155 0 [.ref 0, .int (zi p), .int (zi g), zJ, zJ] [] (zHP (zmt D 20 T) O, k) = some (.inl (some (.int (uLeave T (12 * p + g) (sFr T (12 * p + g)) true 4 (3 * sFr T (12 * p + g))))), (zHP (zmt (uKeep D T x hh) 20 (uLeave T (12 * p + g) (sFr T (12 * p + g)) true)) O, k)) := by
  have n2 := zIv_np6 I
  have hp6 : p < 6 := by omega
  obtain ⟨g1, g2⟩ := zIv_pg I hp6
  have e121 := @c121 X D T O k p g (sNp T) h (zIv_np I) n2 hp g1 g2 hg
  have e139 := @c139 X D T O k p hp6 he
  have hr : 12 * p + g < 72 := by omega
  have e22 := @c22 X D T O k 20 _ hm20 hr
  have e27 := @c27 X D T O k 20 _ hm20 hr
  have e13 := c13k (X := X) (O := O) (k := k) I H h
  obtain ⟨f1, f2⟩ := sFr_of (zIv_at I _ hr) hi
  have e94 := @tg3 X (uKeep D T x hh) T O k 20 _ 0 hm20 hr (by omega)
  rw [Nat.add_zero (5 * (12 * p + g)), f2] at e94
  have e56 := @c56 X (uKeep D T x hh) T O k 20 _ _ true hm20 hr f1 f2
  rw [zb_t] at e56
  have e94b := @tg4 X (uKeep D T x hh) (uLeave T (12 * p + g) (sFr T (12 * p + g)) true) O k 20 _ 0 hm20 f1 (by omega)
  rw [Nat.add_zero (3 * sFr T (12 * p + g))] at e94b
  simp (disch := first | assumption | omega) only [b155_0, e121, b155_6, e139, b155_11, c21, b155_16, e22, hi, b155_25, zb_0, if_false, Bool.true_eq_false, e27, hi2, b155_36, if_true, e13, b155_61, e94, b155_73, e56, b155_84, e94b, b155_97, ↓zn_l, zl_0, zl_1, zl_2, zl_3, zl_4, zl_5, zl_6, zl_7, zl_8, zl_9, zl_10, zl_11, zl_12, zl_13, zl_14, zl_15, zl_16, zl_17, zl_18, zl_19, zl_20, zl_21, zl_22, zl_23, zl_24, zl_25, zl_26, zl_27, zl_28, zl_29, zl_30, zl_31, zl_32, zl_36, zl_46, zl_48, zl_50, zl_57, zl_63, zl_64, zl_72, zl_97, zl_99, zl_100, zl_101, zl_122, zl_127, zl_200, zl_255, zl_406, zl_534, zl_540, zl_600, zl_9999, zl_33, zl_34, zl_35, zl_37, zl_38, zl_39, zl_40, zl_41, zl_42, zl_43, zl_44, zl_45, zl_47, zl_49, zl_52, zl_53, zl_54, zl_55, zl_58, zl_59, zl_60, zl_61, zl_62, zl_65, zl_70, zl_71, zl_98, zl_102, zl_103, zl_104, zl_105, zl_110, zl_111, zl_115, zl_120, zl_123, zl_126, zl_128, zl_256, zl_1000, zl_1024, zcon_inl, zcon_inr, Option.toList_some, Option.toList_none, List.cons_append, List.nil_append, List.append_nil, Nat.add_zero, zbind_some]
theorem c155n {p g : Nat} (I : zIv T) (h : D 20 6 = zi 1) (hp : p < sNp T) (hg : g < sPgs T p) (he : sEnd T p = false) (hb : sIn T (12 * p + g) = false ∨ sPin T (12 * p + g) = true) : zev X 155 0 [.ref 0, .int (zi p), .int (zi g), zJ, zJ] [] (zHP (zmt D 20 T) O, k) = some (.inr 0, (zHP (zmt D 20 T) O, kt k)) := by
  have n2 := zIv_np6 I
  have hp6 : p < 6 := by omega
  obtain ⟨g1, g2⟩ := zIv_pg I hp6
  have e121 := @c121 X D T O k p g (sNp T) h (zIv_np I) n2 hp g1 g2 hg
  have e139 := @c139 X D T O k p hp6 he
  have hr : 12 * p + g < 72 := by omega
  have e22 := @c22 X D T O k 20 _ hm20 hr
  have e27 := @c27 X D T O k 20 _ hm20 hr
  simp (disch := first | assumption | omega) only [b155_0, e121, b155_6, e139, b155_11, c21, b155_16, e22, b155_25, zb_0, ↓zn_l, zl_0, zl_1, zl_2, zl_3, zl_4, zl_5, zl_6, zl_7, zl_8, zl_9, zl_10, zl_11, zl_12, zl_13, zl_14, zl_15, zl_16, zl_17, zl_18, zl_19, zl_20, zl_21, zl_22, zl_23, zl_24, zl_25, zl_26, zl_27, zl_28, zl_29, zl_30, zl_31, zl_32, zl_36, zl_46, zl_48, zl_50, zl_57, zl_63, zl_64, zl_72, zl_97, zl_99, zl_100, zl_101, zl_122, zl_127, zl_200, zl_255, zl_406, zl_534, zl_540, zl_600, zl_9999, zl_33, zl_34, zl_35, zl_37, zl_38, zl_39, zl_40, zl_41, zl_42, zl_43, zl_44, zl_45, zl_47, zl_49, zl_52, zl_53, zl_54, zl_55, zl_58, zl_59, zl_60, zl_61, zl_62, zl_65, zl_70, zl_71, zl_98, zl_102, zl_103, zl_104, zl_105, zl_110, zl_111, zl_115, zl_120, zl_123, zl_126, zl_128, zl_256, zl_1000, zl_1024, zcon_inl, zcon_inr, Option.toList_some, Option.toList_none, List.cons_append, List.nil_append, List.append_nil, Nat.add_zero, zbind_some]
  cases hi : sIn T (12 * p + g)
  · simp only [if_true]
    rfl
  · have hi2 := hb.resolve_left (by rw [hi]; simp)
    simp (disch := first | assumption | omega) only [Bool.true_eq_false, if_false, e27, hi2, b155_36, zb_0, ↓zn_l, zl_0, zl_1, zl_2, zl_3, zl_4, zl_5, zl_6, zl_7, zl_8, zl_9, zl_10, zl_11, zl_12, zl_13, zl_14, zl_15, zl_16, zl_17, zl_18, zl_19, zl_20, zl_21, zl_22, zl_23, zl_24, zl_25, zl_26, zl_27, zl_28, zl_29, zl_30, zl_31, zl_32, zl_36, zl_46, zl_48, zl_50, zl_57, zl_63, zl_64, zl_72, zl_97, zl_99, zl_100, zl_101, zl_122, zl_127, zl_200, zl_255, zl_406, zl_534, zl_540, zl_600, zl_9999, zl_33, zl_34, zl_35, zl_37, zl_38, zl_39, zl_40, zl_41, zl_42, zl_43, zl_44, zl_45, zl_47, zl_49, zl_52, zl_53, zl_54, zl_55, zl_58, zl_59, zl_60, zl_61, zl_62, zl_65, zl_70, zl_71, zl_98, zl_102, zl_103, zl_104, zl_105, zl_110, zl_111, zl_115, zl_120, zl_123, zl_126, zl_128, zl_256, zl_1000, zl_1024, zcon_inl, zcon_inr, Option.toList_some, Option.toList_none, List.cons_append, List.nil_append, List.append_nil, Nat.add_zero, zbind_some]
    rfl
end
