/-! The law's loop (mk_loop.py). -/
theorem yand63 (y : Int32) : ∃ m, m < 64 ∧ y &&& 63 = zi m := by
  refine ⟨(y &&& 63).toUInt32.toNat, ?_, ?_⟩
  · have e : (y &&& 63).toUInt32.toNat = y.toUInt32.toNat &&& 63 := by
      show (y.toBitVec &&& (63 : Int32).toBitVec).toNat = _
      rw [BitVec.toNat_and]
      rfl
    rw [e]
    have := Nat.and_le_right (n := y.toUInt32.toNat) (m := 63)
    omega
  · have g : Int32.ofNat (y &&& 63).toUInt32.toNat = y &&& 63 := by
      apply Int32.toBitVec_inj.mp
      simp [Int32.toBitVec_ofNat]
    exact g.symm
def zof : Array Int := #[219, 292, 348, 361, 374, 387, 443, 499, 555, 623, 703, 771, 839, 917, 973, 1017, 1061, 1105, 1149, 1205, 1273, 1339, 1404, 1460, 1556, 1612, 1668, 1724, 1792, 1848, 1904, 1960, 2004, 2048, 2104, 2200, 2256, 2312, 2368, 2460, 2528, 2631, 2687, 2755, 2823, 2910, 2966, 3010, 3054, 3067, 3123]
theorem zlw_0 : zswi 45 3179 0 50 zof (zi 0) = some 264 := by decide
theorem zlw_1 : zswi 45 3179 0 50 zof (zi 1) = some 337 := by decide
theorem zlw_2 : zswi 45 3179 0 50 zof (zi 2) = some 393 := by decide
theorem zlw_3 : zswi 45 3179 0 50 zof (zi 3) = some 406 := by decide
theorem zlw_4 : zswi 45 3179 0 50 zof (zi 4) = some 419 := by decide
theorem zlw_5 : zswi 45 3179 0 50 zof (zi 5) = some 432 := by decide
theorem zlw_6 : zswi 45 3179 0 50 zof (zi 6) = some 488 := by decide
theorem zlw_7 : zswi 45 3179 0 50 zof (zi 7) = some 544 := by decide
theorem zlw_8 : zswi 45 3179 0 50 zof (zi 8) = some 600 := by decide
theorem zlw_9 : zswi 45 3179 0 50 zof (zi 9) = some 668 := by decide
theorem zlw_10 : zswi 45 3179 0 50 zof (zi 10) = some 748 := by decide
theorem zlw_11 : zswi 45 3179 0 50 zof (zi 11) = some 816 := by decide
theorem zlw_12 : zswi 45 3179 0 50 zof (zi 12) = some 884 := by decide
theorem zlw_13 : zswi 45 3179 0 50 zof (zi 13) = some 962 := by decide
theorem zlw_14 : zswi 45 3179 0 50 zof (zi 14) = some 1018 := by decide
theorem zlw_15 : zswi 45 3179 0 50 zof (zi 15) = some 1062 := by decide
theorem zlw_16 : zswi 45 3179 0 50 zof (zi 16) = some 1106 := by decide
theorem zlw_17 : zswi 45 3179 0 50 zof (zi 17) = some 1150 := by decide
theorem zlw_18 : zswi 45 3179 0 50 zof (zi 18) = some 1194 := by decide
theorem zlw_19 : zswi 45 3179 0 50 zof (zi 19) = some 1250 := by decide
theorem zlw_20 : zswi 45 3179 0 50 zof (zi 20) = some 1318 := by decide
theorem zlw_21 : zswi 45 3179 0 50 zof (zi 21) = some 1384 := by decide
theorem zlw_22 : zswi 45 3179 0 50 zof (zi 22) = some 1449 := by decide
theorem zlw_23 : zswi 45 3179 0 50 zof (zi 23) = some 1505 := by decide
theorem zlw_24 : zswi 45 3179 0 50 zof (zi 24) = some 1601 := by decide
theorem zlw_25 : zswi 45 3179 0 50 zof (zi 25) = some 1657 := by decide
theorem zlw_26 : zswi 45 3179 0 50 zof (zi 26) = some 1713 := by decide
theorem zlw_27 : zswi 45 3179 0 50 zof (zi 27) = some 1769 := by decide
theorem zlw_28 : zswi 45 3179 0 50 zof (zi 28) = some 1837 := by decide
theorem zlw_29 : zswi 45 3179 0 50 zof (zi 29) = some 1893 := by decide
theorem zlw_30 : zswi 45 3179 0 50 zof (zi 30) = some 1949 := by decide
theorem zlw_31 : zswi 45 3179 0 50 zof (zi 31) = some 2005 := by decide
theorem zlw_32 : zswi 45 3179 0 50 zof (zi 32) = some 2049 := by decide
theorem zlw_33 : zswi 45 3179 0 50 zof (zi 33) = some 2093 := by decide
theorem zlw_34 : zswi 45 3179 0 50 zof (zi 34) = some 2149 := by decide
theorem zlw_35 : zswi 45 3179 0 50 zof (zi 35) = some 2245 := by decide
theorem zlw_36 : zswi 45 3179 0 50 zof (zi 36) = some 2301 := by decide
theorem zlw_37 : zswi 45 3179 0 50 zof (zi 37) = some 2357 := by decide
theorem zlw_38 : zswi 45 3179 0 50 zof (zi 38) = some 2413 := by decide
theorem zlw_39 : zswi 45 3179 0 50 zof (zi 39) = some 2505 := by decide
theorem zlw_40 : zswi 45 3179 0 50 zof (zi 40) = some 2573 := by decide
theorem zlw_41 : zswi 45 3179 0 50 zof (zi 41) = some 2676 := by decide
theorem zlw_42 : zswi 45 3179 0 50 zof (zi 42) = some 2732 := by decide
theorem zlw_43 : zswi 45 3179 0 50 zof (zi 43) = some 2800 := by decide
theorem zlw_44 : zswi 45 3179 0 50 zof (zi 44) = some 2868 := by decide
theorem zlw_45 : zswi 45 3179 0 50 zof (zi 45) = some 2955 := by decide
theorem zlw_46 : zswi 45 3179 0 50 zof (zi 46) = some 3011 := by decide
theorem zlw_47 : zswi 45 3179 0 50 zof (zi 47) = some 3055 := by decide
theorem zlw_48 : zswi 45 3179 0 50 zof (zi 48) = some 3099 := by decide
theorem zlw_49 : zswi 45 3179 0 50 zof (zi 49) = some 3112 := by decide
theorem zlw_50 : zswi 45 3179 0 50 zof (zi 50) = some 3168 := by decide
theorem zlw_o {q : Nat} (h : 51 ≤ q) (h2 : q < 64) : zswi 45 3179 0 50 zof (zi q) = some 3224 := by
  unfold zswi
  rw [zi_toInt (by omega), if_pos (Or.inr (by omega))]
  rfl
theorem zlt6 {a m : Nat} (h3 : a ≤ 3072) (hm : m < 2147483648) (h : a < m + 6) : zi a - zi 6 < zi m := by
  by_cases c : 6 ≤ a
  · rw [zi_sub c (by omega), zi_lt (by omega) hm]
    omega
  · have e : zi a - zi 6 < zi 0 := by
      rcases (by omega : a = 0 ∨ a = 1 ∨ a = 2 ∨ a = 3 ∨ a = 4 ∨ a = 5) with rfl | rfl | rfl | rfl | rfl | rfl <;> decide
    by_cases m0 : m = 0
    · rw [m0]
      exact e
    · exact Int32.lt_trans e (by rw [zi_lt (by omega) hm]; omega)
theorem zge6 {a m : Nat} (h3 : a ≤ 3072) (h : m + 6 ≤ a) : ¬ zi a - zi 6 < zi m := by
  rw [zi_sub (by omega) (by omega), zi_lt (by omega) (by omega)]
  omega
section
variable {X : ZX}
theorem lsw {a : Int32} {L : List Value} {S : ZS} : zev X 352 45 L [.int a] S = zbind (zswi 45 3179 0 50 zof a) fun t => zev X 352 t L [] S := zst_sw rfl
theorem zdo_case {i n q : Nat} {D : ZD2} {O : ZO2} {k : Nat × Nat × Nat} {u6 u7 u8 : Value} (hi : i + 6 ≤ X.1) (h3 : X.1 ≤ 3072) (hn : n ≤ 512) (hq : q < 64) (G : ygG n D) : ∃ t, zswi 45 3179 0 50 zof (zi q) = some t ∧ zCs n X i t D O k u6 u7 u8 := by
  match q, hq with
  | 0, _ => exact ⟨_, zlw_0, k0 hi h3 (q106 G)⟩
  | 1, _ => exact ⟨_, zlw_1, k1 hi h3 (q111 G)⟩
  | 2, _ => exact ⟨_, zlw_2, k2 hi h3 (q107 G)⟩
  | 3, _ => exact ⟨_, zlw_3, k3 hi h3 (q108 G)⟩
  | 4, _ => exact ⟨_, zlw_4, k4 hi h3 (q109 G)⟩
  | 5, _ => exact ⟨_, zlw_5, k5 hi h3 (q113 G)⟩
  | 6, _ => exact ⟨_, zlw_6, k6 hi h3 (q115 G)⟩
  | 7, _ => exact ⟨_, zlw_7, k7 hi h3 (q117 G)⟩
  | 8, _ => exact ⟨_, zlw_8, k8 hi h3 (q118 G)⟩
  | 9, _ => exact ⟨_, zlw_9, k9 hi h3 (q120 G)⟩
  | 10, _ => exact ⟨_, zlw_10, k10 hi h3 (q122 G)⟩
  | 11, _ => exact ⟨_, zlw_11, k11 hi h3 (q123 G)⟩
  | 12, _ => exact ⟨_, zlw_12, k12 hi h3 (q125 G)⟩
  | 13, _ => exact ⟨_, zlw_13, k13 hi h3 (q126 G)⟩
  | 14, _ => exact ⟨_, zlw_14, k14 hi h3 (q127 G)⟩
  | 15, _ => exact ⟨_, zlw_15, k15 hi h3 (q128 G)⟩
  | 16, _ => exact ⟨_, zlw_16, k16 hi h3 (q129 G)⟩
  | 17, _ => exact ⟨_, zlw_17, k17 hi h3 (q131 G)⟩
  | 18, _ => exact ⟨_, zlw_18, k18 hi h3 (q133 G)⟩
  | 19, _ => exact ⟨_, zlw_19, k19 hi h3 (q134 G)⟩
  | 20, _ => exact ⟨_, zlw_20, k20 hi h3 (q135 G hn)⟩
  | 21, _ => exact ⟨_, zlw_21, k21 hi h3 (q136 G)⟩
  | 22, _ => exact ⟨_, zlw_22, k22 hi h3 (q137 G)⟩
  | 23, _ => exact ⟨_, zlw_23, k23 hi h3 (q138 G)⟩
  | 24, _ => exact ⟨_, zlw_24, k24 hi h3 (q140 G)⟩
  | 25, _ => exact ⟨_, zlw_25, k25 hi h3 (q141 G)⟩
  | 26, _ => exact ⟨_, zlw_26, k26 hi h3 (q142 G)⟩
  | 27, _ => exact ⟨_, zlw_27, k27 hi h3 (q143 G)⟩
  | 28, _ => exact ⟨_, zlw_28, k28 hi h3 (q144 G)⟩
  | 29, _ => exact ⟨_, zlw_29, k29 hi h3 (q145 G)⟩
  | 30, _ => exact ⟨_, zlw_30, k30 hi h3 (q146 G)⟩
  | 31, _ => exact ⟨_, zlw_31, k31 hi h3 (q147 G)⟩
  | 32, _ => exact ⟨_, zlw_32, k32 hi h3 (q148 G)⟩
  | 33, _ => exact ⟨_, zlw_33, k33 hi h3 (q149 G)⟩
  | 34, _ => exact ⟨_, zlw_34, k34 hi h3 (q150 G)⟩
  | 35, _ => exact ⟨_, zlw_35, k35 hi h3 (q151 G)⟩
  | 36, _ => exact ⟨_, zlw_36, k36 hi h3 (q152 G)⟩
  | 37, _ => exact ⟨_, zlw_37, k37 hi h3 (q153 G)⟩
  | 38, _ => exact ⟨_, zlw_38, k38 hi h3 (q154 G)⟩
  | 39, _ => exact ⟨_, zlw_39, k39 hi h3 (q155 G)⟩
  | 40, _ => exact ⟨_, zlw_40, k40 hi h3 (q156 G)⟩
  | 41, _ => exact ⟨_, zlw_41, k41 hi h3 (q157 G)⟩
  | 42, _ => exact ⟨_, zlw_42, k42 hi h3 (q158 G)⟩
  | 43, _ => exact ⟨_, zlw_43, k43 hi h3 (q159 G)⟩
  | 44, _ => exact ⟨_, zlw_44, k44 hi h3 (q160 G)⟩
  | 45, _ => exact ⟨_, zlw_45, k45 hi h3 (q162 G)⟩
  | 46, _ => exact ⟨_, zlw_46, k46 hi h3 (q163 G)⟩
  | 47, _ => exact ⟨_, zlw_47, k47 hi h3 (q164 G)⟩
  | 48, _ => exact ⟨_, zlw_48, k48 hi h3 (q110 G)⟩
  | 49, _ => exact ⟨_, zlw_49, k49 hi h3 (q165 G)⟩
  | 50, _ => exact ⟨_, zlw_50, k50 hi h3 (q167 G)⟩
  | q + 51, hq => exact ⟨_, zlw_o (by omega) hq, D, O, k, u6, u7, u8, rfl, ygG_mono G, Or.inl rfl⟩
theorem zrun (h3 : X.1 ≤ 3072) : ∀ d n (D : ZD2) (O : ZO2) (k : Nat × Nat × Nat) (u6 u7 u8 : Value), n ≤ 512 → X.1 < 6 * (n + d + 1) → ygG n D → ∃ S' : ZS, zev X 352 28 [.retAddr 999, .ref 0, .ref 168, .ref 183, .ref 184, .int (zi (6 * n)), u6, u7, u8] [] (zHP D O, k) = some (.inl (some (.int 1)), S') ∧ S'.2.2.1 ≤ k.2.1 + d ∧ S'.2.2.2 ≤ k.2.2 + 6 * d := by
  intro d
  induction d with
  | zero =>
    intro n D O k u6 u7 u8 hn hd G
    refine ⟨(zHP D O, k), ?_, Nat.le_refl _, Nat.le_refl _⟩
    refine (zst_p 2 (pc' := 31) (L' := [.retAddr 999, .ref 0, .ref 168, .ref 183, .ref 184, .int (zi (6 * n)), u6, u7, u8]) (st' := [.retAddr 999, .int (zi (6 * n))]) rfl).trans ((zst_len rfl).trans ((zst_p 2 (pc' := 35) (L' := [.retAddr 999, .ref 0, .ref 168, .ref 183, .ref 184, .int (zi (6 * n)), u6, u7, u8]) (st' := [.int (zi X.1 - zi 6), .int (zi (6 * n))]) rfl).trans ((zc_gt (tgt := 3230) rfl rfl).trans ?_)))
    rw [if_pos (zlt6 h3 (by omega) (by omega))]
    exact (zst_p 1 (pc' := 3231) (L' := [.retAddr 999, .ref 0, .ref 168, .ref 183, .ref 184, .int (zi (6 * n)), u6, u7, u8]) (st' := [.int (1 : Int32)]) rfl).trans (zst_rz rfl rfl rfl)
  | succ d ih =>
    intro n D O k u6 u7 u8 hn hd G
    have head : zev X 352 28 [.retAddr 999, .ref 0, .ref 168, .ref 183, .ref 184, .int (zi (6 * n)), u6, u7, u8] [] (zHP D O, k) = if zi X.1 - zi 6 < zi (6 * n) then zev X 352 3230 [.retAddr 999, .ref 0, .ref 168, .ref 183, .ref 184, .int (zi (6 * n)), u6, u7, u8] [] (zHP D O, k) else zev X 352 38 [.retAddr 999, .ref 0, .ref 168, .ref 183, .ref 184, .int (zi (6 * n)), u6, u7, u8] [] (zHP D O, k) := (zst_p 2 (pc' := 31) (L' := [.retAddr 999, .ref 0, .ref 168, .ref 183, .ref 184, .int (zi (6 * n)), u6, u7, u8]) (st' := [.retAddr 999, .int (zi (6 * n))]) rfl).trans ((zst_len rfl).trans ((zst_p 2 (pc' := 35) (L' := [.retAddr 999, .ref 0, .ref 168, .ref 183, .ref 184, .int (zi (6 * n)), u6, u7, u8]) (st' := [.int (zi X.1 - zi 6), .int (zi (6 * n))]) rfl).trans (zc_gt (tgt := 3230) rfl rfl)))
    by_cases c : 6 * n + 6 ≤ X.1
    · obtain ⟨q, hq, eq⟩ := yand63 (X.2 (6 * n))
      obtain ⟨t, t1, D', O', k', v6, v7, v8, e1, G', hk⟩ := zdo_case (X := X) (i := 6 * n) (n := n) (q := q) (D := D) (O := O) (k := k) (u6 := u6) (u7 := u7) (u8 := u8) c h3 (by omega) hq G
      obtain ⟨S', s1, s2, s3⟩ := ih (n + 1) D' O' k' v6 v7 v8 (by omega) (by omega) G'
      refine ⟨S', ?_, ?_, ?_⟩
      · rw [head, if_neg (zge6 h3 c)]
        refine (zst_p 2 (pc' := 41) (L' := [.retAddr 999, .ref 0, .ref 168, .ref 183, .ref 184, .int (zi (6 * n)), u6, u7, u8]) (st' := [.int (zi (6 * n)), .retAddr 999]) rfl).trans ((zst_sc rfl rfl (by omega) h3).trans ((zst_p 2 (pc' := 45) (L' := [.retAddr 999, .ref 0, .ref 168, .ref 183, .ref 184, .int (zi (6 * n)), u6, u7, u8]) (st' := [.int (X.2 (6 * n) &&& 63)]) rfl).trans (lsw.trans ?_)))
        rw [eq, t1, zbind_some, e1, ← s1]
        refine (zst_p 2 (pc' := 28) (L' := [.retAddr 999, .ref 0, .ref 168, .ref 183, .ref 184, .int (zi (6 * n) + zi 6), v6, v7, v8]) (st' := []) rfl).trans ?_
        rw [zi_add]
        rfl
      · rcases hk with hk | hk
        · rw [hk] at s2; omega
        · rw [hk] at s2; show S'.2.2.1 ≤ k.2.1 + (d + 1); have e : (kt k).2.1 = k.2.1 + 1 := rfl; omega
      · rcases hk with hk | hk
        · rw [hk] at s3; omega
        · rw [hk] at s3; have e : (kt k).2.2 = k.2.2 + 6 := rfl; omega
    · refine ⟨(zHP D O, k), ?_, Nat.le_add_right _ _, Nat.le_add_right _ _⟩
      rw [head, if_pos (zlt6 h3 (by omega) (by omega))]
      exact (zst_p 1 (pc' := 3231) (L' := [.retAddr 999, .ref 0, .ref 168, .ref 183, .ref 184, .int (zi (6 * n)), u6, u7, u8]) (st' := [.int (1 : Int32)]) rfl).trans (zst_rz rfl rfl rfl)
end
