/-! The model reads a text: the settings, the lines, all of it. -/
section
variable {X : ZX} {D : ZD2} {O : ZO2} {k : Nat × Nat × Nat} {n : Nat} {P Q : ZPs} {B : Nat → Int32} {l1 l2 : Int32}
/-- the settings read touch these alone -/
def zFr9 (D D' : ZD2) : Prop := (∀ a, a ≠ 168 → D' a = D a) ∧ ∀ x, x < 21 ∨ 31 < x → D' 168 x = D 168 x
theorem m177h (h : zPx n Q D) (hW : yW n Q) (he : Q.er = 0) (hn : n ≤ 600) (hB : ∀ i, i < n → D 176 i ≠ zn) : ∃ D', zev X 177 123 [.ref 168, .int l1, .int l2] [] (zHP D O, k) = zev X 177 146 [.ref 168, .int l1, .int l2] [] (zHP D' O, k) ∧ zPx n (yLit (D 176) n Q [102, 114, 97, 109, 101, 115]) D' ∧ zFrE D D' := by
  have g0 := b177_123 (X := X) (D := D) (O := O) (k := k) (l1 := l1) (l2 := l2)
  rw [m182_0 h hW hn, decide_eq_true he, Bool.true_and, zcon_inl] at g0
  have g1 := g0.trans b177_130
  unfold yLit
  cases hI : yIs Q [102, 114, 97, 109, 101, 115]
  · obtain ⟨D1, a1, a2, a3⟩ := m183t (X := X) (O := O) (k := k) (c := 1) h hW (by omega)
    rw [hI, if_pos (show zb false = 0 from rfl), zl_1, a1, zcon_inl] at g1
    have gW : yW n (yFail Q 1) := (yFail_ok hW (by omega)).1
    have g' : (yFail Q 1).er ≠ 0 := yFail_ne (by omega)
    have g2 := g1.trans b177_142
    rw [m185e a2 gW g', zcon_inl] at g2
    rw [if_neg Bool.false_ne_true]
    exact ⟨D1, g2, a2, a3⟩
  · rw [hI, if_neg (show ¬ zb true = 0 by decide), zl_0, m183f, zcon_inl] at g1
    obtain ⟨D1, a1, a2, a3⟩ := m185 (X := X) (O := O) (k := k) h hW hn hB
    have g2 := g1.trans b177_142
    rw [a1, zcon_inl] at g2
    have eO : yOn (D 176) n Q = yScan (D 176) n Q := by unfold yOn; rw [if_pos he]
    rw [eO] at a2
    rw [if_pos rfl]
    exact ⟨D1, g2, a2, a3⟩
/-- one setting read and kept -/
theorem m177k {lo hi : Int32} {j c : Nat} (hj : 27 ≤ j) (hj2 : j ≤ 31) (h : zPx n P D) (hW : yW n P) (hn : n ≤ 600) (hB : ∀ i, i < n → D 176 i ≠ zn) : ∃ D' v, zev X 186 0 [.ref 168, .int lo, .int hi, zJ] [] (zHP D O, k) = some (.inl (some (.int v)), (zHP D' O, k)) ∧ zPx n (yNpt (D 176) n P lo hi c) (zw D' 168 j v) ∧ (∀ a, a ≠ 168 → zw D' 168 j v a = D a) ∧ (∀ x, x < 21 ∨ 26 < x → x ≠ j → zw D' 168 j v 168 x = D 168 x) ∧ ((yNpt (D 176) n P lo hi c).er = 0 → v = (yNum (D 176) n P lo hi).1) := by
  obtain ⟨D', v, a1, a2, a3, a4⟩ := m186 (X := X) (O := O) (k := k) (lo := lo) (hi := hi) h hW hn hB
  refine ⟨D', v, a1, ?_, fun a ha => (zw_row ha).trans (a3.1 a ha), fun x hx hne => (zw_ne (by omega)).trans (a3.2 x hx), a4⟩
  exact zPx_T (zPx_w a2 (Or.inr (Or.inr (Or.inr (Or.inr ⟨rfl, Or.inr (Or.inr hj)⟩)))))
theorem m177s (h : zPx n Q D) (hW : yW n Q) (he : Q.er = 0) (hn : n ≤ 600) (hB : ∀ i, i < n → D 176 i ≠ zn) : ∃ D', zev X 177 123 [.ref 168, .int l1, .int l2] [] (zHP D O, k) = zev X 177 205 [.ref 168, .int l1, .int l2] [] (zHP D' O, k) ∧ zPx n (ySet (D 176) n Q) D' ∧ zFr9 D D' ∧ ((ySet (D 176) n Q).er = 0 → D' 168 27 = (ySet (D 176) n Q).T 0 0 ∧ D' 168 28 = (ySet (D 176) n Q).T 0 1 ∧ D' 168 29 = (ySet (D 176) n Q).T 0 2 ∧ D' 168 30 = (ySet (D 176) n Q).T 0 3 ∧ D' 168 31 = (ySet (D 176) n Q).T 0 4) := by
  obtain ⟨D1, a1, a2, a3⟩ := m177h (X := X) (O := O) (k := k) (l1 := l1) (l2 := l2) h hW he hn hB
  have w1 := (yLit_ok (B := D 176) (l := [102, 114, 97, 109, 101, 115]) hW).1
  have b1 : D1 176 = D 176 := a3.1 176 (by omega)
  have eS : ySet (D 176) n Q = yNpt (D 176) n (yNpt (D 176) n (yNpt (D 176) n (yNpt (D 176) n (yNpt (D 176) n (yLit (D 176) n Q [102, 114, 97, 109, 101, 115]) (zi 2) (zi 64) 0) (zi 0) (zi 200) 1) (zi 0) (zi 20) 2) (zi 0) (zi 200) 3) (zi 0) (yNum (D 176) n (yNpt (D 176) n (yNpt (D 176) n (yNpt (D 176) n (yLit (D 176) n Q [102, 114, 97, 109, 101, 115]) (zi 2) (zi 64) 0) (zi 0) (zi 200) 1) (zi 0) (zi 20) 2) (zi 0) (zi 200)).1 4 := rfl
  rw [eS]
  generalize yLit (D 176) n Q [102, 114, 97, 109, 101, 115] = P1 at a2 w1
  obtain ⟨E2, v1, c1, c2, c3, c4, c5⟩ := m177k (X := X) (O := O) (k := k) (lo := zi 2) (hi := zi 64) (j := 27) (c := 0) (by omega) (by omega) a2 w1 hn (by rw [b1]; exact hB)
  rw [b1] at c2 c5
  have b2 : zw E2 168 27 v1 176 = D 176 := (c3 176 (by omega)).trans b1
  have w2 := yNpt_ok (B := D 176) (lo := zi 2) (hi := zi 64) (c := 0) w1
  have t2 := yNpt_T (B := D 176) (lo := zi 2) (hi := zi 64) (c := 0) w1
  generalize hP2 : yNpt (D 176) n P1 (zi 2) (zi 64) 0 = P2 at c2 c5 w2 t2
  obtain ⟨E3, v2, d1, d2, d3, d4, d5⟩ := m177k (X := X) (O := O) (k := k) (lo := zi 0) (hi := zi 200) (j := 28) (c := 1) (by omega) (by omega) c2 w2 hn (by rw [b2]; exact hB)
  rw [b2] at d2 d5
  have b3 : zw E3 168 28 v2 176 = D 176 := (d3 176 (by omega)).trans b2
  have w3 := yNpt_ok (B := D 176) (lo := zi 0) (hi := zi 200) (c := 1) w2
  have t3 := yNpt_T (B := D 176) (lo := zi 0) (hi := zi 200) (c := 1) w2
  have q3 := ySt_npt (B := D 176) (lo := zi 0) (hi := zi 200) (c := 1) w2
  generalize hP3 : yNpt (D 176) n P2 (zi 0) (zi 200) 1 = P3 at d2 d5 w3 t3 q3
  obtain ⟨E4, v3, f1, f2, f3, f4, f5⟩ := m177k (X := X) (O := O) (k := k) (lo := zi 0) (hi := zi 20) (j := 29) (c := 2) (by omega) (by omega) d2 w3 hn (by rw [b3]; exact hB)
  rw [b3] at f2 f5
  have b4 : zw E4 168 29 v3 176 = D 176 := (f3 176 (by omega)).trans b3
  have w4 := yNpt_ok (B := D 176) (lo := zi 0) (hi := zi 20) (c := 2) w3
  have t4 := yNpt_T (B := D 176) (lo := zi 0) (hi := zi 20) (c := 2) w3
  have q4 := ySt_npt (B := D 176) (lo := zi 0) (hi := zi 20) (c := 2) w3
  generalize hP4 : yNpt (D 176) n P3 (zi 0) (zi 20) 2 = P4 at f2 f5 w4 t4 q4
  obtain ⟨E5, v4, g1, g2, g3, g4, g5⟩ := m177k (X := X) (O := O) (k := k) (lo := zi 0) (hi := zi 200) (j := 30) (c := 3) (by omega) (by omega) f2 w4 hn (by rw [b4]; exact hB)
  rw [b4] at g2 g5
  have b5 : zw E5 168 30 v4 176 = D 176 := (g3 176 (by omega)).trans b4
  have w5 := yNpt_ok (B := D 176) (lo := zi 0) (hi := zi 200) (c := 3) w4
  have t5 := yNpt_T (B := D 176) (lo := zi 0) (hi := zi 200) (c := 3) w4
  have q5 := ySt_npt (B := D 176) (lo := zi 0) (hi := zi 200) (c := 3) w4
  generalize hP5 : yNpt (D 176) n P4 (zi 0) (zi 200) 3 = P5 at g2 g5 w5 t5 q5
  generalize hw : (yNum (D 176) n P4 (zi 0) (zi 200)).1 = u4 at g5 t5
  obtain ⟨E6, v5, i1, i2, i3, i4, i5⟩ := m177k (X := X) (O := O) (k := k) (lo := zi 0) (hi := v4) (j := 31) (c := 4) (by omega) (by omega) g2 w5 hn (by rw [b5]; exact hB)
  rw [b5] at i2 i5
  have t6 := yNpt_T (B := D 176) (lo := zi 0) (hi := u4) (c := 4) w5
  have q6 := ySt_npt (B := D 176) (lo := zi 0) (hi := u4) (c := 4) w5
  have q6' := ySt_npt (B := D 176) (lo := zi 0) (hi := v4) (c := 4) w5
  have e30 : zw E5 168 30 v4 168 30 = v4 := zw_self _ _ _ _
  refine ⟨zw E6 168 31 v5, ?_, ?_, ⟨fun a ha => (i3 a ha).trans ((g3 a ha).trans ((f3 a ha).trans ((d3 a ha).trans ((c3 a ha).trans (a3.1 a ha))))), fun x hx => ?_⟩, fun z => ?_⟩
  · refine a1.trans ?_
    refine b177_146.trans ?_
    rw [zl_2, zl_64, c1, zcon_inl]
    refine b177_154.trans ?_
    rw [zl_0, zl_200, d1, zcon_inl]
    refine b177_166.trans ?_
    rw [zl_0, zl_20, f1, zcon_inl]
    refine b177_177.trans ?_
    rw [zl_0, zl_200, g1, zcon_inl]
    refine b177_189.trans ?_
    rw [e30, zl_0, i1, zcon_inl]
    exact b177_202
  · by_cases h5 : P5.er = 0
    · rw [← g5 h5]
      exact i2
    · obtain ⟨y1, y2⟩ := q6 h5
      obtain ⟨y3, y4⟩ := q6' h5
      exact zPx_eq i2 (by rw [y3]; exact h5) (y1.trans y3.symm) (y2.trans y4.symm)
  · rw [i4 x (by omega) (by omega), g4 x (by omega) (by omega), f4 x (by omega) (by omega), d4 x (by omega) (by omega), c4 x (by omega) (by omega), a3.2 x (by omega)]
  · have z5 : P5.er = 0 := ySt_0 q6 z
    have z4 : P4.er = 0 := ySt_0 q5 z5
    have z3 : P3.er = 0 := ySt_0 q4 z4
    have z2 : P2.er = 0 := ySt_0 q3 z3
    have k4 := g5 z5
    rw [k4] at i5
    rw [t6, t5, t4, t3, t2, i4 27 (by omega) (by omega), g4 27 (by omega) (by omega), f4 27 (by omega) (by omega), d4 27 (by omega) (by omega), zw_self, i4 28 (by omega) (by omega), g4 28 (by omega) (by omega), f4 28 (by omega) (by omega), zw_self, i4 29 (by omega) (by omega), g4 29 (by omega) (by omega), zw_self, i4 30 (by omega) (by omega), zw_self, zw_self, c5 z2, d5 z3, f5 z4, k4, i5 z]
    refine ⟨?_, ?_, ?_, ?_, ?_⟩
    · rw [zw_ne (by omega), zw_ne (by omega), zw_ne (by omega), zw_ne (by omega), zw_self]
    · rw [zw_ne (by omega), zw_ne (by omega), zw_ne (by omega), zw_self]
    · rw [zw_ne (by omega), zw_ne (by omega), zw_self]
    · rw [zw_ne (by omega), zw_self]
    · rw [zw_self]
/-- the lines, and the end -/
theorem m177l (hn : n ≤ 600) : ∀ f (P : ZPs) (D : ZD2), zPx n P D → yJ n P → ySn n P → n ≤ f + P.st → (∀ i, i < n → D 176 i ≠ zn) → (P.er = 0 → zRx D P.T ∧ zGd P.T) → ∃ D', zev X 177 205 [.ref 168, .int l1, .int l2] [] (zHP D O, k) = some (.inl none, (zHP D' O, k)) ∧ zPx n (yLs (D 176) n f P) D' ∧ zFrP D D' ∧ ((yLs (D 176) n f P).er = 0 → zRx D' (yLs (D 176) n f P).T ∧ zGd (yLs (D 176) n f P).T) := by
  intro f
  induction f with
  | zero =>
    intro P D h J S hf hB hG
    have hW := J.1
    have e25 := zPx_25 h hW
    have k0 : P.kd = 0 := Decidable.byContradiction fun q => by
      have := S.2.2 q
      have := S.2.1
      omega
    have g0 := b177_205 (X := X) (D := D) (O := O) (k := k) (l1 := l1) (l2 := l2)
    by_cases he : P.er = 0
    · obtain ⟨hm, _⟩ := h.2.2.2 he
      have e23 : D 168 23 = 0 := by rw [hm.2.2.2.1, k0]; rfl
      rw [if_pos (show D 168 25 = 0 by rw [e25]; exact he), if_neg (show ¬ D 168 23 = 3 by rw [e23]; decide)] at g0
      have g1 := g0.trans b177_231
      rw [if_pos e23, zl_0, m183f, zcon_inl] at g1
      exact ⟨D, g1.trans b177_248, h, zFrP_E zFrE_rfl, hG⟩
    · rw [if_neg (show ¬ D 168 25 = 0 by rw [e25]; exact he)] at g0
      have g1 := g0.trans b177_231
      by_cases e23 : D 168 23 = 0
      · rw [if_pos e23, zl_0, m183f, zcon_inl] at g1
        exact ⟨D, g1.trans b177_248, h, zFrP_E zFrE_rfl, hG⟩
      · obtain ⟨D1, a1, a2, a3⟩ := m183t (X := X) (O := O) (k := k) (c := 1) h hW (by omega)
        rw [if_neg e23, zl_1, a1, zcon_inl] at g1
        have eF : yFail P 1 = P := yFail_er he
        rw [eF] at a2
        exact ⟨D1, g1.trans b177_248, a2, zFrP_E a3, fun z => absurd z he⟩
  | succ f ih =>
    intro P D h J S hf hB hG
    have hW := J.1
    have e25 := zPx_25 h hW
    have g0 := b177_205 (X := X) (D := D) (O := O) (k := k) (l1 := l1) (l2 := l2)
    by_cases he : P.er = 0
    · obtain ⟨hm, _⟩ := h.2.2.2 he
      have e23 : D 168 23 = zi P.kd := hm.2.2.2.1
      have k4 := hW.2.1
      rw [if_pos (show D 168 25 = 0 by rw [e25]; exact he)] at g0
      by_cases k3 : P.kd = 3
      · have e23' : D 168 23 = 3 := by rw [e23, k3]; rfl
        rw [if_pos e23'] at g0
        have hx := h.2.2.1
        obtain ⟨D1, a1, a2, a3⟩ := m178 (X := X) (O := O) (k := k) (P := P) hm.1 hm.2.1 hn hW.1 hB
        have s1 := yScan_ok (B := D 176) hW
        have b1 : D1 176 = D 176 := a3.1 176 (by omega)
        have s0 : (yScan (D 176) n P).er = 0 := by rw [s1.2.2.1]; exact he
        have x1 : zPx n (yScan (D 176) n P) D1 := ⟨by rw [a3.2 25 (by omega), s1.2.2.1]; exact h.1, by rw [a3.2 26 (by omega), s1.2.2.2]; exact h.2.1, by rw [a3.2 20 (by omega)]; exact h.2.2.1, fun _ => ⟨a2, by rw [b1]; exact zWd_scan hW.1⟩⟩
        rw [a1, zcon_inl] at g0
        have g1 := g0.trans b177_224
        obtain ⟨R, G⟩ := hG he
        have l1' : yLn (yScan (D 176) n P) := yLn_T (J.2.2 he) s1.2.1
        obtain ⟨D2, c1, c2, c3, c4⟩ := m188 (X := X) (O := O) (k := k) x1 s1.1 s0 hn (by rw [b1]; exact hB) (by rw [s1.2.1]; exact zRx_E R (zFrE_N a3)) (by rw [s1.2.1]; exact G) l1'
        rw [b1] at c2 c4
        have eL : yLn1 (D 176) n (yScan (D 176) n P) = yLine (D 176) n P := by rw [yLine_1, if_pos k3]
        rw [eL] at c2 c4
        rw [c1, zcon_inl] at g1
        have g2 := g1.trans b177_228
        obtain ⟨sA, sB⟩ := yLine_sn (B := D 176) S
        have b2 : D2 176 = D 176 := (c3.1 176 (by omega) (by omega) (by omega) (by omega) (by omega)).trans b1
        have := sB k3
        obtain ⟨D3, d1, d2, d3, d4⟩ := ih (yLine (D 176) n P) D2 c2 (yLine_j hW (J.2.2 he) J.2.1) sA (by omega) (by rw [b2]; exact hB) c4
        rw [b2] at d2 d4
        have eY : yLs (D 176) n (f + 1) P = yLs (D 176) n f (yLine (D 176) n P) := if_pos ⟨by omega, he⟩
        rw [eY]
        exact ⟨D3, g2.trans d1, d2, zFrP_tr (zFrP_E (zFrE_N a3)) (zFrP_tr c3 d3), d4⟩
      · have e23' : ¬ D 168 23 = 3 := by rw [e23, zl_3, zi_inj (by omega) (by omega)]; exact k3
        rw [if_neg e23'] at g0
        have g1 := g0.trans b177_231
        by_cases k0 : P.kd = 0
        · rw [if_pos (show D 168 23 = 0 by rw [e23, k0]; rfl), zl_0, m183f, zcon_inl] at g1
          have eY : yLs (D 176) n (f + 1) P = P := if_neg fun q => q.1 k0
          rw [eY]
          exact ⟨D, g1.trans b177_248, h, zFrP_E zFrE_rfl, hG⟩
        · obtain ⟨D1, a1, a2, a3⟩ := m183t (X := X) (O := O) (k := k) (c := 1) h hW (by omega)
          rw [if_neg (show ¬ D 168 23 = 0 by rw [e23, zl_0, zi_inj (by omega) (by omega)]; exact k0), zl_1, a1, zcon_inl] at g1
          have g' : (yFail P 1).er ≠ 0 := yFail_ne (by omega)
          have eL : yLine (D 176) n P = yFail P 1 := by rw [yLine_1, if_neg k3]
          have eY : yLs (D 176) n (f + 1) P = yFail P 1 := by
            have e1 : yLs (D 176) n (f + 1) P = yLs (D 176) n f (yLine (D 176) n P) := if_pos ⟨k0, he⟩
            rw [e1, eL]
            cases f with
            | zero => rfl
            | succ f => exact if_neg fun q => g' q.2
          rw [eY]
          exact ⟨D1, g1.trans b177_248, a2, zFrP_E a3, fun z => absurd z g'⟩
    · have eY : yLs (D 176) n (f + 1) P = P := if_neg fun q => he q.2
      rw [eY]
      rw [if_neg (show ¬ D 168 25 = 0 by rw [e25]; exact he)] at g0
      have g1 := g0.trans b177_231
      by_cases e23 : D 168 23 = 0
      · rw [if_pos e23, zl_0, m183f, zcon_inl] at g1
        exact ⟨D, g1.trans b177_248, h, zFrP_E zFrE_rfl, hG⟩
      · obtain ⟨D1, a1, a2, a3⟩ := m183t (X := X) (O := O) (k := k) (c := 1) h hW (by omega)
        rw [if_neg e23, zl_1, a1, zcon_inl] at g1
        have eF : yFail P 1 = P := yFail_er he
        rw [eF] at a2
        exact ⟨D1, g1.trans b177_248, a2, zFrP_E a3, fun z => absurd z he⟩
/-- the model reads a text as the class does -/
theorem m177 (hn : n ≤ 600) (hB : ∀ i, i < n → D 176 i ≠ zn) : ∃ D', zev X 177 0 [.ref 168, .int (zi n), zJ] [] (zHP D O, k) = some (.inl none, (zHP D' O, k)) ∧ D' 168 25 = zi (yParse (D 176) n).er ∧ D' 168 26 = (yParse (D 176) n).ep ∧ zFrP D D' ∧ ((yParse (D 176) n).er = 0 → zRx D' (yParse (D 176) n).T ∧ zGd (yParse (D 176) n).T) := by
  have g0 := b177_0 (X := X) (D := D) (O := O) (k := k) (l1 := zi n)
  rw [zl_0, zn_l] at g0
  generalize hE : zw (zw (zw (zw (zw (zw D 168 20 (zi n)) 168 21 (zi 0)) 168 25 (zi 0)) 168 26 zn) 168 32 (zi 0)) 168 33 (zi 0) = E at g0
  have eo : ∀ a, a ≠ 168 → E a = D a := fun a ha => by rw [← hE, zw_row ha, zw_row ha, zw_row ha, zw_row ha, zw_row ha, zw_row ha]
  have ex : ∀ x, x < 20 ∨ 33 < x → E 168 x = D 168 x := fun x hx => by rw [← hE, zw_ne (by omega), zw_ne (by omega), zw_ne (by omega), zw_ne (by omega), zw_ne (by omega), zw_ne (by omega)]
  have e20 : E 168 20 = zi n := by rw [← hE, zw_ne (by omega), zw_ne (by omega), zw_ne (by omega), zw_ne (by omega), zw_ne (by omega), zw_self]
  have e21 : E 168 21 = zi 0 := by rw [← hE, zw_ne (by omega), zw_ne (by omega), zw_ne (by omega), zw_ne (by omega), zw_self]
  have e25 : E 168 25 = zi 0 := by rw [← hE, zw_ne (by omega), zw_ne (by omega), zw_ne (by omega), zw_self]
  have e26 : E 168 26 = zn := by rw [← hE, zw_ne (by omega), zw_ne (by omega), zw_self]
  have e32 : E 168 32 = zi 0 := by rw [← hE, zw_ne (by omega), zw_self]
  have e33 : E 168 33 = zi 0 := by rw [← hE, zw_self]
  obtain ⟨F, a1, a2, a3⟩ := m177r (X := X) (D := E) (O := O) (k := k) (l1 := zi n)
  have f168 : F 168 = E 168 := a2 168 (by omega)
  have f176 : F 176 = D 176 := (a2 176 (by omega)).trans (eo 176 (by omega))
  obtain ⟨D1, c1, c2, c3⟩ := m178 (X := X) (D := F) (O := O) (k := k) (P := yBeg) (n := n) (by rw [f168]; exact e20) (by rw [f168]; exact e21) hn (Nat.zero_le _) (by rw [f176]; exact hB)
  have d176 : D1 176 = D 176 := (c3.1 176 (by omega)).trans f176
  rw [f176] at c2
  have s1 := yScan_ok (B := D 176) (yBeg_W (n := n))
  have s0 : (yScan (D 176) n yBeg).er = 0 := s1.2.2.1
  have sp : (yScan (D 176) n yBeg).ep = zn := s1.2.2.2
  have x1 : zPx n (yScan (D 176) n yBeg) D1 := ⟨by rw [c3.2 25 (by omega), f168, s0]; exact e25, by rw [c3.2 26 (by omega), f168, sp]; exact e26, by rw [c3.2 20 (by omega), f168]; exact e20, fun _ => ⟨c2, by rw [d176]; exact zWd_scan (Nat.zero_le _)⟩⟩
  obtain ⟨D2, d1, d2, d3, d4⟩ := m177s (X := X) (O := O) (k := k) (l1 := zi n) (l2 := zi 6) x1 s1.1 s0 hn (by rw [d176]; exact hB)
  rw [d176] at d2 d4
  have b2 : D2 176 = D 176 := (d3.1 176 (by omega)).trans d176
  have sn0 := (yScan_sn (B := D 176) (n := n) (P := yBeg) (Nat.zero_le _)).1
  have sn := (yOk_set (B := D 176) sn0).1
  have J := ySet_jb (B := D 176) (n := n)
  have x168 : ∀ x, x = 32 ∨ x = 33 ∨ x < 20 ∨ 33 < x → D2 168 x = E 168 x := fun x hx => by
    rw [d3.2 x (by omega), c3.2 x (by omega), f168]
  have hG : (ySet (D 176) n (yScan (D 176) n yBeg)).er = 0 → zRx D2 (ySet (D 176) n (yScan (D 176) n yBeg)).T ∧ zGd (ySet (D 176) n (yScan (D 176) n yBeg)).T := fun z => by
    obtain ⟨a, b, c, w, l, t1, t2, t3, t4, t5, t6, t7⟩ := ySet_0 (B := D 176) s1.1 s1.2.1 z
    have tU : (ySet (D 176) n (yScan (D 176) n yBeg)).T = uSet a b c w l := t1
    obtain ⟨y1, y2, y3, y4, y5⟩ := d4 z
    rw [tU] at y1 y2 y3 y4 y5 ⊢
    have u00 : uSet a b c w l 0 0 = zi a := by unfold uSet; rw [zw_ne (by omega), zw_ne (by omega), zw_ne (by omega), zw_ne (by omega), zw_self]
    have u01 : uSet a b c w l 0 1 = zi b := by unfold uSet; rw [zw_ne (by omega), zw_ne (by omega), zw_ne (by omega), zw_self]
    have u02 : uSet a b c w l 0 2 = zi c := by unfold uSet; rw [zw_ne (by omega), zw_ne (by omega), zw_self]
    have u03 : uSet a b c w l 0 3 = zi w := by unfold uSet; rw [zw_ne (by omega), zw_self]
    have u04 : uSet a b c w l 0 4 = zi l := by unfold uSet; rw [zw_self]
    refine ⟨zRx_set (fun j hj => ?_) (y1.trans u00) (y2.trans u01) (y3.trans u02) (y4.trans u03) (y5.trans u04) ((x168 32 (by omega)).trans e32) ((x168 33 (by omega)).trans e33) t3 t5 t6 t7, (zGd_set t3 t5 t6 t7).1⟩
    rw [d3.1 177 (by omega), c3.1 177 (by omega)]
    exact a3 j hj
  obtain ⟨D3, f1, f2, f3, f4⟩ := m177l (X := X) (O := O) (k := k) (l1 := zi n) (l2 := zi 6) hn n _ D2 d2 J sn (by omega) (by rw [b2]; exact hB) hG
  rw [b2] at f2 f4
  refine ⟨D3, ?_, f2.1, f2.2.1, ⟨fun a h1 h2 h3 h4 h5 => ?_, fun x hx => ?_⟩, f4⟩
  · refine g0.trans (a1.trans ?_)
    refine b177_96.trans ?_
    rw [if_neg (show ¬ zi 6 < 6 by decide), c1, zcon_inl]
    exact d1.trans f1
  · rw [f3.1 a h1 h2 h3 h4 h5, d3.1 a h1, c3.1 a h1, a2 a h2, eo a h1]
  · rw [f3.2 x hx, x168 x (by omega), ex x hx]
end
