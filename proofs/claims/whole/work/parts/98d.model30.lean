/-! The model's parser: a run line, all of it. -/
section
variable {X : ZX} {D : ZD2} {O : ZO2} {k : Nat × Nat × Nat} {n : Nat} {P Q : ZPs} {B : Nat → Int32}
theorem zPx_178 {j : Nat} {v : Int32} (h : zPx n P D) : zPx n P (zw D 178 j v) := zPx_w h (Or.inr (Or.inl rfl))
theorem zPx_cg {D' : ZD2} (h : zPx n P D) (h1 : D' 168 = D 168) (h2 : D' 176 = D 176) : zPx n P D' := by
  unfold zPx zPm at h ⊢
  rw [h1, h2]
  exact h
/-- a run line that has failed, from the name on -/
theorem m189f {np : Nat} (h : zPx n Q D) (hW : yW n Q) (he : Q.er ≠ 0) (hn : n ≤ 600) (hB : ∀ i, i < n → D 176 i ≠ zn) : ∃ D', zev X 189 59 [.ref 168, .int (zi np), zJ, zJ, zJ] [] (zHP D O, k) = some (.inl none, (zHP D' O, k)) ∧ zPx n Q D' ∧ zFrE D D' := by
  have q : ¬ D 168 25 = 0 := by rw [zPx_25 h hW]; exact he
  obtain ⟨D', a, b, c⟩ := m189e (X := X) (O := O) (k := k) (l1 := zi np) (l2 := 0) h hW he hn hB
  refine ⟨D', ?_, b, c⟩
  refine b189_59.trans ?_
  refine b189_61.trans ?_
  rw [if_pos (show (0 : Int32) < 6 by decide), if_neg q, m185e h hW he, zcon_inl]
  exact a
theorem ySt_wT {P Q : ZPs} {U : ZD2} (h : ySt P Q) : ySt P (Q.wT U) := h
theorem yRun_st (hW : yW n P) (h6 : sNp P.T < 6) : ySt (yRunA B n P).2 (yRun B n P) := by
  have sS := yScan_ok (B := B) hW
  have sA : yW n (yRunA B n P).2 ∧ (yRunA B n P).2.T = _ := yFresh_ok (B := B) sS.1
  have sB : yW n (yRunB B n P).2 ∧ (yRunB B n P).2.T = _ := yNum_ok (B := B) sA.1
  have t1 : ySt (yRunA B n P).2 (yRunB B n P).2 := ySt_num sA.1
  have t2 : ySt (yRunB B n P).2 (yRunC B n P).2 := ySt_num sB.1
  have t3 := (yRunD_ok (B := B) hW).2.2.2.2.2
  unfold yRun
  rw [if_pos h6]
  exact ySt_wT (ySt_tr t1 (ySt_tr t2 t3))
theorem m189g {D2 : ZD2} (hW : yW n P) (he : P.er = 0) (hn : n ≤ 600) (hB : ∀ i, i < n → D 176 i ≠ zn) (R : zRx D P.T) (G : zGd P.T) (h6 : sNp P.T < 6) (fr2 : zFrE D D2) (c2 : zPx n (yScan (D 176) n P) D2) (hk : (yScan (D 176) n P).kd = 1) (hz : yNamed (yScan (D 176) n P) = zn) : ∃ D', zev X 189 61 [.ref 168, .int (zi (sNp P.T)), .int (zi 0), zJ, zJ] [] (zHP D2 O, k) = some (.inl none, (zHP D' O, k)) ∧ zPx n (yRun (D 176) n P) D' ∧ zFrP D D' ∧ ((yRun (D 176) n P).er = 0 → zRx D' (yRun (D 176) n P).T ∧ zGd (yRun (D 176) n P).T) := by
  have s1 := yScan_ok (B := D 176) hW
  have s0 : (yScan (D 176) n P).er = 0 := by rw [s1.2.2.1]; exact he
  have wA : yW n (yRunA (D 176) n P).2 ∧ (yRunA (D 176) n P).2.T = _ := yFresh_ok (B := D 176) s1.1
  have b2 : D2 176 = D 176 := fr2.1 176 (by omega)
  have e32 : D 168 32 = zi (sNp P.T) := R.1.2.2.2.2.2
  have eA2 : yRunA (D 176) n P = ((yScan (D 176) n P).va, yScan (D 176) n (yScan (D 176) n P)) := by
    have eA : yRunA (D 176) n P = yFresh (D 176) n (yScan (D 176) n P) := rfl
    rw [eA]
    unfold yFresh
    rw [if_pos hk, if_pos hz]
  obtain ⟨hm, hw⟩ := c2.2.2.2 s0
  obtain ⟨w1, w2, w3, w4⟩ := hw hk
  have hnx := s1.1.1
  have q25 : D2 168 25 = 0 := by rw [zPx_25 c2 s1.1]; exact s0
  obtain ⟨D3, d1, d2, d3⟩ := m189l (X := X) (O := O) (k := k) (np := sNp P.T) (st := (yScan (D 176) n P).st) (nx := (yScan (D 176) n P).nx) h6 hn hnx (by omega) 6 0 D2 rfl q25 hm.1 hm.2.1 hm.2.2.1
  have x3 : zPx n (yScan (D 176) n P) D3 := zPx_cg c2 (d2 168 (by omega)) (d2 176 (by omega))
  have b3 : D3 176 = D 176 := (d2 176 (by omega)).trans b2
  obtain ⟨D4, f1, f2, f3⟩ := m185 (X := X) (O := O) (k := k) x3 s1.1 hn (by rw [b3]; exact hB)
  have eO2 : yOn (D3 176) n (yScan (D 176) n P) = (yRunA (D 176) n P).2 := by
    unfold yOn
    rw [if_pos s0, b3, eA2]
  rw [eO2] at f2
  have b4 : D4 176 = D 176 := (f3.1 176 (by omega)).trans b3
  obtain ⟨D5, v5, g1, g2, g3, g4⟩ := m186 (X := X) (O := O) (k := k) (lo := zi 1) (hi := zi 99) f2 wA.1 hn (by rw [b4]; exact hB)
  have eB : yNum (D4 176) n (yRunA (D 176) n P).2 (zi 1) (zi 99) = yRunB (D 176) n P := by rw [b4]; rfl
  rw [eB] at g2 g4
  have b5 : D5 176 = D 176 := (g3.1 176 (by omega)).trans b4
  have wB : yW n (yRunB (D 176) n P).2 ∧ (yRunB (D 176) n P).2.T = _ := yNum_ok (B := D 176) wA.1
  obtain ⟨D6, v6, i1, i2, i3, i4⟩ := m186 (X := X) (O := O) (k := k) (lo := zi 1) (hi := zi 12) g2 wB.1 hn (by rw [b5]; exact hB)
  have eC : yNum (D5 176) n (yRunB (D 176) n P).2 (zi 1) (zi 12) = yRunC (D 176) n P := by rw [b5]; rfl
  rw [eC] at i2 i4
  have b6 : D6 176 = D 176 := (i3.1 176 (by omega)).trans b5
  obtain ⟨wC, tC, wD, tD, stC, stD⟩ := yRunD_ok (B := D 176) hW
  have k182 := m182_4 (X := X) (O := O) (k := k) i2 wC hn
  have fr6 : zFrE D3 D6 := zFrE_tr f3 (zFrE_tr g3 i3)
  -- up to the end
  have tail : ∃ D7 v7, zev X 189 61 [.ref 168, .int (zi (sNp P.T)), .int (zi 0), zJ, zJ] [] (zHP D2 O, k) = zev X 189 163 [.ref 168, .int (zi (sNp P.T)), .int v5, .int v6, .int v7] [] (zHP D7 O, k) ∧ zPx n (yRunD (D 176) n P).2 D7 ∧ zFrE D3 D7 ∧ ((yRunD (D 176) n P).2.er = 0 → v7 = (yRunD (D 176) n P).1) := by
    have first : zev X 189 61 [.ref 168, .int (zi (sNp P.T)), .int (zi 0), zJ, zJ] [] (zHP D2 O, k) = zev X 189 147 [.ref 168, .int (zi (sNp P.T)), .int v5, .int v6, .int 0] [.int (zb (decide ((yRunC (D 176) n P).2.er = 0) && yIs (yRunC (D 176) n P).2 [98, 108, 117, 102, 102]))] (zHP D6 O, k) := by
      refine d1.trans (b189_61.trans ?_)
      rw [if_neg (show ¬ zi 6 < 6 by decide), f1, zcon_inl]
      refine b189_122.trans ?_
      rw [zl_1, zl_99, g1, zcon_inl]
      refine b189_129.trans ?_
      rw [zl_1, zl_12, i1, zcon_inl]
      refine b189_137.trans ?_
      rw [k182, zcon_inl]
      rfl
    rw [first]
    have g147 := b189_147 (X := X) (D := D6) (O := O) (k := k) (l1 := zi (sNp P.T)) (l2 := v5) (l3 := v6) (l4 := 0) (s0 := zb (decide ((yRunC (D 176) n P).2.er = 0) && yIs (yRunC (D 176) n P).2 [98, 108, 117, 102, 102]))
    have eD : yRunD (D 176) n P = if yIs (yRunC (D 176) n P).2 [98, 108, 117, 102, 102] = true then yNum (D 176) n (yScan (D 176) n (yRunC (D 176) n P).2) (zi 0) (zi 99) else (zi 0, (yRunC (D 176) n P).2) := rfl
    by_cases hC : (yRunC (D 176) n P).2.er = 0
    · rw [decide_eq_true hC, Bool.true_and] at g147
      rw [decide_eq_true hC, Bool.true_and]
      cases hI : yIs (yRunC (D 176) n P).2 [98, 108, 117, 102, 102]
      · rw [hI, if_neg Bool.false_ne_true] at eD
        rw [hI, if_pos (show zb false = 0 from rfl)] at g147
        refine ⟨D6, 0, g147, ?_, fr6, fun _ => ?_⟩
        · rw [eD]; exact i2
        · rw [eD]; rfl
      · rw [hI, if_pos rfl] at eD
        rw [hI, if_neg (show ¬ zb true = 0 by decide)] at g147
        obtain ⟨D7, j1, j2, j3⟩ := m185 (X := X) (O := O) (k := k) i2 wC hn (by rw [b6]; exact hB)
        have eO3 : yOn (D6 176) n (yRunC (D 176) n P).2 = yScan (D 176) n (yRunC (D 176) n P).2 := by
          unfold yOn
          rw [if_pos hC, b6]
        rw [eO3] at j2
        have b7 : D7 176 = D 176 := (j3.1 176 (by omega)).trans b6
        have sW := yScan_ok (B := D 176) wC
        obtain ⟨D8, v8, k1, k2, k3, k4⟩ := m186 (X := X) (O := O) (k := k) (lo := zi 0) (hi := zi 99) j2 sW.1 hn (by rw [b7]; exact hB)
        rw [b7, ← eD] at k2 k4
        refine ⟨D8, v8, ?_, k2, zFrE_tr fr6 (zFrE_tr j3 k3), k4⟩
        refine g147.trans ?_
        rw [j1, zcon_inl]
        refine b189_154.trans ?_
        rw [zl_0, zl_99, k1, zcon_inl]
        exact b189_161
    · rw [decide_eq_false hC, if_pos (show zb (false && yIs (yRunC (D 176) n P).2 [98, 108, 117, 102, 102]) = 0 from rfl)] at g147
      rw [decide_eq_false hC]
      obtain ⟨z1, z2⟩ := stD hC
      exact ⟨D6, 0, g147, zPx_eq i2 hC z1 z2, fr6, fun z => absurd (z1.symm.trans z) hC⟩
  obtain ⟨D7, v7, t1, t2, t3, t4⟩ := tail
  rw [t1]
  have frP : zFrP D D7 := by
    refine zFrP_tr (zFrP_E fr2) (zFrP_tr ?_ (zFrP_E t3))
    exact ⟨fun a _ _ b _ _ => d2 a b, fun x _ => by rw [d2 168 (by omega)]⟩
  have e257 := zPx_25 t2 wD
  have g163 := b189_163 (X := X) (D := D7) (O := O) (k := k) (l1 := zi (sNp P.T)) (l2 := v5) (l3 := v6) (l4 := v7)
  have eR : yRun (D 176) n P = (yRunD (D 176) n P).2.wT (uAdd (yRunD (D 176) n P).2.T (sNp P.T) (yRunA (D 176) n P).1 (yRunB (D 176) n P).1 (yRunC (D 176) n P).1 (yRunD (D 176) n P).1) := by
    unfold yRun
    rw [if_pos h6]
  by_cases hD : (yRunD (D 176) n P).2.er = 0
  · have q257 : D7 168 25 = 0 := by rw [e257]; exact hD
    have hC : (yRunC (D 176) n P).2.er = 0 := ySt_0 stD hD
    have hBe : (yRunB (D 176) n P).2.er = 0 := ySt_0 (ySt_num wB.1) hC
    obtain ⟨pr, p1, _, _, p3⟩ := yNum_v (B := D 176) (n := n) (P := (yRunA (D 176) n P).2) (lo := 1) (hi := 99) (by omega) (by omega) hBe
    obtain ⟨m, m1, _, _, m3⟩ := yNum_v (B := D 176) (n := n) (P := (yRunB (D 176) n P).2) (lo := 1) (hi := 12) (by omega) (by omega) hC
    have p1' : (yRunB (D 176) n P).1 = zi pr := p1
    have m1' : (yRunC (D 176) n P).1 = zi m := m1
    have h5 : v5 = zi pr := (g4 hBe).trans p1'
    have h6' : v6 = zi m := (i4 hC).trans m1'
    have h7 := t4 hD
    subst h5 h6' h7
    have nb : ¬ (zi (sNp P.T) < 0 ∨ 6 ≤ (zi (sNp P.T)).toNatClampNeg) := by rw [zl_0, zi_lt (by omega) (by omega), zi_toNat (by omega)]; omega
    have x0 : (10 : Int32) + 6 * zi (sNp P.T) + 0 = zi (10 + 6 * sNp P.T) := by rw [zl_10, zl_6, zl_0, zi_mul, zi_add, zi_add]; rfl
    have x2 : (10 : Int32) + 6 * zi (sNp P.T) + 2 = zi (10 + 6 * sNp P.T + 2) := by rw [zl_10, zl_6, zl_2, zi_mul, zi_add, zi_add]
    have nb0 : ¬ (zi (10 + 6 * sNp P.T) < 0 ∨ 540 ≤ (zi (10 + 6 * sNp P.T)).toNatClampNeg) := by rw [zl_0, zi_lt (by omega) (by omega), zi_toNat (by omega)]; omega
    have nb2 : ¬ (zi (10 + 6 * sNp P.T + 2) < 0 ∨ 540 ≤ (zi (10 + 6 * sNp P.T + 2)).toNatClampNeg) := by rw [zl_0, zi_lt (by omega) (by omega), zi_toNat (by omega)]; omega
    have d3' : ∀ a, a ≠ 168 → a ≠ 178 → D7 a = D a := fun a h1 h2 => (t3.1 a h1).trans ((d2 a h2).trans (fr2.1 a h1))
    have f168 : ∀ x, 26 < x → D7 168 x = D 168 x := fun x hx => by rw [t3.2 x (by omega), d2 168 (by omega), fr2.2 x (by omega)]
    have e32' : zw (zw (zw (zw D7 179 (sNp P.T) (zi m)) 180 (sNp P.T) (yRunD (D 176) n P).1) 177 (10 + 6 * sNp P.T) (zi pr)) 177 (10 + 6 * sNp P.T + 2) 50 168 32 = zi (sNp P.T) := by
      rw [zw_row (by omega), zw_row (by omega), zw_row (by omega), zw_row (by omega), f168 32 (by omega)]
      exact e32
    rw [if_pos q257, if_neg nb, if_neg nb, x0, x2, if_neg nb0, if_neg nb2, zi_toNat (by omega), zi_toNat (by omega), zi_toNat (by omega), e32', zl_1, zi_add, zl_50] at g163
    obtain ⟨⟨r1, r2, r3, r4, r5, r6⟩, ⟨r7, r7u⟩, r8, r9, hh, r10, r11⟩ := R
    have lsn : zNm (yWl (D 176) (yScan (D 176) n P).st (yScan (D 176) n P).nx) := ⟨by rw [yWl_len]; omega, by rw [yWl_len]; omega, yWl_lt (by rw [b2] at w3; exact w3)⟩
    have nA : (yRunA (D 176) n P).1 = zi (yPk (yWl (D 176) (yScan (D 176) n P).st (yScan (D 176) n P).nx)) := by
      rw [eA2]
      rw [b2] at w4
      exact w4
    have e178 : D7 178 = D3 178 := t3.1 178 (by omega)
    have D2178 : D2 178 = D 178 := fr2.1 178 (by omega)
    have key := zRx_add (D := D7) (T := P.T) (ls := yWl (D 176) (yScan (D 176) n P).st (yScan (D 176) n P).nx) (pr := pr) (m := m) (d := (yRunD (D 176) n P).1) G h6 lsn ⟨by rw [f168 27 (by omega)]; exact r1, by rw [f168 28 (by omega)]; exact r2, by rw [f168 29 (by omega)]; exact r3, by rw [f168 30 (by omega)]; exact r4, by rw [f168 31 (by omega)]; exact r5⟩ (by rw [d3' 179 (by omega) (by omega), d3' 180 (by omega) (by omega)]; exact r7) (by rw [d3' 177 (by omega) (by omega)]; exact r7u) (by rw [d3' 177 (by omega) (by omega)]; exact r8) (by
      intro p hp
      obtain ⟨ls, y1, y2, y3⟩ := r9 p hp
      refine ⟨ls, y1, y2, fun i hi => ?_⟩
      rw [e178, d3, if_neg (by omega), D2178]
      exact y3 i hi) (by
      intro i hi
      rw [e178, d3, if_pos (by omega), show 6 * sNp P.T + i - 6 * sNp P.T = i by omega, b2]
      exact (yWl_get (i := i) (by rw [b2] at w3; exact w3)).symm) ⟨hh, r10, by rw [f168 33 (by omega)]; exact r11⟩ p3 m3
    refine ⟨_, g163, ?_, ?_, fun _ => ?_⟩
    · rw [eR]
      exact zPx_T (zPx_w (zPx_w (zPx_w (zPx_w (zPx_w t2 (Or.inr (Or.inr (Or.inl rfl)))) (Or.inr (Or.inr (Or.inr (Or.inl rfl))))) (Or.inl rfl)) (Or.inl rfl)) (Or.inr (Or.inr (Or.inr (Or.inr ⟨rfl, Or.inr (Or.inl rfl)⟩)))))
    · refine zFrP_tr frP ⟨fun a y1 y2 y3 y4 y5 => ?_, fun x hx => ?_⟩
      · rw [zw_row y1, zw_row y2, zw_row y2, zw_row y5, zw_row y4]
      · rw [zw_ne (by omega), zw_row (by omega), zw_row (by omega), zw_row (by omega), zw_row (by omega)]
    · rw [eR, T_wT, tD, nA, p1', m1']
      exact key
  · have q257 : ¬ D7 168 25 = 0 := by rw [e257]; exact hD
    rw [if_neg q257] at g163
    refine ⟨D7, g163, ?_, frP, fun z => ?_⟩
    · rw [eR]
      exact zPx_T t2
    · rw [eR] at z
      exact absurd z hD
theorem m189 (h : zPx n P D) (hW : yW n P) (he : P.er = 0) (hn : n ≤ 600) (hB : ∀ i, i < n → D 176 i ≠ zn) (R : zRx D P.T) (G : zGd P.T) (hl : yLn P) : ∃ D', zev X 189 0 [.ref 168, zJ, zJ, zJ, zJ] [] (zHP D O, k) = some (.inl none, (zHP D' O, k)) ∧ zPx n (yRun (D 176) n P) D' ∧ zFrP D D' ∧ ((yRun (D 176) n P).er = 0 → zRx D' (yRun (D 176) n P).T ∧ zGd (yRun (D 176) n P).T) := by
  have n6 := hl.2.1
  have e25 := zPx_25 h hW
  have q0 : D 168 25 = 0 := by rw [e25]; exact he
  have e32 : D 168 32 = zi (sNp P.T) := R.1.2.2.2.2.2
  by_cases h6 : sNp P.T < 6
  · have q32 : ¬ D 168 32 = 6 := by rw [e32, zl_6, zi_inj (by omega) (by omega)]; omega
    obtain ⟨D1, a1, a2, a3⟩ := m185 (X := X) (O := O) (k := k) h hW hn hB
    have eO : yOn (D 176) n P = yScan (D 176) n P := by unfold yOn; rw [if_pos he]
    rw [eO] at a2
    have s1 := yScan_ok (B := D 176) hW
    have l1 := yLn_T hl s1.2.1
    have b1 : D1 176 = D 176 := a3.1 176 (by omega)
    have R1 := zRx_E R a3
    have q32' : D1 168 32 < 6 := by rw [a3.2 32 (by omega), e32, zl_6, zi_lt (by omega) (by omega)]; exact h6
    have hR1 : zRx D1 (yScan (D 176) n P).T := by rw [s1.2.1]; exact R1
    obtain ⟨D2, v, c1, c2, c3, c4, c5⟩ := m190 (X := X) (O := O) (k := k) a2 s1.1 hn fun _ => ⟨hR1.1.2.2.2.2.2, l1.2.1, hR1.2.2.2.1⟩
    have fr2 : zFrE D D2 := zFrE_tr a3 c3
    have b2 : D2 176 = D 176 := fr2.1 176 (by omega)
    have start : zev X 189 0 [.ref 168, zJ, zJ, zJ, zJ] [] (zHP D O, k) = zev X 189 46 [.ref 168, .int (zi (sNp P.T)), zJ, zJ, zJ] [.int v, .ref 168] (zHP D2 O, k) := by
      refine b189_0.trans ?_
      rw [if_neg q32, zl_0, m183f, zcon_inl]
      refine b189_19.trans ?_
      rw [a1, zcon_inl]
      refine b189_23.trans ?_
      rw [if_pos q32', a3.2 32 (by omega), e32, c1, zcon_inl]
      rfl
    rw [start]
    have st := yRun_st (B := D 176) hW h6
    have wA : yW n (yRunA (D 176) n P).2 ∧ (yRunA (D 176) n P).2.T = _ := yFresh_ok (B := D 176) s1.1
    have eA : yRunA (D 176) n P = yFresh (D 176) n (yScan (D 176) n P) := rfl
    have LW := yWrd_ok s1.1
    -- what has failed by now
    have bad : ∀ D3 : ZD2, (yRunA (D 176) n P).2.er ≠ 0 → zPx n (yRunA (D 176) n P).2 D3 → zFrE D2 D3 → ∃ D', zev X 189 59 [.ref 168, .int (zi (sNp P.T)), zJ, zJ, zJ] [] (zHP D3 O, k) = some (.inl none, (zHP D' O, k)) ∧ zPx n (yRun (D 176) n P) D' ∧ zFrP D D' ∧ ((yRun (D 176) n P).er = 0 → zRx D' (yRun (D 176) n P).T ∧ zGd (yRun (D 176) n P).T) := by
      intro D3 x1 x2 x3
      have b3 : D3 176 = D 176 := (x3.1 176 (by omega)).trans b2
      obtain ⟨D4, y1, y2, y3⟩ := m189f (X := X) (O := O) (k := k) (np := sNp P.T) x2 wA.1 x1 hn (by rw [b3]; exact hB)
      obtain ⟨z1, z2⟩ := st x1
      exact ⟨D4, y1, zPx_eq y2 x1 z1 z2, zFrP_E (zFrE_tr fr2 (zFrE_tr x3 y3)), fun z => absurd (z1.symm.trans z) x1⟩
    have s0 : (yScan (D 176) n P).er = 0 := by rw [s1.2.2.1]; exact he
    by_cases hk : (yScan (D 176) n P).kd = 1
    · have eW : yWrd (yScan (D 176) n P) = yScan (D 176) n P := by unfold yWrd; rw [if_pos hk]
      rw [eW] at c2 c4
      have hv := (c4 s0).2
      by_cases hz : yNamed (yScan (D 176) n P) = zn
      · -- a new name
        have go46 : zev X 189 46 [.ref 168, .int (zi (sNp P.T)), zJ, zJ, zJ] [.int v, .ref 168] (zHP D2 O, k) = zev X 189 61 [.ref 168, .int (zi (sNp P.T)), .int (zi 0), zJ, zJ] [] (zHP D2 O, k) := by
          refine b189_46.trans ?_
          rw [if_pos (show v = -1 from hv.trans hz), zl_0, m183f, zcon_inl]
          exact b189_59
        rw [go46]
        exact m189g hW he hn hB R G h6 fr2 c2 hk hz
      · -- a name that is there
        have eA2 : (yRunA (D 176) n P).2 = yFail (yScan (D 176) n P) 3 := by
          rw [eA]
          unfold yFresh
          rw [if_pos hk, if_neg hz]
        obtain ⟨D3, f1, f2, f3⟩ := m183t (X := X) (O := O) (k := k) (c := 3) c2 s1.1 (by omega)
        rw [← eA2] at f2
        have g' : (yRunA (D 176) n P).2.er ≠ 0 := by rw [eA2]; exact yFail_ne (by omega)
        obtain ⟨D4, y1, y2⟩ := bad D3 g' f2 f3
        refine ⟨D4, ?_, y2⟩
        refine b189_46.trans ?_
        rw [if_neg (show ¬ v = -1 from fun w => hz (hv.symm.trans w)), zl_1, zl_3, f1, zcon_inl]
        exact y1
    · have eW : yWrd (yScan (D 176) n P) = yFail (yScan (D 176) n P) 1 := by unfold yWrd; rw [if_neg hk]
      have eA2 : (yRunA (D 176) n P).2 = yFail (yScan (D 176) n P) 1 := by
        rw [eA]
        unfold yFresh
        rw [if_neg hk]
      have g' : (yRunA (D 176) n P).2.er ≠ 0 := by rw [eA2]; exact yFail_ne (by omega)
      rw [eW, ← eA2] at c2 c5
      have hv := c5 g'
      obtain ⟨D4, y1, y2⟩ := bad D2 g' c2 zFrE_rfl
      refine ⟨D4, ?_, y2⟩
      refine b189_46.trans ?_
      rw [if_pos (show v = -1 from hv), zl_0, m183f, zcon_inl]
      exact y1
  · have e6 : sNp P.T = 6 := by omega
    have eR : yRun (D 176) n P = yFail P 4 := by unfold yRun; rw [if_neg h6]
    obtain ⟨D1, a1, a2, a3⟩ := m183t (X := X) (O := O) (k := k) (c := 4) h hW (by omega)
    have gW : yW n (yFail P 4) := (yFail_ok (P := P) (c := 4) (q := zi P.st) hW (by omega)).1
    have g' : (yFail P 4).er ≠ 0 := yFail_ne (by omega)
    have q32 : D 168 32 = 6 := by rw [e32, e6]; rfl
    have q32' : ¬ D1 168 32 < 6 := by rw [a3.2 32 (by omega), q32]; decide
    obtain ⟨D2, v, c1, c2, c3, -, c5⟩ := m190 (X := X) (O := O) (k := k) a2 gW hn fun z => absurd z g'
    have LW := yWrd_ok gW
    obtain ⟨z1, z2⟩ := LW.2.2 g'
    have c2' : zPx n (yFail P 4) D2 := zPx_eq c2 (by rw [z1]; exact g') z1.symm z2.symm
    have hv : v = zn := c5 (by rw [z1]; exact g')
    have b2 : D2 176 = D 176 := (c3.1 176 (by omega)).trans (a3.1 176 (by omega))
    obtain ⟨D3, y1, y2, y3⟩ := m189f (X := X) (O := O) (k := k) (np := 0) c2' gW g' hn (by rw [b2]; exact hB)
    refine ⟨D3, ?_, by rw [eR]; exact y2, zFrP_E (zFrE_tr a3 (zFrE_tr c3 y3)), fun z => ?_⟩
    · refine b189_0.trans ?_
      rw [if_pos q32, zl_1, zl_4, a1, zcon_inl]
      refine b189_19.trans ?_
      rw [m185e a2 gW g', zcon_inl]
      refine b189_23.trans ?_
      rw [if_neg q32', c1, zcon_inl]
      refine b189_46.trans ?_
      rw [if_pos (show v = -1 from hv), zl_0, m183f, zcon_inl]
      exact y1
    · rw [eR] at z
      exact absurd z g'
end
