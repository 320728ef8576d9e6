/-! The model's parser: a page taken in, a page pinned. -/
/-- what was read so far is the class's; zUn: no program, nothing told -/
def zUn (s : Nat → Int32) (T : ZD2) : Prop := ∀ p, sNp T ≤ p → p < 6 → (T 2 (12 * p + 3) = zi 0 ∧ T 2 (12 * p + 8) = zi 0 ∧ T 2 (12 * p + 9) = zi 0 ∧ T 2 (12 * p + 10) = zi 0) ∧ (s (10 + 6 * p + 1) = zi 0 ∧ s (10 + 6 * p + 3) = zi 0 ∧ s (10 + 6 * p + 4) = zi 0 ∧ s (10 + 6 * p + 5) = zi 0)
def zRx (D T : ZD2) : Prop := (D 168 27 = T 0 0 ∧ D 168 28 = T 0 1 ∧ D 168 29 = T 0 2 ∧ D 168 30 = T 0 3 ∧ D 168 31 = T 0 4 ∧ D 168 32 = zi (sNp T)) ∧ ((∀ p, p < sNp T → D 179 p = T 2 (12 * p + 1) ∧ D 180 p = T 2 (12 * p + 2)) ∧ zUn (D 177) T) ∧ zRd (D 177) T ∧ zNr D T 178 ∧ ∃ h, zHl T h ∧ D 168 33 = zi h
/-- reading touches these alone -/
def zFrP (D D' : ZD2) : Prop := (∀ a, a ≠ 168 → a ≠ 177 → a ≠ 178 → a ≠ 179 → a ≠ 180 → D' a = D a) ∧ ∀ x, x < 20 ∨ 33 < x → D' 168 x = D 168 x
theorem zFrP_E {D D' : ZD2} (h : zFrE D D') : zFrP D D' := ⟨fun a h1 _ _ _ _ => h.1 a h1, fun x hx => h.2 x (by omega)⟩
theorem zFrP_tr {D E F : ZD2} (h1 : zFrP D E) (h2 : zFrP E F) : zFrP D F := ⟨fun a a1 a2 a3 a4 a5 => (h2.1 a a1 a2 a3 a4 a5).trans (h1.1 a a1 a2 a3 a4 a5), fun x h => (h2.2 x h).trans (h1.2 x h)⟩
theorem zRx_E {D D' T : ZD2} (R : zRx D T) (h : zFrE D D') : zRx D' T := by
  obtain ⟨⟨r1, r2, r3, r4, r5, r6⟩, r7, r8, r9, hh, r10, r11⟩ := R
  refine ⟨⟨?_, ?_, ?_, ?_, ?_, ?_⟩, ?_, ?_, ?_, hh, r10, ?_⟩
  · rw [h.2 27 (by omega)]; exact r1
  · rw [h.2 28 (by omega)]; exact r2
  · rw [h.2 29 (by omega)]; exact r3
  · rw [h.2 30 (by omega)]; exact r4
  · rw [h.2 31 (by omega)]; exact r5
  · rw [h.2 32 (by omega)]; exact r6
  · rw [h.1 179 (by omega), h.1 180 (by omega), h.1 177 (by omega)]; exact r7
  · rw [h.1 177 (by omega)]; exact r8
  · unfold zNr
    rw [h.1 178 (by omega)]
    exact r9
  · rw [h.2 33 (by omega)]; exact r11
theorem zPx_eq {n : Nat} {P Q : ZPs} {D : ZD2} (h : zPx n P D) (he : P.er ≠ 0) (e1 : Q.er = P.er) (e2 : Q.ep = P.ep) : zPx n Q D := zPx_err h he fun _ => ⟨e1, e2⟩
theorem zPx_T {n : Nat} {P : ZPs} {U D : ZD2} (h : zPx n P D) : zPx n (P.wT U) D := h
section
variable {X : ZX} {D : ZD2} {O : ZO2} {k : Nat × Nat × Nat} {n : Nat} {P : ZPs}
theorem m185e (h : zPx n P D) (hW : yW n P) (he : P.er ≠ 0) : zev X 185 0 [.ref 168] [] (zHP D O, k) = some (.inl none, (zHP D O, k)) := by
  have e' : ¬ D 168 25 = 0 := by rw [zPx_25 h hW]; exact he
  refine b185_0.trans ?_
  rw [if_neg e']
  exact b185_11
/-- what stays outside the place read and the error -/
theorem zPx_w {a j : Nat} {v : Int32} (h : zPx n P D) (h1 : a = 177 ∨ a = 178 ∨ a = 179 ∨ a = 180 ∨ (a = 168 ∧ (j = 33 ∨ j = 32 ∨ 27 ≤ j))) : zPx n P (zw D a j v) := by
  have o : ∀ x, x ≤ 26 → zw D a j v 168 x = D 168 x := fun x hx => zw_ne (by omega)
  have o2 : zw D a j v 176 = D 176 := zw_row (by omega)
  unfold zPx zPm
  rw [o 25 (by omega), o 26 (by omega), o 20 (by omega), o 21 (by omega), o 22 (by omega), o 23 (by omega), o 24 (by omega), o2]
  exact h
theorem zGd_np {T : ZD2} (G : zGd T) : sNp T ≤ 6 := zIv_np6 G.1.1
theorem m194 {p : Nat} (h : zPx n P D) (hW : yW n P) (he : P.er = 0) (hn : n ≤ 600) (hB : ∀ i, i < n → D 176 i ≠ zn) (R : zRx D P.T) (G : zGd P.T) (hl : yLn P) (hp : p < sNp P.T) : ∃ D', zev X 194 0 [.ref 168, .int (zi p), zJ, zJ] [] (zHP D O, k) = some (.inl none, (zHP D' O, k)) ∧ zPx n (yIn (D 176) n P (zi p)) D' ∧ zFrP D D' ∧ ((yIn (D 176) n P (zi p)).er = 0 → zRx D' (yIn (D 176) n P (zi p)).T ∧ zGd (yIn (D 176) n P (zi p)).T) := by
  have n6 := zGd_np G
  have I := G.1.1
  have n64 := zIv_nf64 I
  have pg := zIv_pg I (p := p) (by omega)
  have epg : yPgs P.T (zi p) = zi (sPgs P.T p) := by
    unfold yPgs
    rw [if_neg (by rw [zi_ne_zn (by omega)]; exact False.elim), zi_toNat (by omega)]
    exact pg.1
  have ehi : D 179 p - 1 = yPgs P.T (zi p) - zi 1 := by rw [(R.2.1.1 p hp).1, epg, ← pg.1]; rfl
  obtain ⟨D1, v, a1, a2, a3, a4, -⟩ := m187 (X := X) (O := O) (k := k) (lo := zi 0) (hi := yPgs P.T (zi p) - zi 1) h hW
  have L := yLook_ok (lo := zi 0) (hi := yPgs P.T (zi p) - zi 1) hW
  have N := yLook_num (B := D 176) (n := n) (lo := zi 0) (hi := yPgs P.T (zi p) - zi 1) he
  have e25 := zPx_25 a2 L.1
  have start : zev X 194 0 [.ref 168, .int (zi p), zJ, zJ] [] (zHP D O, k) = zev X 194 13 [.ref 168, .int (zi p), zJ, zJ] [.int v] (zHP D1 O, k) := by
    refine b194_0.trans ?_
    have nb : ¬ (zi p < 0 ∨ 6 ≤ (zi p).toNatClampNeg) := by
      rw [zl_0, zi_lt (by omega) (by omega), zi_toNat (by omega)]
      omega
    rw [if_neg nb, zi_toNat (by omega), ehi, zl_0, a1, zcon_inl]
    rfl
  rw [start]
  have st0 : ySt (yNum (D 176) n P (zi 0) (yPgs P.T (zi p) - zi 1)).2 (yIn (D 176) n P (zi p)) := yEnt_st (yInQ_st ySt_rfl)
  by_cases q : (yLook P (zi 0) (yPgs P.T (zi p) - zi 1)).er = 0
  · have q' : D1 168 25 = 0 := by rw [e25]; exact q
    obtain ⟨hk, eL, -⟩ := N.2 q
    rw [eL] at a2
    have hR : (yNum (D 176) n P (zi 0) (yPgs P.T (zi p) - zi 1)).2.er = 0 := by
      rw [← N.1, eL]
      unfold yOn
      rw [if_pos he, (yScan_ok hW).2.2.1]
      exact he
    obtain ⟨p', m, g, e1, h6, e2, h12, hg, ev, eR, ew⟩ := yRow_ok (yLn_pg hl (Or.inr ⟨p, rfl, by omega⟩)) hR
    have ep : p' = p := by
      rw [zi_inj (by omega) (by omega)] at e1
      exact e1.symm
    subst ep
    have em : m = sPgs P.T p' := by
      rw [pg.1, zi_inj (by omega) (by omega)] at e2
      exact e2.symm
    have hv : v = zi g := (a4 q).trans ev
    subst hv
    have R1 := zRx_E R a3
    have b176 : D1 176 = D 176 := a3.1 176 (by omega)
    have rr := (R1.2.2.1.2.2.1 (12 * p' + g) (by omega)).1
    have go : zev X 194 13 [.ref 168, .int (zi p'), zJ, zJ] [.int (zi g)] (zHP D1 O, k) = zev X 194 27 [.ref 168, .int (zi p'), .int (zi g), zJ] [.int (zi (46 + 5 * (12 * p' + g)))] (zHP D1 O, k) := by
      refine b194_13.trans ?_
      rw [if_pos q', m195, zcon_inl]
      rfl
    rw [go]
    have nb : ¬ (zi (46 + 5 * (12 * p' + g)) + 0 < 0 ∨ 540 ≤ (zi (46 + 5 * (12 * p' + g)) + 0).toNatClampNeg) := by
      rw [zl_0, zi_add, zi_lt (by omega) (by omega), zi_toNat (by omega)]
      omega
    have ix : (zi (46 + 5 * (12 * p' + g)) + 0).toNatClampNeg = 46 + 5 * (12 * p' + g) := by
      rw [zl_0, zi_add, zi_toNat (by omega), Nat.add_zero]
    have s := yScan_ok (B := D 176) hW
    have s0 : (yScan (D 176) n P).er = 0 := by rw [s.2.2.1]; exact he
    have eIn : yIn (D 176) n P (zi p') = yEnt (yInQ (yScan (D 176) n P) (zi (12 * p' + g)) (zi P.st)) (zi (12 * p' + g)) (zo (sFree P.T)) (zi P.st) := by
      unfold yIn
      rw [ew, eR]
    have qI : yInr (yScan (D 176) n P).T (zi (12 * p' + g)) = sIn P.T (12 * p' + g) := by
      unfold yInr sIn
      rw [yG3_zi (by omega) (by omega), s.2.1]
      rfl
    -- what ends with an error here
    have bad : ∀ (c : Nat) (D2 : ZD2), c ≠ 0 → c ≤ 4 → zPx n (yFail P c) D2 → zFrE D1 D2 → (yIn (D 176) n P (zi p')).er = c → (yIn (D 176) n P (zi p')).ep = zi P.st → zPx n (yIn (D 176) n P (zi p')) D2 ∧ zFrP D D2 ∧ ((yIn (D 176) n P (zi p')).er = 0 → zRx D2 (yIn (D 176) n P (zi p')).T ∧ zGd (yIn (D 176) n P (zi p')).T) := by
      intro c D2 hc h4 x1 x2 x3 x4
      have ef : yFail P c = (P.wer c).wep (zi P.st) := by
        unfold yFail yFailAt
        rw [if_pos he]
      have f1 : (yFail P c).er = c := by rw [ef]; rfl
      have f2 : (yFail P c).ep = zi P.st := by rw [ef]; rfl
      exact ⟨zPx_eq x1 (by rw [f1]; exact hc) (x3.trans f1.symm) (x4.trans f2.symm), zFrP_E (zFrE_tr a3 x2), fun z => absurd (x3.symm.trans z) hc⟩
    cases hin : sIn P.T (12 * p' + g)
    · -- not in yet
      have e177 : D1 177 (46 + 5 * (12 * p' + g)) = -1 := by
        rw [rr]
        unfold sIn at hin
        by_cases z : P.T 3 (5 * (12 * p' + g)) = zn
        · exact z
        · rw [decide_eq_false z] at hin
          exact Bool.noConfusion hin
      have eQ : yInQ (yScan (D 176) n P) (zi (12 * p' + g)) (zi P.st) = yScan (D 176) n P := by
        unfold yInQ
        rw [qI, hin, if_neg Bool.false_ne_true]
      rw [eQ] at eIn
      obtain ⟨hh, H, e33⟩ := R1.2.2.2.2
      have hfree := zHl_free H n64
      have go2 : zev X 194 27 [.ref 168, .int (zi p'), .int (zi g), zJ] [.int (zi (46 + 5 * (12 * p' + g)))] (zHP D1 O, k) = zev X 194 50 [.ref 168, .int (zi p'), .int (zi g), .int (zi (46 + 5 * (12 * p' + g)))] [] (zHP D1 O, k) := by
        refine b194_27.trans ?_
        rw [if_neg nb, ix, if_pos e177, zl_0, m183f, zcon_inl]
        rfl
      rw [go2]
      have g50 := b194_50 (X := X) (D := D1) (O := O) (k := k) (l1 := zi p') (l2 := zi g) (l3 := zi (46 + 5 * (12 * p' + g)))
      rw [if_pos q', e33, R1.1.1, zIv_nf I] at g50
      have hle := H.1
      by_cases hfull : hh = sNf P.T
      · obtain ⟨D2, x1, x2, x3⟩ := m183t (X := X) (O := O) (k := k) (c := 4) a2 hW (by omega)
        have gW : yW n (yFail P 4) := (yFail_ok hW (by omega)).1
        have g' : (yFail P 4).er ≠ 0 := yFail_ne (by omega)
        have e25' : ¬ D2 168 25 = 0 := by rw [zPx_25 x2 gW]; exact g'
        rw [if_neg (by omega)] at hfree
        have eIn2 : yIn (D 176) n P (zi p') = yFailAt (yScan (D 176) n P) 4 (zi P.st) := by
          rw [eIn, hfree]
          unfold yEnt
          have g0 := yFail_ne (P := yScan (D 176) n P) (q := zi P.st) (show 4 ≠ 0 by omega)
          rw [show zo none = zn from rfl, if_pos rfl, if_neg g0]
        have ef : yFailAt (yScan (D 176) n P) 4 (zi P.st) = ((yScan (D 176) n P).wer 4).wep (zi P.st) := by unfold yFailAt; rw [if_pos s0]
        obtain ⟨y1, y2, y3⟩ := bad 4 D2 (by omega) (by omega) x2 x3 (by rw [eIn2, ef]; rfl) (by rw [eIn2, ef]; rfl)
        refine ⟨D2, ?_, y1, y2, y3⟩
        rw [if_pos (by rw [hfull]), zl_1, zl_4, x1, zcon_inl] at g50
        refine g50.trans ?_
        refine b194_78.trans ?_
        rw [if_neg e25', m185e x2 gW g', zcon_inl]
        exact b194_111
      · have hlt : hh < sNf P.T := by omega
        rw [if_pos hlt] at hfree
        have eIn2 : yIn (D 176) n P (zi p') = (yScan (D 176) n P).wT (uEnter P.T (12 * p' + g) hh) := by
          rw [eIn, hfree]
          unfold yEnt
          have z : ¬ zo (some hh) = zn := by
            show ¬ zi hh = zn
            rw [zi_ne_zn (by omega)]
            exact False.elim
          rw [if_neg z, if_pos s0, s.2.1, show zo (some hh) = zi hh from rfl, zi_toNat (by omega), zi_toNat (by omega)]
        have ne : ¬ zi hh = zi (sNf P.T) := by rw [zi_inj (by omega) (by omega)]; exact hfull
        rw [if_neg ne, zl_0, m183f, zcon_inl] at g50
        have hw2 : zPx n P (zw (zw D1 177 (46 + 5 * (12 * p' + g)) (zi hh)) 168 33 (zi (hh + 1))) := zPx_w (zPx_w a2 (Or.inl rfl)) (Or.inr (Or.inr (Or.inr (Or.inr ⟨rfl, Or.inl rfl⟩))))
        have w176 : zw (zw D1 177 (46 + 5 * (12 * p' + g)) (zi hh)) 168 33 (zi (hh + 1)) 176 = D 176 := by rw [zw_row (by omega), zw_row (by omega), b176]
        obtain ⟨D2, x1, x2, x3⟩ := m185 (X := X) (O := O) (k := k) hw2 hW hn (by rw [w176]; exact hB)
        rw [w176] at x2
        have eO : yOn (D 176) n P = yScan (D 176) n P := by unfold yOn; rw [if_pos he]
        rw [eO] at x2
        obtain ⟨G2, H2⟩ := zGd_enter (p := p') (g := g) G H hlt hp (by omega) hin
        refine ⟨D2, ?_, ?_, ?_, fun _ => ?_⟩
        · refine g50.trans (b194_78.trans ?_)
          have e1 : zw D1 177 (46 + 5 * (12 * p' + g)) (zi hh) 168 33 = zi hh := by rw [zw_row (by omega)]; exact e33
          rw [if_pos q', if_neg nb, ix, e33, e1, zl_1, zi_add, x1, zcon_inl]
          exact b194_111
        · rw [eIn2]
          exact zPx_T x2
        · refine zFrP_tr (zFrP_E a3) (zFrP_tr ?_ (zFrP_E x3))
          refine ⟨fun a b1 b2 b3 b4 b5 => by rw [zw_row b1, zw_row b2], fun x hx => by rw [zw_ne (by omega), zw_ne (by omega)]⟩
        · rw [eIn2, T_wT]
          refine ⟨zRx_E ?_ x3, G2⟩
          obtain ⟨⟨r1, r2, r3, r4, r5, r6⟩, r7, r8, r9, -⟩ := R1
          have u0 : uEnter P.T (12 * p' + g) hh 0 = P.T 0 := by unfold uEnter; rw [zw_row (by omega), zw_row (by omega)]
          have u1 : uEnter P.T (12 * p' + g) hh 1 = P.T 1 := by unfold uEnter; rw [zw_row (by omega), zw_row (by omega)]
          have u2 : uEnter P.T (12 * p' + g) hh 2 = P.T 2 := by unfold uEnter; rw [zw_row (by omega), zw_row (by omega)]
          have unp : sNp (uEnter P.T (12 * p' + g) hh) = sNp P.T := by unfold sNp; rw [u1]
          have f : ∀ x, x < 33 → zw (zw D1 177 (46 + 5 * (12 * p' + g)) (zi hh)) 168 33 (zi (hh + 1)) 168 x = D1 168 x := fun x hx => by rw [zw_ne (by omega), zw_ne (by omega)]
          have f2 : ∀ a, a ≠ 168 → a ≠ 177 → zw (zw D1 177 (46 + 5 * (12 * p' + g)) (zi hh)) 168 33 (zi (hh + 1)) a = D1 a := fun a h1 h2 => by rw [zw_row h1, zw_row h2]
          have f3 : zw (zw D1 177 (46 + 5 * (12 * p' + g)) (zi hh)) 168 33 (zi (hh + 1)) 177 = zu (D1 177) (46 + 5 * (12 * p' + g)) (zi hh) := by
            rw [zw_row (by omega), zw_upd]
            rfl
          refine ⟨⟨?_, ?_, ?_, ?_, ?_, ?_⟩, ?_, ?_, ?_, hh + 1, H2, ?_⟩
          · rw [f 27 (by omega), u0]; exact r1
          · rw [f 28 (by omega), u0]; exact r2
          · rw [f 29 (by omega), u0]; exact r3
          · rw [f 30 (by omega), u0]; exact r4
          · rw [f 31 (by omega), u0]; exact r5
          · rw [f 32 (by omega), unp]; exact r6
          · rw [f2 179 (by omega) (by omega), f2 180 (by omega) (by omega), f3, unp, u2]
            refine ⟨r7.1, fun p hp h6 => ?_⟩
            rw [unp] at hp
            rw [u2, zu_ne (by omega), zu_ne (by omega), zu_ne (by omega), zu_ne (by omega)]
            exact r7.2 p hp h6
          · rw [f3]
            exact zRd_enter I r8 (by omega) (by omega)
          · unfold zNr
            rw [f2 178 (by omega) (by omega), unp, u2]
            exact r9
          · rw [zw_self]
    · -- it is in already
      have e177 : ¬ D1 177 (46 + 5 * (12 * p' + g)) = -1 := by
        rw [rr]
        intro z
        unfold sIn at hin
        rw [decide_eq_true (show P.T 3 (5 * (12 * p' + g)) = zn from z)] at hin
        exact Bool.noConfusion hin
      obtain ⟨D2, x1, x2, x3⟩ := m183t (X := X) (O := O) (k := k) (c := 3) a2 hW (by omega)
      have gW : yW n (yFail P 3) := (yFail_ok hW (by omega)).1
      have g' : (yFail P 3).er ≠ 0 := yFail_ne (by omega)
      have e25' : ¬ D2 168 25 = 0 := by rw [zPx_25 x2 gW]; exact g'
      have eQ : yInQ (yScan (D 176) n P) (zi (12 * p' + g)) (zi P.st) = ((yScan (D 176) n P).wer 3).wep (zi P.st) := by
        unfold yInQ
        rw [qI, hin, if_pos rfl]
        unfold yFailAt
        rw [if_pos s0]
      rw [eQ] at eIn
      have stE : ySt (((yScan (D 176) n P).wer 3).wep (zi P.st)) (yIn (D 176) n P (zi p')) := by
        rw [eIn]
        exact yEnt_st ySt_rfl
      obtain ⟨z1, z2⟩ := stE (show (3 : Nat) ≠ 0 by omega)
      obtain ⟨y1, y2, y3⟩ := bad 3 D2 (by omega) (by omega) x2 x3 z1 z2
      refine ⟨D2, ?_, y1, y2, y3⟩
      refine b194_27.trans ?_
      rw [if_neg nb, ix, if_neg e177, zl_1, zl_3, x1, zcon_inl]
      refine b194_50.trans ?_
      rw [if_neg e25', zl_0, m183f, zcon_inl]
      refine b194_78.trans ?_
      rw [if_neg e25', m185e x2 gW g', zcon_inl]
      exact b194_111
  · have q' : ¬ D1 168 25 = 0 := by rw [e25]; exact q
    have eN : (yNum (D 176) n P (zi 0) (yPgs P.T (zi p) - zi 1)).2 = yLook P (zi 0) (yPgs P.T (zi p) - zi 1) := by
      rw [← N.1]
      unfold yOn
      rw [if_neg q]
    rw [eN] at st0
    obtain ⟨z1, z2⟩ := st0 q
    refine ⟨D1, ?_, zPx_eq a2 q z1 z2, zFrP_E a3, fun z => absurd (z1.symm.trans z) q⟩
    refine b194_13.trans ?_
    rw [if_neg q']
end
