/-! The model's parser: a pin line. -/
section
variable {X : ZX} {D : ZD2} {O : ZO2} {k : Nat × Nat × Nat} {n : Nat} {P : ZPs} {B : Nat → Int32}
theorem m196 (h : zPx n P D) (hW : yW n P) (he : P.er = 0) (hn : n ≤ 600) (hB : ∀ i, i < n → D 176 i ≠ zn) (R : zRx D P.T) (G : zGd P.T) (hl : yLn P) : ∃ D', zev X 196 0 [.ref 168, zJ, zJ] [] (zHP D O, k) = some (.inl none, (zHP D' O, k)) ∧ zPx n (yPn (D 176) n (yKnown (D 176) n (yScan (D 176) n P)).2 (yKnown (D 176) n (yScan (D 176) n P)).1) D' ∧ zFrP D D' ∧ ((yPn (D 176) n (yKnown (D 176) n (yScan (D 176) n P)).2 (yKnown (D 176) n (yScan (D 176) n P)).1).er = 0 → zRx D' (yPn (D 176) n (yKnown (D 176) n (yScan (D 176) n P)).2 (yKnown (D 176) n (yScan (D 176) n P)).1).T ∧ zGd (yPn (D 176) n (yKnown (D 176) n (yScan (D 176) n P)).2 (yKnown (D 176) n (yScan (D 176) n P)).1).T) := by
  obtain ⟨D1, a1, a2, a3⟩ := m185 (X := X) (O := O) (k := k) h hW hn hB
  have eO : yOn (D 176) n P = yScan (D 176) n P := by unfold yOn; rw [if_pos he]
  rw [eO] at a2
  have s1 := yScan_ok (B := D 176) hW
  have l1 := yLn_T hl s1.2.1
  have b1 : D1 176 = D 176 := a3.1 176 (by omega)
  have R1 : zRx D1 (yScan (D 176) n P).T := by rw [s1.2.1]; exact zRx_E R a3
  have G1 : zGd (yScan (D 176) n P).T := by rw [s1.2.1]; exact G
  have start : zev X 196 0 [.ref 168, zJ, zJ] [] (zHP D O, k) = zev X 196 4 [.ref 168, zJ, zJ] [] (zHP D1 O, k) := by
    refine b196_0.trans ?_
    rw [a1, zcon_inl]
    rfl
  rw [start]
  generalize yScan (D 176) n P = S at a2 s1 l1 R1 G1
  have w1 := s1.1
  obtain ⟨D2, v, c1, c2, c3, c4⟩ := m193 (X := X) (O := O) (k := k) a2 w1 hn (by rw [b1]; exact hB) fun _ => ⟨R1.1.2.2.2.2.2, l1.2.1, R1.2.2.2.1⟩
  rw [b1] at c2 c4
  have s2 := yKnown_ok (B := D 176) w1
  have l2 := yLn_T l1 s2.2
  have R2 : zRx D2 (yKnown (D 176) n S).2.T := by rw [s2.2]; exact zRx_E R1 c3
  have G2 : zGd (yKnown (D 176) n S).2.T := by rw [s2.2]; exact G1
  have hq := yKnown_1 (B := D 176) (n := n) l1
  have hnp := yKnown_np (B := D 176) (n := n) (P := S)
  have enp : sNp (yKnown (D 176) n S).2.T = sNp S.T := by rw [s2.2]
  rw [← enp] at hnp
  have w2 := s2.1
  have b2 : D2 176 = D 176 := (c3.1 176 (by omega)).trans b1
  have start2 : zev X 196 4 [.ref 168, zJ, zJ] [] (zHP D1 O, k) = zev X 196 8 [.ref 168, zJ, zJ] [.int v] (zHP D2 O, k) := by
    refine b196_4.trans ?_
    rw [c1, zcon_inl]
    rfl
  rw [start2]
  have fr2 : zFrE D D2 := zFrE_tr a3 c3
  generalize yKnown (D 176) n S = K at c2 c4 l2 R2 G2 hq hnp w2
  have e25 := zPx_25 c2 w2
  by_cases hK : K.2.er = 0
  · have q0 : D2 168 25 = 0 := by rw [e25]; exact hK
    obtain ⟨p, ep, hp⟩ := hnp hK
    have hv : v = zi p := (c4 hK).trans ep
    subst hv
    rw [ep]
    have n6 := l2.2.1
    have I := G2.1.1
    have pg := zIv_pg I (p := p) (by omega)
    generalize K.2 = Q at c2 l2 R2 G2 w2 e25 hK hp n6 I pg
    have epg : yPgs Q.T (zi p) = zi (sPgs Q.T p) := by
      unfold yPgs
      rw [if_neg (by rw [zi_ne_zn (by omega)]; exact False.elim), zi_toNat (by omega)]
      exact pg.1
    have ehi : D2 179 p - 1 = yPgs Q.T (zi p) - zi 1 := by rw [(R2.2.1.1 p hp).1, epg, ← pg.1]; rfl
    obtain ⟨D3, v, x1, x2, x3, x4, -⟩ := m187 (X := X) (O := O) (k := k) (lo := zi 0) (hi := yPgs Q.T (zi p) - zi 1) c2 w2
    have L := yLook_ok (lo := zi 0) (hi := yPgs Q.T (zi p) - zi 1) w2
    have N := yLook_num (B := D 176) (n := n) (lo := zi 0) (hi := yPgs Q.T (zi p) - zi 1) hK
    have e253 := zPx_25 x2 L.1
    have b3 : D3 176 = D 176 := (x3.1 176 (by omega)).trans b2
    have go : zev X 196 8 [.ref 168, zJ, zJ] [.int (zi p)] (zHP D2 O, k) = zev X 196 30 [.ref 168, .int (zi p), zJ] [.int v] (zHP D3 O, k) := by
      refine b196_8.trans ?_
      have nb : ¬ (zi p < 0 ∨ 6 ≤ (zi p).toNatClampNeg) := by
        rw [zl_0, zi_lt (by omega) (by omega), zi_toNat (by omega)]
        omega
      rw [if_pos q0, if_neg nb, zi_toNat (by omega), ehi, zl_0, x1, zcon_inl]
      rfl
    rw [go]
    have st0 : ySt (yNum (D 176) n Q (zi 0) (yPgs Q.T (zi p) - zi 1)).2 (yPn (D 176) n Q (zi p)) := yPnW_st (yPnQ_st ySt_rfl)
    by_cases q : (yLook Q (zi 0) (yPgs Q.T (zi p) - zi 1)).er = 0
    · have q' : D3 168 25 = 0 := by rw [e253]; exact q
      obtain ⟨hk, eL, -⟩ := N.2 q
      rw [eL] at x2
      have hR : (yNum (D 176) n Q (zi 0) (yPgs Q.T (zi p) - zi 1)).2.er = 0 := by
        rw [← N.1, eL]
        unfold yOn
        rw [if_pos hK, (yScan_ok w2).2.2.1]
        exact hK
      obtain ⟨p', m, g, e1, h6, e2, h12, hg, ev, eR, ew⟩ := yRow_ok (yLn_pg l2 (Or.inr ⟨p, rfl, by omega⟩)) hR
      have epp : p' = p := by
        rw [zi_inj (by omega) (by omega)] at e1
        exact e1.symm
      subst epp
      have em : m = sPgs Q.T p' := by
        rw [pg.1, zi_inj (by omega) (by omega)] at e2
        exact e2.symm
      have hv : v = zi g := (x4 q).trans ev
      subst hv
      have R3 := zRx_E R2 x3
      have rr := (R3.2.2.1.2.2.1 (12 * p' + g) (by omega)).2.2.1
      have hpin := I.2.2.2.1.1 (12 * p' + g) (by omega)
      have s := yScan_ok (B := D 176) w2
      have s0 : (yScan (D 176) n Q).er = 0 := by rw [s.2.2.1]; exact hK
      have ePn : yPn (D 176) n Q (zi p') = yPnW (yPnQ (yScan (D 176) n Q) (zi (12 * p' + g)) (zi Q.st)) (zi (12 * p' + g)) := by
        unfold yPn
        rw [ew, eR]
      have qI : yPnr (yScan (D 176) n Q).T (zi (12 * p' + g)) = sPin Q.T (12 * p' + g) := by
        unfold yPnr sPin
        rw [yG3_zi (by omega) (by omega), s.2.1]
      have nb : ¬ (zi (46 + 5 * (12 * p' + g)) + 2 < 0 ∨ 540 ≤ (zi (46 + 5 * (12 * p' + g)) + 2).toNatClampNeg) := by
        rw [zl_0, zl_2, zi_add, zi_lt (by omega) (by omega), zi_toNat (by omega)]
        omega
      have ix : (zi (46 + 5 * (12 * p' + g)) + 2).toNatClampNeg = 46 + 5 * (12 * p' + g) + 2 := by
        rw [zl_2, zi_add, zi_toNat (by omega)]
      have go2 : zev X 196 30 [.ref 168, .int (zi p'), zJ] [.int (zi g)] (zHP D3 O, k) = zev X 196 48 [.ref 168, .int (zi p'), .int (zi g)] [.int (zi (46 + 5 * (12 * p' + g))), .ref 177, .ref 168] (zHP D3 O, k) := by
        refine b196_30.trans ?_
        rw [if_pos q', m195, zcon_inl]
        rfl
      rw [go2]
      have g48 := b196_48 (X := X) (D := D3) (O := O) (k := k) (l1 := zi p') (l2 := zi g) (s0 := zi (46 + 5 * (12 * p' + g)))
      rw [if_neg nb, ix, rr] at g48
      cases hin : sPin Q.T (12 * p' + g)
      · have z0 : Q.T 3 (5 * (12 * p' + g) + 2) = zi 0 := by
          unfold sPin at hin
          by_cases z : Q.T 3 (5 * (12 * p' + g) + 2) = zi 0
          · exact z
          · rw [decide_eq_false z] at hin
            exact Bool.noConfusion hin
        have ePn2 : yPn (D 176) n Q (zi p') = (yScan (D 176) n Q).wT (zw Q.T 3 (5 * (12 * p' + g) + 2) (zi 1)) := by
          rw [ePn]
          unfold yPnQ
          rw [qI, hin, if_neg Bool.false_ne_true]
          unfold yPnW
          rw [if_pos s0, s.2.1, zi_toNat (by omega)]
        rw [z0, if_neg (show ¬ zi 0 = 1 by decide), zl_0, m183f, zcon_inl] at g48
        have hw2 : zPx n Q (zw D3 177 (46 + 5 * (12 * p' + g) + 2) (zi 1)) := zPx_w x2 (Or.inl rfl)
        have w176 : zw D3 177 (46 + 5 * (12 * p' + g) + 2) (zi 1) 176 = D 176 := by rw [zw_row (by omega), b3]
        obtain ⟨D4, y1, y2, y3⟩ := m185 (X := X) (O := O) (k := k) hw2 w2 hn (by rw [w176]; exact hB)
        rw [w176] at y2
        have eO2 : yOn (D 176) n Q = yScan (D 176) n Q := by unfold yOn; rw [if_pos hK]
        rw [eO2] at y2
        obtain ⟨G3, H3⟩ := zGd_pin (p := p') (g := g) G2 hp (by omega)
        refine ⟨D4, ?_, ?_, ?_, fun _ => ?_⟩
        · refine g48.trans (b196_64.trans ?_)
          rw [if_pos q', m195, zcon_inl]
          refine b196_80.trans ?_
          rw [if_neg nb, ix, zl_1, y1, zcon_inl]
          exact b196_88
        · rw [ePn2]
          exact zPx_T y2
        · refine zFrP_tr (zFrP_E (zFrE_tr fr2 x3)) (zFrP_tr ?_ (zFrP_E y3))
          exact ⟨fun a _ b _ _ _ => zw_row b, fun x _ => zw_ne (by omega)⟩
        · rw [ePn2, T_wT]
          refine ⟨zRx_E ?_ y3, G3⟩
          obtain ⟨⟨r1, r2, r3, r4, r5, r6⟩, r7, r8, r9, hh, r10, r11⟩ := R3
          have u0 : zw Q.T 3 (5 * (12 * p' + g) + 2) (zi 1) 0 = Q.T 0 := zw_row (by omega)
          have u1 : zw Q.T 3 (5 * (12 * p' + g) + 2) (zi 1) 1 = Q.T 1 := zw_row (by omega)
          have u2 : zw Q.T 3 (5 * (12 * p' + g) + 2) (zi 1) 2 = Q.T 2 := zw_row (by omega)
          have unp : sNp (zw Q.T 3 (5 * (12 * p' + g) + 2) (zi 1)) = sNp Q.T := by unfold sNp; rw [u1]
          have f2 : ∀ a, a ≠ 177 → zw D3 177 (46 + 5 * (12 * p' + g) + 2) (zi 1) a = D3 a := fun a h1 => zw_row h1
          have f3 : zw D3 177 (46 + 5 * (12 * p' + g) + 2) (zi 1) 177 = zu (D3 177) (46 + 5 * (12 * p' + g) + 2) (zi 1) := by
            rw [zw_upd]
            rfl
          refine ⟨⟨?_, ?_, ?_, ?_, ?_, ?_⟩, ?_, ?_, ?_, hh, H3 hh r10, ?_⟩
          · rw [f2 168 (by omega), u0]; exact r1
          · rw [f2 168 (by omega), u0]; exact r2
          · rw [f2 168 (by omega), u0]; exact r3
          · rw [f2 168 (by omega), u0]; exact r4
          · rw [f2 168 (by omega), u0]; exact r5
          · rw [f2 168 (by omega), unp]; exact r6
          · rw [f2 179 (by omega), f2 180 (by omega), f3, unp, u2]
            refine ⟨r7.1, fun p hp h6 => ?_⟩
            rw [unp] at hp
            rw [u2, zu_ne (by omega), zu_ne (by omega), zu_ne (by omega), zu_ne (by omega)]
            exact r7.2 p hp h6
          · rw [f3]
            exact zRd_pin r8 (by omega) n6
          · unfold zNr
            rw [f2 178 (by omega), unp, u2]
            exact r9
          · rw [f2 168 (by omega)]
            exact r11
      · have z1 : Q.T 3 (5 * (12 * p' + g) + 2) = zi 1 := by
          rcases hpin with z | z
          · unfold sPin at hin
            rw [decide_eq_true z] at hin
            exact Bool.noConfusion hin
          · exact z
        obtain ⟨D4, y1, y2, y3⟩ := m183t (X := X) (O := O) (k := k) (c := 3) x2 w2 (by omega)
        have gW : yW n (yFail Q 3) := (yFail_ok w2 (by omega)).1
        have g' : (yFail Q 3).er ≠ 0 := yFail_ne (by omega)
        have e25' : ¬ D4 168 25 = 0 := by rw [zPx_25 y2 gW]; exact g'
        have ef : yFail Q 3 = (Q.wer 3).wep (zi Q.st) := by
          unfold yFail yFailAt
          rw [if_pos hK]
        have f1 : (yFail Q 3).er = 3 := by rw [ef]; rfl
        have f2 : (yFail Q 3).ep = zi Q.st := by rw [ef]; rfl
        have eQ : yPnQ (yScan (D 176) n Q) (zi (12 * p' + g)) (zi Q.st) = ((yScan (D 176) n Q).wer 3).wep (zi Q.st) := by
          unfold yPnQ
          rw [qI, hin, if_pos rfl]
          unfold yFailAt
          rw [if_pos s0]
        rw [eQ] at ePn
        have stE : ySt (((yScan (D 176) n Q).wer 3).wep (zi Q.st)) (yPn (D 176) n Q (zi p')) := by
          rw [ePn]
          exact yPnW_st ySt_rfl
        obtain ⟨t1, t2⟩ := stE (show (3 : Nat) ≠ 0 by omega)
        have t1' : (yPn (D 176) n Q (zi p')).er = 3 := t1
        have t2' : (yPn (D 176) n Q (zi p')).ep = zi Q.st := t2
        refine ⟨D4, ?_, zPx_eq y2 g' (t1'.trans f1.symm) (t2'.trans f2.symm), zFrP_E (zFrE_tr (zFrE_tr fr2 x3) y3), fun z => ?_⟩
        · rw [z1, if_pos (show zi 1 = 1 from rfl), zl_1, zl_3, y1, zcon_inl] at g48
          refine g48.trans (b196_64.trans ?_)
          rw [if_neg e25', m185e y2 gW g', zcon_inl]
          exact b196_88
        · rw [t1'] at z
          omega
    · have q' : ¬ D3 168 25 = 0 := by rw [e253]; exact q
      have eN : (yNum (D 176) n Q (zi 0) (yPgs Q.T (zi p) - zi 1)).2 = yLook Q (zi 0) (yPgs Q.T (zi p) - zi 1) := by
        rw [← N.1]
        unfold yOn
        rw [if_neg q]
      rw [eN] at st0
      obtain ⟨z1, z2⟩ := st0 q
      refine ⟨D3, ?_, zPx_eq x2 q z1 z2, zFrP_E (zFrE_tr fr2 x3), fun z => absurd (z1.symm.trans z) q⟩
      refine b196_30.trans ?_
      rw [if_neg q', zl_0, m183f, zcon_inl]
      refine b196_64.trans ?_
      rw [if_neg q', m185e x2 L.1 q, zcon_inl]
      exact b196_88
  · have q : ¬ D2 168 25 = 0 := by rw [e25]; exact hK
    obtain ⟨z1, z2⟩ := yPn_st (B := D 176) (pr := K.1) w2 hK
    refine ⟨D2, ?_, zPx_eq c2 hK z1 z2, zFrP_E fr2, fun z => absurd (z1.symm.trans z) hK⟩
    refine b196_8.trans ?_
    rw [if_neg q]
end
