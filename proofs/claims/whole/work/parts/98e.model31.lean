/-! The model's parser: a line. -/
/-- a line, once its first word is read -/
def yLn1 (B : Nat → Int32) (n : Nat) (S : ZPs) : ZPs := if yIs S [114, 117, 110] = true then yRun B n S else if yIs S [105, 110] = true then yInl B n S else yPn B n (yKnown B n (yLit B n S [112, 105, 110])).2 (yKnown B n (yLit B n S [112, 105, 110])).1
section
variable {X : ZX} {D : ZD2} {O : ZO2} {k : Nat × Nat × Nat} {n : Nat} {P : ZPs} {B : Nat → Int32}
theorem yLine_1 : yLine B n P = if P.kd = 3 then yLn1 B n (yScan B n P) else yFail P 1 := rfl
theorem m188 (h : zPx n P D) (hW : yW n P) (he : P.er = 0) (hn : n ≤ 600) (hB : ∀ i, i < n → D 176 i ≠ zn) (R : zRx D P.T) (G : zGd P.T) (hl : yLn P) : ∃ D', zev X 188 0 [.ref 168] [] (zHP D O, k) = some (.inl none, (zHP D' O, k)) ∧ zPx n (yLn1 (D 176) n P) D' ∧ zFrP D D' ∧ ((yLn1 (D 176) n P).er = 0 → zRx D' (yLn1 (D 176) n P).T ∧ zGd (yLn1 (D 176) n P).T) := by
  have g0 := b188_0 (X := X) (D := D) (O := O) (k := k)
  rw [m182_1 h hW hn, decide_eq_true he, Bool.true_and, zcon_inl] at g0
  have g1 := g0.trans b188_6
  unfold yLn1
  cases hR : yIs P [114, 117, 110]
  · rw [hR, if_pos (show zb false = 0 from rfl), m182_2 h hW hn, decide_eq_true he, Bool.true_and, zcon_inl] at g1
    have g2 := g1.trans b188_22
    rw [if_neg Bool.false_ne_true]
    cases hI : yIs P [105, 110]
    · rw [hI, if_pos (show zb false = 0 from rfl), m182_3 h hW hn, decide_eq_true he, Bool.true_and, zcon_inl] at g2
      have g3 := g2.trans b188_38
      rw [if_neg Bool.false_ne_true]
      cases hN : yIs P [112, 105, 110]
      · rw [hN, if_pos (show zb false = 0 from rfl)] at g3
        obtain ⟨D1, a, b, c⟩ := m184 (X := X) (O := O) (k := k) (c := 1) h hW (by omega)
        have eL : yLit (D 176) n P [112, 105, 110] = yFail P 1 := by unfold yLit; rw [hN, if_neg Bool.false_ne_true]
        have gW : yW n (yFail P 1) := (yFail_ok hW (by omega)).1
        have g' : (yFail P 1).er ≠ 0 := yFail_ne (by omega)
        rw [eL]
        have sK := yKnown_ok (B := D 176) gW
        obtain ⟨z1, z2⟩ := ySt_tr (ySt_known (B := D 176) gW) (yPn_st (B := D 176) (pr := (yKnown (D 176) n (yFail P 1)).1) sK.1) g'
        rw [zl_1, a, zcon_inl] at g3
        exact ⟨D1, g3.trans b188_53, zPx_eq b g' z1 z2, zFrP_E c, fun z => absurd (z1.symm.trans z) g'⟩
      · rw [hN, if_neg (show ¬ zb true = 0 by decide)] at g3
        obtain ⟨D1, a, b, c, d⟩ := m196 (X := X) (O := O) (k := k) h hW he hn hB R G hl
        have eL : yLit (D 176) n P [112, 105, 110] = yScan (D 176) n P := by unfold yLit; rw [hN, if_pos rfl]
        rw [eL]
        rw [a, zcon_inl] at g3
        exact ⟨D1, g3.trans (b188_45.trans b188_53), b, c, d⟩
    · rw [hI, if_neg (show ¬ zb true = 0 by decide)] at g2
      obtain ⟨D1, a, b, c, d⟩ := m192 (X := X) (O := O) (k := k) h hW he hn hB R G hl
      rw [if_pos rfl]
      rw [a, zcon_inl] at g2
      exact ⟨D1, g2.trans (b188_29.trans b188_53), b, c, d⟩
  · rw [hR, if_neg (show ¬ zb true = 0 by decide)] at g1
    obtain ⟨D1, a, b, c, d⟩ := m189 (X := X) (O := O) (k := k) h hW he hn hB R G hl
    rw [if_pos rfl]
    rw [a, zcon_inl] at g1
    exact ⟨D1, g1.trans (b188_13.trans b188_53), b, c, d⟩
end
