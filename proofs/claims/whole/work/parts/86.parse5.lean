/-! The class's parser: a pin line, an in line, a run line. -/
def yPnQ (R : ZPs) (w pl : Int32) : ZPs := if yPnr R.T w = true then yFailAt R 3 pl else R
def yPnW (Q : ZPs) (w : Int32) : ZPs := if Q.er = 0 then Q.wT (zw Q.T 3 (5 * w.toNatClampNeg + 2) (zi 1)) else Q
def yPn (B : Nat → Int32) (n : Nat) (P : ZPs) (pr : Int32) : ZPs := yPnW (yPnQ (yNum B n P (zi 0) (yPgs P.T pr - zi 1)).2 (pr * zi 12 + (yNum B n P (zi 0) (yPgs P.T pr - zi 1)).1) (zi P.st)) (pr * zi 12 + (yNum B n P (zi 0) (yPgs P.T pr - zi 1)).1)
def yInL (B : Nat → Int32) (n : Nat) (pr : Int32) : Nat → ZPs → ZPs
  | 0, P => P
  | f + 1, P => if P.kd = 2 ∧ P.er = 0 then yInL B n pr f (yIn B n P pr) else P
def yInl (B : Nat → Int32) (n : Nat) (P : ZPs) : ZPs := yInL B n (yKnown B n (yScan B n P)).1 12 (yIn B n (yKnown B n (yScan B n P)).2 (yKnown B n (yScan B n P)).1)
def yRunA (B : Nat → Int32) (n : Nat) (P : ZPs) : Int32 × ZPs := yFresh B n (yScan B n P)
def yRunB (B : Nat → Int32) (n : Nat) (P : ZPs) : Int32 × ZPs := yNum B n (yRunA B n P).2 (zi 1) (zi 99)
def yRunC (B : Nat → Int32) (n : Nat) (P : ZPs) : Int32 × ZPs := yNum B n (yRunB B n P).2 (zi 1) (zi 12)
def yRunD (B : Nat → Int32) (n : Nat) (P : ZPs) : Int32 × ZPs := if yIs (yRunC B n P).2 [98, 108, 117, 102, 102] = true then yNum B n (yScan B n (yRunC B n P).2) (zi 0) (zi 99) else (zi 0, (yRunC B n P).2)
def yRun (B : Nat → Int32) (n : Nat) (P : ZPs) : ZPs := if sNp P.T < 6 then (yRunD B n P).2.wT (uAdd (yRunD B n P).2.T (sNp P.T) (yRunA B n P).1 (yRunB B n P).1 (yRunC B n P).1 (yRunD B n P).1) else yFail P 4
def yLine (B : Nat → Int32) (n : Nat) (P : ZPs) : ZPs := if P.kd = 3 then (if yIs (yScan B n P) [114, 117, 110] = true then yRun B n (yScan B n P) else if yIs (yScan B n P) [105, 110] = true then yInl B n (yScan B n P) else yPn B n (yKnown B n (yLit B n (yScan B n P) [112, 105, 110])).2 (yKnown B n (yLit B n (yScan B n P) [112, 105, 110])).1) else yFail P 1
/-- where a line may begin, or go on -/
def yLn (P : ZPs) : Prop := P.T 1 0 = zi (sNp P.T) ∧ sNp P.T ≤ 6 ∧ P.T 0 0 = zi (sNf P.T) ∧ sNf P.T ≤ 64 ∧ ∀ p, p < 6 → ∃ m, P.T 2 (12 * p + 1) = zi m ∧ m ≤ 12
theorem yLn_eq {P Q : ZPs} (h : yLn P) (h0 : Q.T 0 = P.T 0) (h1 : Q.T 1 = P.T 1) (h2 : Q.T 2 = P.T 2) : yLn Q := by
  have e1 : sNp Q.T = sNp P.T := by unfold sNp; rw [h1]
  have e0 : sNf Q.T = sNf P.T := by unfold sNf; rw [h0]
  unfold yLn
  rw [e1, e0, h0, h1, h2]
  exact h
theorem yLn_T {P Q : ZPs} (h : yLn P) (e : Q.T = P.T) : yLn Q := yLn_eq h (by rw [e]) (by rw [e]) (by rw [e])
section
variable {X : ZX} {D : ZD2} {O : ZO2} {k : Nat × Nat × Nat} {n : Nat} {P : ZPs} {B : Nat → Int32}
theorem yLn_free (h : yLn P) : ∀ f, sFree P.T = some f → f < 64 := fun f hf => by
  have := (zfn_some hf).2.1
  have := h.2.2.2.1
  omega
theorem yLn_pg {pr : Int32} (h : yLn P) (hp : pr = zn ∨ ∃ p, pr = zi p ∧ p < 6) : pr = zn ∨ ∃ p m, pr = zi p ∧ p < 6 ∧ P.T 2 (12 * p + 1) = zi m ∧ m ≤ 12 := hp.imp id fun ⟨p, a, b⟩ => by
  obtain ⟨m, c, d⟩ := h.2.2.2.2 p b
  exact ⟨p, m, a, b, c, d⟩
theorem yKnown_1 (h : yLn P) : (yKnown B n P).1 = zn ∨ ∃ p, (yKnown B n P).1 = zi p ∧ p < 6 := by
  unfold yKnown
  split
  · split
    · exact Or.inl rfl
    · show yNamed P = zn ∨ ∃ p, yNamed P = zi p ∧ p < 6
      unfold yNamed
      rw [zff_o]
      cases hz : zfn (fun p => decide (P.T 2 (12 * p + 11) = P.va)) (sNp P.T) 0 with
      | none => exact Or.inl rfl
      | some j =>
        have := (zfn_some hz).2.1
        have := h.2.1
        exact Or.inr ⟨j, rfl, by omega⟩
  · exact Or.inl rfl
theorem yIn_ok {pr : Int32} (h : yW n P) : yW n (yIn B n P pr) ∧ (yIn B n P pr).T 0 = P.T 0 ∧ (yIn B n P pr).T 1 = P.T 1 ∧ (yIn B n P pr).T 2 = P.T 2 := by
  have hk := yNum_ok (B := B) (lo := zi 0) (hi := yPgs P.T pr - zi 1) h
  unfold yIn
  generalize zo (sFree P.T) = fr
  generalize yNum B n P (zi 0) (yPgs P.T pr - zi 1) = R at hk
  have hQ : yW n (yInQ R.2 (pr * zi 12 + R.1) (zi P.st)) ∧ (yInQ R.2 (pr * zi 12 + R.1) (zi P.st)).T = P.T := by
    unfold yInQ
    split
    · have := yFail_ok (P := R.2) (c := 3) (q := zi P.st) hk.1 (by omega)
      exact ⟨this.1, this.2.trans hk.2⟩
    · exact hk
  generalize yInQ R.2 (pr * zi 12 + R.1) (zi P.st) = Q at hQ
  have hQ2 : yW n (if fr = zn then yFailAt Q 4 (zi P.st) else Q) ∧ (if fr = zn then yFailAt Q 4 (zi P.st) else Q).T = P.T := by
    split
    · have := yFail_ok (P := Q) (c := 4) (q := zi P.st) hQ.1 (by omega)
      exact ⟨this.1, this.2.trans hQ.2⟩
    · exact hQ
  unfold yEnt
  generalize (if fr = zn then yFailAt Q 4 (zi P.st) else Q) = Q2 at hQ2
  split
  · have e1 := hQ.2
    refine ⟨hQ.1, ?_, ?_, ?_⟩ <;> (rw [show ∀ U : ZD2, (Q.wT U).T = U from fun _ => rfl]; unfold uEnter; rw [zw_row (by omega), zw_row (by omega), e1])
  · rw [hQ2.2]
    exact ⟨hQ2.1, rfl, rfl, rfl⟩
theorem c88 {pr : Int32} (hn : n ≤ 600) (h : yW n P) (hp : pr = zn ∨ ∃ p m, pr = zi p ∧ p < 6 ∧ P.T 2 (12 * p + 1) = zi m ∧ m ≤ 12) : zev X 88 0 [.ref 1, .int pr, zJ, zJ, zJ] [] (zHP (zps n D P) O, k) = some (.inl none, (zHP (zps n D (yPn (D 3) n P pr)) O, k)) := by
  have hp' : pr = zn ∨ ∃ p, pr = zi p ∧ p < 6 := hp.imp id fun ⟨p, m, a, b, _⟩ => ⟨p, a, b⟩
  refine b88_0.trans ?_
  rw [zl_1, p94p hp', zcon_inl]
  refine b88_19.trans ?_
  rw [zl_0, zl_1, d81 hn h, zcon_inl]
  refine b88_24.trans ?_
  have hrow := yRow_ok (B := D 3) (n := n) hp
  have hk := yNum_ok (B := D 3) (lo := zi 0) (hi := yPgs P.T pr - zi 1) h
  unfold yPn
  have hw : (yNum (D 3) n P (zi 0) (yPgs P.T pr - zi 1)).2.er = 0 → ∃ r, pr * zi 12 + (yNum (D 3) n P (zi 0) (yPgs P.T pr - zi 1)).1 = zi r ∧ r < 72 := fun q => by
    obtain ⟨p, m, g, _, a, _, b, c, _, _, d⟩ := hrow q
    exact ⟨12 * p + g, d, by omega⟩
  have hk1 := hk.1
  show zcon (zev X 21 0 [.int pr, .int (yNum (D 3) n P (zi 0) (yPgs P.T pr - zi 1)).1] [] _) _ = _
  generalize yNum (D 3) n P (zi 0) (yPgs P.T pr - zi 1) = R at hk1 hw
  rw [b21_0, zcon_inl, zl_12]
  refine b88_30.trans ?_
  rw [p27, zcon_inl]
  refine b88_41.trans ?_
  generalize pr * zi 12 + R.1 = w at hw
  unfold yPnQ yPnW
  cases hI : yPnr R.2.T w
  · rw [zl_0, if_pos zb_f, if_neg Bool.false_ne_true]
    refine b88_51.trans ?_
    by_cases h2 : R.2.er = 0
    · obtain ⟨r, rfl, hr⟩ := hw h2
      have h2' : zps n D R.2 1 7 = 0 := by rw [zps17, h2]; rfl
      rw [if_pos h2', if_pos h2, zl_2, zl_1, p93t hr, zcon_inl, zi_toNat (by omega)]
      exact b88_72
    · have g2 := hk1.2.2
      have h2' : ¬ zps n D R.2 1 7 = 0 := by rw [zps17, zl_0, zi_inj (by omega) (by omega)]; exact h2
      rw [if_neg h2', if_neg h2]
      exact b88_72
  · have g1 := yFail_ok (P := R.2) (c := 3) (q := zi P.st) hk1 (by omega)
    have g2 := yFail_ne (P := R.2) (q := zi P.st) (show 3 ≠ 0 by omega)
    have g3 := g1.1.2.2
    rw [zl_0, if_neg (by rw [zb_0]; exact Bool.noConfusion), zl_3, zps15, d80 hk1, zcon_inl, if_pos rfl, if_neg g2]
    refine b88_50.trans ?_
    refine b88_51.trans ?_
    have h2' : ¬ zps n D (yFailAt R.2 3 (zi P.st)) 1 7 = 0 := by rw [zps17, zl_0, zi_inj (by omega) (by omega)]; exact g2
    rw [if_neg h2']
    exact b88_72
theorem c85l {pr : Int32} (hn : n ≤ 600) (hp : pr = zn ∨ ∃ p, pr = zi p ∧ p < 6) : ∀ f i (P : ZPs), i + f = 13 → yW n P → yLn P → zev X 85 16 [.ref 1, .int pr, .int (zi i)] [] (zHP (zps n D P) O, k) = some (.inl none, (zHP (zps n D (yInL (D 3) n pr f P)) O, k))
  | 0, i, P, hi, h, hl => by
    refine b85_16.trans ?_
    have h1 : ¬ zi i < 13 := by rw [zl_13, zi_lt (by omega) (by omega)]; omega
    rw [if_neg h1]
    rfl
  | f + 1, i, P, hi, h, hl => by
    refine b85_16.trans ?_
    have h1 : zi i < 13 := by rw [zl_13, zi_lt (by omega) (by omega)]; omega
    have w1 := h.2.1
    have w2 := h.2.2
    rw [if_pos h1, yInL]
    by_cases h2 : P.kd = 2
    · have h2' : zps n D P 1 4 = 2 := by rw [zps14, h2]; rfl
      rw [if_pos h2']
      by_cases h3 : P.er = 0
      · have h3' : zps n D P 1 7 = 0 := by rw [zps17, h3]; rfl
        rw [if_pos h3', if_pos ⟨h2, h3⟩, c87 hn h (yLn_pg hl hp) hl.2.2.1 hl.2.2.2.1 (yLn_free hl), zcon_inl]
        refine b85_42.trans ?_
        have g := yIn_ok (B := D 3) (pr := pr) h
        rw [zl_1, zi_add, c85l hn hp f (i + 1) (yIn (D 3) n P pr) (by omega) g.1 (yLn_eq hl g.2.1 g.2.2.1 g.2.2.2)]
      · have h3' : ¬ zps n D P 1 7 = 0 := by rw [zps17, zl_0, zi_inj (by omega) (by omega)]; exact h3
        rw [if_neg h3', if_neg fun q => h3 q.2]
    · have h2' : ¬ zps n D P 1 4 = 2 := by rw [zps14, zl_2, zi_inj (by omega) (by omega)]; exact h2
      rw [if_neg h2', if_neg fun q => h2 q.1]
theorem d86 (hn : n ≤ 600) (h : yW n P) (hl : yLn P) : zev X 86 0 [.ref 1, zJ] [] (zHP (zps n D P) O, k) = some (.inl (some (.int (yKnown (D 3) n P).1)), (zHP (zps n D (yKnown (D 3) n P).2) O, k)) := c86 hn h.1 (Nat.lt_of_le_of_lt h.2.1 (by omega)) (Nat.lt_of_le_of_lt h.2.2 (by omega)) hl.1 hl.2.1
theorem d84 (hn : n ≤ 600) (h : yW n P) (hl : yLn P) : zev X 84 0 [.ref 1, zJ] [] (zHP (zps n D P) O, k) = some (.inl (some (.int (yFresh (D 3) n P).1)), (zHP (zps n D (yFresh (D 3) n P).2) O, k)) := c84 hn h.1 (Nat.lt_of_le_of_lt h.2.1 (by omega)) (Nat.lt_of_le_of_lt h.2.2 (by omega)) hl.1 hl.2.1
theorem c85 (hn : n ≤ 600) (h : yW n P) (hl : yLn P) : zev X 85 0 [.ref 1, zJ, zJ] [] (zHP (zps n D P) O, k) = some (.inl none, (zHP (zps n D (yInl (D 3) n P)) O, k)) := by
  refine b85_0.trans ?_
  rw [d76 hn h, zcon_inl]
  refine b85_4.trans ?_
  have h1 := yScan_ok (B := D 3) h
  unfold yInl
  have hl1 := yLn_T hl h1.2.1
  have hw1 := h1.1
  generalize yScan (D 3) n P = P1 at hl1 hw1
  rw [d86 hn hw1 hl1, zcon_inl]
  refine b85_8.trans ?_
  have hq := yKnown_1 (B := D 3) (n := n) hl1
  have h2 := yKnown_ok (B := D 3) hw1
  have hl2 := yLn_T hl1 h2.2
  have hw2 := h2.1
  generalize yKnown (D 3) n P1 = K at hq hl2 hw2
  show zcon (zev X 87 0 [.ref 1, .int K.1, zJ, zJ, zJ, zJ] [] _) _ = _
  rw [c87 hn hw2 (yLn_pg hl2 hq) hl2.2.2.1 hl2.2.2.2.1 (yLn_free hl2), zcon_inl]
  refine b85_14.trans ?_
  have g := yIn_ok (B := D 3) (pr := K.1) hw2
  rw [zl_1]
  exact c85l hn hq 12 1 _ (by omega) g.1 (yLn_eq hl2 g.2.1 g.2.2.1 g.2.2.2)
theorem c83 (hn : n ≤ 600) (h : yW n P) (hl : yLn P) : zev X 83 0 [.ref 1, zJ, zJ, zJ, zJ] [] (zHP (zps n D P) O, k) = some (.inl none, (zHP (zps n D (yRun (D 3) n P)) O, k)) := by
  have w6 := hl.2.1
  refine b83_0.trans ?_
  rw [p18, zcon_inl]
  refine b83_7.trans ?_
  unfold yRun
  by_cases h1 : sNp P.T < 6
  · have h1' : P.T 1 0 < 6 := by rw [hl.1, zl_6, zi_lt (by omega) (by omega)]; exact h1
    rw [if_pos h1', if_pos h1, d76 hn h, zcon_inl]
    refine b83_27.trans ?_
    have s1 := yScan_ok (B := D 3) h
    rw [d84 hn s1.1 (yLn_T hl s1.2.1), zcon_inl]
    refine b83_31.trans ?_
    have eA : yFresh (D 3) n (yScan (D 3) n P) = yRunA (D 3) n P := rfl
    have sA := yFresh_ok (B := D 3) s1.1
    rw [eA] at sA ⊢
    have tA : (yRunA (D 3) n P).2.T = P.T := sA.2.trans s1.2.1
    rw [zl_1, zl_99, d81 hn sA.1, zcon_inl]
    refine b83_39.trans ?_
    have eB : yNum (D 3) n (yRunA (D 3) n P).2 (zi 1) (zi 99) = yRunB (D 3) n P := rfl
    have sB := yNum_ok (B := D 3) (lo := zi 1) (hi := zi 99) sA.1
    rw [eB] at sB ⊢
    rw [zl_1, zl_12, d81 hn sB.1, zcon_inl]
    refine b83_47.trans ?_
    have eC : yNum (D 3) n (yRunB (D 3) n P).2 (zi 1) (zi 12) = yRunC (D 3) n P := rfl
    have sC := yNum_ok (B := D 3) (lo := zi 1) (hi := zi 12) sB.1
    rw [eC] at sC ⊢
    have tC : (yRunC (D 3) n P).2.T = P.T := sC.2.trans (sB.2.trans tA)
    rw [c79_4 (Nat.lt_of_le_of_lt sC.1.2.1 (by omega)), zcon_inl]
    refine b83_57.trans ?_
    have eD : yRunD (D 3) n P = if yIs (yRunC (D 3) n P).2 [98, 108, 117, 102, 102] = true then yNum (D 3) n (yScan (D 3) n (yRunC (D 3) n P).2) (zi 0) (zi 99) else (zi 0, (yRunC (D 3) n P).2) := rfl
    cases hI : yIs (yRunC (D 3) n P).2 [98, 108, 117, 102, 102]
    · rw [hI, if_neg Bool.false_ne_true] at eD
      rw [eD, zl_0, if_pos zb_f]
      have hn1 : (yRunC (D 3) n P).2.T 1 0 = zi (sNp P.T) := by rw [tC]; exact hl.1
      show zcon (zev X 20 0 [.ref 4, .int (yRunA (D 3) n P).1, .int (yRunB (D 3) n P).1, .int (yRunC (D 3) n P).1, .int (zi 0), zJ] [] _) _ = _
      rw [p20 hn1 h1, zcon_inl]
      exact b83_85
    · rw [hI, if_pos rfl] at eD
      rw [zl_0, if_neg (by rw [zb_0]; exact Bool.noConfusion), d76 hn sC.1, zcon_inl]
      refine b83_64.trans ?_
      have s3 := yScan_ok (B := D 3) sC.1
      rw [zl_0, zl_99, d81 hn s3.1, zcon_inl]
      refine b83_71.trans ?_
      have sD := yNum_ok (B := D 3) (lo := zi 0) (hi := zi 99) s3.1
      rw [← eD] at sD ⊢
      have hn1 : (yRunD (D 3) n P).2.T 1 0 = zi (sNp P.T) := by rw [sD.2, s3.2.1, tC]; exact hl.1
      show zcon (zev X 20 0 [.ref 4, .int (yRunA (D 3) n P).1, .int (yRunB (D 3) n P).1, .int (yRunC (D 3) n P).1, .int (yRunD (D 3) n P).1, zJ] [] _) _ = _
      rw [p20 hn1 h1, zcon_inl]
      exact b83_85
  · have h1' : ¬ P.T 1 0 < 6 := by rw [hl.1, zl_6, zi_lt (by omega) (by omega)]; exact h1
    rw [if_neg h1', if_neg h1, zl_4, zps15, d80 h, zcon_inl]
    exact b83_21
theorem c82 (hn : n ≤ 600) (h : yW n P) (hl : yLn P) : zev X 82 0 [.ref 1] [] (zHP (zps n D P) O, k) = some (.inl none, (zHP (zps n D (yLine (D 3) n P)) O, k)) := by
  refine b82_0.trans ?_
  unfold yLine
  have w1 := h.2.1
  by_cases h1 : P.kd = 3
  · have h1' : zps n D P 1 4 = 3 := by rw [zps14, h1]; rfl
    rw [if_pos h1', if_pos h1, d76 hn h, zcon_inl]
    refine b82_23.trans ?_
    have s1 := yScan_ok (B := D 3) h
    have hl1 := yLn_T hl s1.2.1
    have hw1 := s1.1
    generalize yScan (D 3) n P = S at hl1 hw1
    have k1 : S.kd < 2147483648 := Nat.lt_of_le_of_lt hw1.2.1 (by omega)
    have k2 : S.er < 2147483648 := Nat.lt_of_le_of_lt hw1.2.2 (by omega)
    rw [c79_1 k1, zcon_inl]
    refine b82_29.trans ?_
    cases hR : yIs S [114, 117, 110]
    · rw [zl_0, if_pos zb_f, if_neg Bool.false_ne_true, c79_2 k1, zcon_inl]
      refine b82_45.trans ?_
      cases hI : yIs S [105, 110]
      · rw [zl_0, if_pos zb_f, if_neg Bool.false_ne_true, c78_3 hn hw1.1 k1 k2, zcon_inl]
        refine b82_61.trans ?_
        have s2 := yLit_ok (B := D 3) (l := [112, 105, 110]) hw1
        have hl2 := yLn_T hl1 s2.2
        have hw2 := s2.1
        generalize yLit (D 3) n S [112, 105, 110] = L at hl2 hw2
        rw [d86 hn hw2 hl2, zcon_inl]
        refine b82_66.trans ?_
        have hq := yKnown_1 (B := D 3) (n := n) hl2
        have s3 := yKnown_ok (B := D 3) hw2
        have hl3 := yLn_T hl2 s3.2
        have hw3 := s3.1
        generalize yKnown (D 3) n L = K at hq hl3 hw3
        rw [c88 hn hw3 (yLn_pg hl3 hq), zcon_inl]
        exact b82_69
      · rw [zl_0, if_neg (by rw [zb_0]; exact Bool.noConfusion), if_pos rfl, c85 hn hw1 hl1, zcon_inl]
        refine b82_52.trans ?_
        exact b82_69
    · rw [zl_0, if_neg (by rw [zb_0]; exact Bool.noConfusion), if_pos rfl, c83 hn hw1 hl1, zcon_inl]
      refine b82_36.trans ?_
      exact b82_69
  · have h1' : ¬ zps n D P 1 4 = 3 := by rw [zps14, zl_3, zi_inj (by omega) (by omega)]; exact h1
    rw [if_neg h1', if_neg h1, zl_1, zps15, d80 h, zcon_inl]
    exact b82_17
end
