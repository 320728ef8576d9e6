/-! The class's parser: what stays, the settings. -/
def yW (n : Nat) (P : ZPs) : Prop := P.nx ≤ n ∧ P.kd ≤ 4 ∧ P.er ≤ 4
section
variable {X : ZX} {D : ZD2} {O : ZO2} {k : Nat × Nat × Nat} {n : Nat} {P : ZPs} {B : Nat → Int32}
theorem yTok_ok (h : P.nx ≤ n) (he : P.er ≤ 4) : yW n (yTok B n P) ∧ (yTok B n P).T = P.T ∧ (yTok B n P).er = P.er ∧ (yTok B n P).ep = P.ep := by
  unfold yTok
  split
  · exact ⟨⟨h, Nat.zero_le _, he⟩, rfl, rfl, rfl⟩
  · split
    · refine ⟨⟨zgo_n _ _ _ _ _ h, ?_, he⟩, rfl, rfl, rfl⟩
      show (if _ then 4 else 1) ≤ 4
      split <;> omega
    · split
      · refine ⟨⟨zgo_n _ _ _ _ _ h, ?_, he⟩, rfl, rfl, rfl⟩
        show (if _ then 4 else 2) ≤ 4
        split <;> omega
      · refine ⟨⟨?_, ?_, he⟩, rfl, rfl, rfl⟩
        · show P.nx + 1 ≤ n
          omega
        · show (if _ then 3 else 4) ≤ 4
          split <;> omega
theorem yScan_ok (h : yW n P) : yW n (yScan B n P) ∧ (yScan B n P).T = P.T ∧ (yScan B n P).er = P.er ∧ (yScan B n P).ep = P.ep := by
  have g : (yAft B n P).nx ≤ n := zgo_n _ _ _ _ _ h.1
  obtain ⟨a, b, c, d⟩ := yTok_ok (B := B) g (show (yAft B n P).er ≤ 4 from h.2.2)
  exact ⟨a, b, c, d⟩
theorem yFail_ok {c : Nat} {q : Int32} (h : yW n P) (hc : c ≤ 4) : yW n (yFailAt P c q) ∧ (yFailAt P c q).T = P.T := by
  unfold yFailAt
  split
  · exact ⟨⟨h.1, h.2.1, hc⟩, rfl⟩
  · exact ⟨h, rfl⟩
/-- what has failed stays so -/
theorem yFail_er {c : Nat} {q : Int32} (h : P.er ≠ 0) : yFailAt P c q = P := by
  unfold yFailAt
  rw [if_neg h]
theorem yFail_ne {c : Nat} {q : Int32} (hc : c ≠ 0) : (yFailAt P c q).er ≠ 0 := by
  unfold yFailAt
  split
  · exact hc
  · assumption
theorem yLit_ok {l : List Int32} (h : yW n P) : yW n (yLit B n P l) ∧ (yLit B n P l).T = P.T := by
  unfold yLit
  split
  · exact ⟨(yScan_ok h).1, (yScan_ok h).2.1⟩
  · exact yFail_ok h (by omega)
theorem yNum_ok {lo hi : Int32} (h : yW n P) : yW n (yNum B n P lo hi).2 ∧ (yNum B n P lo hi).2.T = P.T := by
  unfold yNum
  split
  · split
    · exact yFail_ok h (by omega)
    · exact ⟨(yScan_ok h).1, (yScan_ok h).2.1⟩
  · exact yFail_ok h (by omega)
theorem yFresh_ok (h : yW n P) : yW n (yFresh B n P).2 ∧ (yFresh B n P).2.T = P.T := by
  unfold yFresh
  split
  · split
    · exact ⟨(yScan_ok h).1, (yScan_ok h).2.1⟩
    · exact yFail_ok h (by omega)
  · exact yFail_ok h (by omega)
theorem yKnown_ok (h : yW n P) : yW n (yKnown B n P).2 ∧ (yKnown B n P).2.T = P.T := by
  unfold yKnown
  split
  · split
    · exact yFail_ok h (by omega)
    · exact ⟨(yScan_ok h).1, (yScan_ok h).2.1⟩
  · exact yFail_ok h (by omega)
theorem yScan_er (h : yW n P) (he : P.er ≠ 0) : (yScan B n P).er ≠ 0 := by rw [(yScan_ok h).2.2.1]; exact he
/-- once failed, the error and its place stay -/
def ySt (P Q : ZPs) : Prop := P.er ≠ 0 → Q.er = P.er ∧ Q.ep = P.ep
theorem ySt_tr {P Q R : ZPs} (h1 : ySt P Q) (h2 : ySt Q R) : ySt P R := fun he => by
  obtain ⟨a, b⟩ := h1 he
  obtain ⟨c, d⟩ := h2 (by rw [a]; exact he)
  exact ⟨c.trans a, d.trans b⟩
theorem ySt_rfl : ySt P P := fun _ => ⟨rfl, rfl⟩
theorem ySt_fail {c : Nat} {q : Int32} : ySt P (yFailAt P c q) := fun he => by rw [yFail_er he]; exact ⟨rfl, rfl⟩
theorem ySt_scan (h : yW n P) : ySt P (yScan B n P) := fun _ => (yScan_ok h).2.2
theorem ySt_lit {l : List Int32} (h : yW n P) : ySt P (yLit B n P l) := by
  unfold yLit
  split
  · exact ySt_scan h
  · exact ySt_fail
theorem ySt_num {lo hi : Int32} (h : yW n P) : ySt P (yNum B n P lo hi).2 := by
  unfold yNum
  split
  · split
    · exact ySt_fail
    · exact ySt_scan h
  · exact ySt_fail
theorem ySt_fresh (h : yW n P) : ySt P (yFresh B n P).2 := by
  unfold yFresh
  split
  · split
    · exact ySt_scan h
    · exact ySt_fail
  · exact ySt_fail
theorem ySt_known (h : yW n P) : ySt P (yKnown B n P).2 := by
  unfold yKnown
  split
  · split
    · exact ySt_fail
    · exact ySt_scan h
  · exact ySt_fail
theorem p93 {c : Nat} {v : Int32} (hc : c < 5) : zev X 93 0 [.ref 5, .int (zi 0), .int (zi c), .int v, zJ] [] (zHP (zps n D P) O, k) = some (.inl none, (zHP (zps n D (P.wT (zw P.T 0 c v))) O, k)) := tp0 hm4 hc
theorem d76 (hn : n ≤ 600) (h : yW n P) : zev X 76 0 [.ref 1] [] (zHP (zps n D P) O, k) = some (.inl none, (zHP (zps n D (yScan (D 3) n P)) O, k)) := c76 hn h.1
theorem d81 {lo hi : Int32} (hn : n ≤ 600) (h : yW n P) : zev X 81 0 [.ref 1, .int lo, .int hi, zJ] [] (zHP (zps n D P) O, k) = some (.inl (some (.int (yNum (D 3) n P lo hi).1)), (zHP (zps n D (yNum (D 3) n P lo hi).2) O, k)) := c81 hn h.1 (Nat.lt_of_le_of_lt h.2.1 (by omega)) (Nat.lt_of_le_of_lt h.2.2 (by omega))
theorem d80 {c : Nat} {q : Int32} (h : yW n P) : zev X 80 0 [.ref 1, .int (zi c), .int q] [] (zHP (zps n D P) O, k) = some (.inl (some (.int zn)), (zHP (zps n D (yFailAt P c q)) O, k)) := c80 (Nat.lt_of_le_of_lt h.2.2 (by omega))
def yPut (P : ZPs) (c : Nat) (v : Int32) : ZPs := P.wT (zw P.T 0 c v)
theorem yPut_ok {c : Nat} {v : Int32} (h : yW n P) : yW n (yPut P c v) := h
def yNpt (B : Nat → Int32) (n : Nat) (P : ZPs) (lo hi : Int32) (c : Nat) : ZPs := yPut (yNum B n P lo hi).2 c (yNum B n P lo hi).1
theorem yNpt_ok {lo hi : Int32} {c : Nat} (h : yW n P) : yW n (yNpt B n P lo hi c) := yPut_ok (yNum_ok h).1
theorem ySt_npt {lo hi : Int32} {c : Nat} (h : yW n P) : ySt P (yNpt B n P lo hi c) := ySt_num h
/-- the settings, up to the warranty -/
def ySt3 (B : Nat → Int32) (n : Nat) (P : ZPs) : ZPs := yNpt B n (yNpt B n (yNpt B n (yLit B n P [102, 114, 97, 109, 101, 115]) (zi 2) (zi 64) 0) (zi 0) (zi 200) 1) (zi 0) (zi 20) 2
def yWar (B : Nat → Int32) (n : Nat) (P : ZPs) : Int32 × ZPs := yNum B n (ySt3 B n P) (zi 0) (zi 200)
def ySet (B : Nat → Int32) (n : Nat) (P : ZPs) : ZPs := yNpt B n (yPut (yWar B n P).2 3 (yWar B n P).1) (zi 0) (yWar B n P).1 4
theorem ySt3_ok (h : yW n P) : yW n (ySt3 B n P) := yNpt_ok (yNpt_ok (yNpt_ok (yLit_ok h).1))
theorem ySet_ok (h : yW n P) : yW n (ySet B n P) := yNpt_ok (yPut_ok (yNum_ok (ySt3_ok h)).1)
theorem c77 (hn : n ≤ 600) (h : yW n P) : zev X 77 0 [.ref 1, zJ] [] (zHP (zps n D P) O, k) = some (.inl none, (zHP (zps n D (ySet (D 3) n P)) O, k)) := by
  refine b77_0.trans ?_
  rw [c78_0 hn h.1 (Nat.lt_of_le_of_lt h.2.1 (by omega)) (Nat.lt_of_le_of_lt h.2.2 (by omega)), zcon_inl]
  refine b77_6.trans ?_
  have h1 := (yLit_ok (B := D 3) (l := [102, 114, 97, 109, 101, 115]) h).1
  unfold ySet yWar ySt3
  generalize yLit (D 3) n P [102, 114, 97, 109, 101, 115] = P1 at h1
  rw [d81 hn h1, zcon_inl]
  refine b77_22.trans ?_
  rw [zl_0, p93 (by omega), zcon_inl]
  refine b77_25.trans ?_
  have e1 : (yNum (D 3) n P1 2 64).2.wT (zw (yNum (D 3) n P1 2 64).2.T 0 0 (yNum (D 3) n P1 2 64).1) = yNpt (D 3) n P1 (zi 2) (zi 64) 0 := rfl
  have h2 := yNpt_ok (B := D 3) (lo := zi 2) (hi := zi 64) (c := 0) h1
  rw [e1]
  generalize yNpt (D 3) n P1 (zi 2) (zi 64) 0 = P2 at h2
  rw [d81 hn h2, zcon_inl]
  refine b77_42.trans ?_
  rw [zl_0, zl_1, p93 (by omega), zcon_inl]
  refine b77_45.trans ?_
  have e2 : (yNum (D 3) n P2 (zi 0) 200).2.wT (zw (yNum (D 3) n P2 (zi 0) 200).2.T 0 1 (yNum (D 3) n P2 (zi 0) 200).1) = yNpt (D 3) n P2 (zi 0) (zi 200) 1 := rfl
  have h3 := yNpt_ok (B := D 3) (lo := zi 0) (hi := zi 200) (c := 1) h2
  rw [e2]
  generalize yNpt (D 3) n P2 (zi 0) (zi 200) 1 = P3 at h3
  rw [d81 hn h3, zcon_inl]
  refine b77_61.trans ?_
  rw [zl_0, zl_2, p93 (by omega), zcon_inl]
  refine b77_64.trans ?_
  have e3 : (yNum (D 3) n P3 (zi 0) 20).2.wT (zw (yNum (D 3) n P3 (zi 0) 20).2.T 0 2 (yNum (D 3) n P3 (zi 0) 20).1) = yNpt (D 3) n P3 (zi 0) (zi 20) 2 := rfl
  have h4 := yNpt_ok (B := D 3) (lo := zi 0) (hi := zi 20) (c := 2) h3
  rw [e3]
  generalize yNpt (D 3) n P3 (zi 0) (zi 20) 2 = P4 at h4
  rw [d81 hn h4, zcon_inl]
  refine b77_72.trans ?_
  have h5 := (yNum_ok (B := D 3) (lo := zi 0) (hi := zi 200) h4).1
  have e4 : yNum (D 3) n P4 0 200 = yNum (D 3) n P4 (zi 0) (zi 200) := rfl
  rw [e4]
  generalize yNum (D 3) n P4 (zi 0) (zi 200) = R at h5
  rw [zl_0, zl_3, p93 (by omega), zcon_inl]
  refine b77_86.trans ?_
  have e5 : R.2.wT (zw R.2.T 0 3 R.1) = yPut R.2 3 R.1 := rfl
  rw [e5]
  have h6 := yPut_ok (c := 3) (v := R.1) h5
  generalize yPut R.2 3 R.1 = P5 at h6
  rw [d81 hn h6, zcon_inl]
  refine b77_101.trans ?_
  rw [zl_0, zl_4, p93 (by omega), zcon_inl]
  exact b77_104
end
