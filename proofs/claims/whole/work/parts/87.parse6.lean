/-! The class's parser: all of it. -/
section
variable {X : ZX} {D : ZD2} {O : ZO2} {k : Nat × Nat × Nat} {n : Nat} {P : ZPs} {B : Nat → Int32}
theorem ySt_0 {P Q : ZPs} (h : ySt P Q) (e : Q.er = 0) : P.er = 0 := by
  by_cases h0 : P.er = 0
  · exact h0
  · rw [(h h0).1] at e
    exact e
theorem yEnt_st {P Q : ZPs} {w fr pl : Int32} (h : ySt P Q) : ySt P (yEnt Q w fr pl) := by
  have h2 : ySt P (if fr = zn then yFailAt Q 4 pl else Q) := by
    split
    · exact ySt_tr h ySt_fail
    · exact h
  unfold yEnt
  generalize (if fr = zn then yFailAt Q 4 pl else Q) = G at h2
  split
  · intro he
    exact h he
  · exact h2
theorem yInQ_st {P R : ZPs} {w pl : Int32} (h : ySt P R) : ySt P (yInQ R w pl) := by
  unfold yInQ
  split
  · exact ySt_tr h ySt_fail
  · exact h
theorem yPnQ_st {P R : ZPs} {w pl : Int32} (h : ySt P R) : ySt P (yPnQ R w pl) := by
  unfold yPnQ
  split
  · exact ySt_tr h ySt_fail
  · exact h
theorem yPnW_st {P R : ZPs} {w : Int32} (h : ySt P R) : ySt P (yPnW R w) := by
  unfold yPnW
  split
  · exact h
  · exact h
theorem yIn_st {pr : Int32} (h : yW n P) : ySt P (yIn B n P pr) := yEnt_st (yInQ_st (ySt_num h))
theorem yPn_st {pr : Int32} (h : yW n P) : ySt P (yPn B n P pr) := yPnW_st (yPnQ_st (ySt_num h))
/-- a page taken in: what then holds -/
theorem yIn_0 {pr : Int32} (hW : yW n P) (hl : yLn P) (hp : pr = zn ∨ ∃ p, pr = zi p ∧ p < 6) (h : (yIn B n P pr).er = 0) : ∃ p g m f, pr = zi p ∧ p < 6 ∧ P.T 2 (12 * p + 1) = zi m ∧ m ≤ 12 ∧ g < m ∧ P.er = 0 ∧ P.kd = 2 ∧ P.va = zi g ∧ sIn P.T (12 * p + g) = false ∧ sFree P.T = some f ∧ f < 64 ∧ yIn B n P pr = (yScan B n P).wT (uEnter P.T (12 * p + g) f) := by
  have hR : (yNum B n P (zi 0) (yPgs P.T pr - zi 1)).2.er = 0 := ySt_0 (yEnt_st (yInQ_st ySt_rfl)) h
  obtain ⟨p, m, g, e1, h6, e2, h12, hg, ev, eR, ew⟩ := yRow_ok (yLn_pg hl hp) hR
  obtain ⟨k1, -, -, k4⟩ := yNum_0 hR
  have s := yScan_ok (B := B) hW
  have he : P.er = 0 := by
    rw [← s.2.2.1]
    rw [k4] at hR
    exact hR
  unfold yIn at h ⊢
  rw [ew, eR] at h ⊢
  have q1 : yInr (yScan B n P).T (zi (12 * p + g)) = sIn P.T (12 * p + g) := by
    unfold yInr sIn
    rw [yG3_zi (by omega) (by omega), s.2.1]
    rfl
  have q2 : sIn P.T (12 * p + g) = false := by
    cases hs : sIn P.T (12 * p + g)
    · rfl
    · exfalso
      have st : ySt (yInQ (yScan B n P) (zi (12 * p + g)) (zi P.st)) (yEnt (yInQ (yScan B n P) (zi (12 * p + g)) (zi P.st)) (zi (12 * p + g)) (zo (sFree P.T)) (zi P.st)) := yEnt_st ySt_rfl
      have e0 := ySt_0 st h
      unfold yInQ at e0
      rw [q1, hs, if_pos rfl] at e0
      exact yFail_ne (by omega) e0
  have e3 : yInQ (yScan B n P) (zi (12 * p + g)) (zi P.st) = yScan B n P := by
    unfold yInQ
    rw [q1, q2, if_neg Bool.false_ne_true]
  have e3' : yInQ (zi g, yScan B n P).2 (zi (12 * p + g)) (zi P.st) = yScan B n P := e3
  rw [e3'] at h ⊢
  cases hS : sFree P.T with
  | none =>
    exfalso
    rw [hS] at h
    unfold yEnt at h
    rw [show zo none = zn from rfl, if_pos rfl] at h
    have g0 := yFail_ne (P := yScan B n P) (q := zi P.st) (show 4 ≠ 0 by omega)
    rw [if_neg g0] at h
    exact g0 h
  | some f =>
    have f64 := yLn_free hl f hS
    refine ⟨p, g, m, f, e1, h6, e2, h12, hg, he, k1, ev, q2, rfl, f64, ?_⟩
    unfold yEnt
    have z : ¬ zo (some f) = zn := by
      show ¬ zi f = zn
      rw [zi_ne_zn (by omega)]
      exact False.elim
    have s0 : (yScan B n P).er = 0 := by rw [s.2.2.1]; exact he
    rw [if_neg z, if_pos s0, s.2.1, show zo (some f) = zi f from rfl, zi_toNat (by omega), zi_toNat (by omega)]
theorem yPn_0 {pr : Int32} (hW : yW n P) (hl : yLn P) (hp : pr = zn ∨ ∃ p, pr = zi p ∧ p < 6) (h : (yPn B n P pr).er = 0) : ∃ p g m, pr = zi p ∧ p < 6 ∧ P.T 2 (12 * p + 1) = zi m ∧ m ≤ 12 ∧ g < m ∧ P.er = 0 ∧ P.kd = 2 ∧ P.va = zi g ∧ sPin P.T (12 * p + g) = false ∧ yPn B n P pr = (yScan B n P).wT (zw P.T 3 (5 * (12 * p + g) + 2) (zi 1)) := by
  have hR : (yNum B n P (zi 0) (yPgs P.T pr - zi 1)).2.er = 0 := ySt_0 (yPnW_st (yPnQ_st ySt_rfl)) h
  obtain ⟨p, m, g, e1, h6, e2, h12, hg, ev, eR, ew⟩ := yRow_ok (yLn_pg hl hp) hR
  obtain ⟨k1, -, -, k4⟩ := yNum_0 hR
  have s := yScan_ok (B := B) hW
  have he : P.er = 0 := by
    rw [← s.2.2.1]
    rw [k4] at hR
    exact hR
  unfold yPn at h ⊢
  rw [ew, eR] at h ⊢
  have q1 : yPnr (yScan B n P).T (zi (12 * p + g)) = sPin P.T (12 * p + g) := by
    unfold yPnr sPin
    rw [yG3_zi (by omega) (by omega), s.2.1]
  have q2 : sPin P.T (12 * p + g) = false := by
    cases hs : sPin P.T (12 * p + g)
    · rfl
    · exfalso
      have st : ySt (yPnQ (yScan B n P) (zi (12 * p + g)) (zi P.st)) (yPnW (yPnQ (yScan B n P) (zi (12 * p + g)) (zi P.st)) (zi (12 * p + g))) := yPnW_st ySt_rfl
      have e0 := ySt_0 st h
      unfold yPnQ at e0
      rw [q1, hs, if_pos rfl] at e0
      exact yFail_ne (by omega) e0
  refine ⟨p, g, m, e1, h6, e2, h12, hg, he, k1, ev, q2, ?_⟩
  have e3 : yPnQ (zi g, yScan B n P).2 (zi (12 * p + g)) (zi P.st) = yScan B n P := by
    unfold yPnQ
    rw [q1, q2, if_neg Bool.false_ne_true]
  have s0 : (yScan B n P).er = 0 := by rw [s.2.2.1]; exact he
  rw [e3]
  unfold yPnW
  rw [if_pos s0, s.2.1, zi_toNat (by omega)]
end
