/-! The class's parser: the lines. -/
/-- what stands at a row told by any int -/
def yG3 (T : ZD2) (w : Int32) (c : Nat) : Int32 := if w * zi 5 + zi c < zi 0 then zi 0 else if w * zi 5 + zi c < zi 360 then T 3 (w * zi 5 + zi c).toNatClampNeg else zi 0
def yPgs (T : ZD2) (pr : Int32) : Int32 := if pr = zn then zi 0 else T 2 (12 * pr.toNatClampNeg + 1)
theorem yclamp {i : Int32} (h0 : ¬ i < zi 0) (h : i < zi 360) : ¬ (i < zi 0 ∨ 360 ≤ i.toNatClampNeg) := by
  intro q
  rcases q with q | q
  · exact h0 q
  · have e1 := Int32.lt_iff_toInt_lt.mp h
    rw [zi_toInt (by omega)] at e1
    have e2 : i.toNatClampNeg = i.toInt.toNat := rfl
    omega
section
variable {X : ZX} {D : ZD2} {O : ZO2} {k : Nat × Nat × Nat} {n : Nat} {P : ZPs} {B : Nat → Int32}
theorem yG3_zi {T : ZD2} {r c : Nat} (hr : r < 72) (hc : c < 5) : yG3 T (zi r) c = T 3 (5 * r + c) := by
  have e : zi r * zi 5 + zi c = zi (5 * r + c) := by rw [zi_mul, zi_add, Nat.mul_comm]
  unfold yG3
  have h1 : ¬ zi (5 * r + c) < zi 0 := by rw [zi_lt (by omega) (by omega)]; omega
  have h2 : zi (5 * r + c) < zi 360 := by rw [zi_lt (by omega) (by omega)]; omega
  rw [e, if_neg h1, if_pos h2, zi_toNat (by omega)]
theorem p94w {w : Int32} {c : Nat} (hc : c < 5) : zev X 94 0 [.ref 11, .int w, .int (zi c), zJ] [] (zHP (zps n D P) O, k) = some (.inl (some (.int (yG3 P.T w c))), (zHP (zps n D P) O, k)) := by
  refine (b94_0 (show zisT 11 (zi 72) (zi 5) 360 from hm4.2.2.2.2.1)).trans ?_
  have h1 : ¬ zi c < zi 0 := by rw [zi_lt (by omega) (by omega)]; omega
  have h2 : zi c < zi 5 := by rw [zi_lt (by omega) (by omega)]; exact hc
  rw [zl_0, if_neg h1, if_pos h2]
  unfold yG3
  by_cases h3 : w * zi 5 + zi c < zi 0
  · rw [if_pos h3, if_pos h3]
  · rw [if_neg h3, if_neg h3]
    by_cases h4 : w * zi 5 + zi c < zi 360
    · have h4' : w * zi 5 + zi c < Int32.ofNat 360 := h4
      rw [if_pos h4, if_pos h4', if_neg (yclamp h3 h4)]
      rfl
    · have h4' : ¬ w * zi 5 + zi c < Int32.ofNat 360 := h4
      rw [if_neg h4, if_neg h4']
theorem p94p {pr : Int32} (hp : pr = zn ∨ ∃ p, pr = zi p ∧ p < 6) : zev X 94 0 [.ref 9, .int pr, .int (zi 1), zJ] [] (zHP (zps n D P) O, k) = some (.inl (some (.int (yPgs P.T pr))), (zHP (zps n D P) O, k)) := by
  rcases hp with rfl | ⟨p, rfl, hp⟩
  · refine (b94_0 (show zisT 9 (zi 6) (zi 12) 72 from hm4.2.2.2.1)).trans ?_
    have h1 : ¬ zi 1 < (0 : Int32) := by decide
    have h2 : zi 1 < zi 12 := by decide
    have h3 : zn * zi 12 + zi 1 < (0 : Int32) := by decide
    rw [if_neg h1, if_pos h2, if_pos h3]
    unfold yPgs
    rw [if_pos rfl]
    rfl
  · unfold yPgs
    rw [if_neg (by rw [zi_ne_zn (by omega)]; exact False.elim), zi_toNat (by omega)]
    exact tg2 (m := 4) hm4 hp (by omega)
def yInr (T : ZD2) (w : Int32) : Bool := !decide (yG3 T w 0 = zn)
def yPnr (T : ZD2) (w : Int32) : Bool := !decide (yG3 T w 2 = zi 0)
theorem p22 {w : Int32} : zev X 22 0 [.ref 4, .int w] [] (zHP (zps n D P) O, k) = some (.inl (some (.int (zb (yInr P.T w)))), (zHP (zps n D P) O, k)) := by
  refine (b22_0 hm4).trans ?_
  rw [zl_0]
  refine (congrArg (fun x => zcon x _) (p94w (by omega))).trans ?_
  rw [zcon_inl]
  refine b22_9.trans ?_
  unfold yInr
  rw [zn_l]
  by_cases h : yG3 P.T w 0 = zn
  · rw [if_pos h, decide_eq_true h]; rfl
  · rw [if_neg h, decide_eq_false h]; rfl
theorem p27 {w : Int32} : zev X 27 0 [.ref 4, .int w] [] (zHP (zps n D P) O, k) = some (.inl (some (.int (zb (yPnr P.T w)))), (zHP (zps n D P) O, k)) := by
  refine (b27_0 hm4).trans ?_
  rw [zl_2]
  refine (congrArg (fun x => zcon x _) (p94w (by omega))).trans ?_
  rw [zcon_inl]
  refine b27_9.trans ?_
  unfold yPnr
  rw [zl_0]
  by_cases h : yG3 P.T w 2 = zi 0
  · rw [if_pos h, decide_eq_true h]; rfl
  · rw [if_neg h, decide_eq_false h]; rfl
theorem p23 (hn : P.T 0 0 = zi (sNf P.T)) (h6 : sNf P.T ≤ 64) : zev X 23 0 [.ref 4, zJ] [] (zHP (zps n D P) O, k) = some (.inl (some (.int (zo (sFree P.T)))), (zHP (zps n D P) O, k)) := c23n hm4 hn h6
theorem p26 {r f : Nat} (hr : r < 72) (hf : f < 64) : zev X 26 0 [.ref 4, .int (zi r), .int (zi f)] [] (zHP (zps n D P) O, k) = some (.inl none, (zHP (zps n D (P.wT (uEnter P.T r f))) O, k)) := c26 hm4 hr hf
theorem p93t {r : Nat} (hr : r < 72) : zev X 93 0 [.ref 11, .int (zi r), .int (zi 2), .int (zi 1), zJ] [] (zHP (zps n D P) O, k) = some (.inl none, (zHP (zps n D (P.wT (zw P.T 3 (5 * r + 2) (zi 1)))) O, k)) := tp3 (m := 4) hm4 hr (by omega)
theorem p20 {np : Nat} {a b c d : Int32} (hn : P.T 1 0 = zi np) (h6 : np < 6) : zev X 20 0 [.ref 4, .int a, .int b, .int c, .int d, zJ] [] (zHP (zps n D P) O, k) = some (.inl none, (zHP (zps n D (P.wT (uAdd P.T np a b c d))) O, k)) := c20 hm4 hn h6
/-- a page put in, once its row and a frame are told -/
def yEnt (Q : ZPs) (w fr pl : Int32) : ZPs := if (if fr = zn then yFailAt Q 4 pl else Q).er = 0 then Q.wT (uEnter Q.T w.toNatClampNeg fr.toNatClampNeg) else (if fr = zn then yFailAt Q 4 pl else Q)
def yInQ (R : ZPs) (w pl : Int32) : ZPs := if yInr R.T w = true then yFailAt R 3 pl else R
def yIn (B : Nat → Int32) (n : Nat) (P : ZPs) (pr : Int32) : ZPs := yEnt (yInQ (yNum B n P (zi 0) (yPgs P.T pr - zi 1)).2 (pr * zi 12 + (yNum B n P (zi 0) (yPgs P.T pr - zi 1)).1) (zi P.st)) (pr * zi 12 + (yNum B n P (zi 0) (yPgs P.T pr - zi 1)).1) (zo (sFree P.T)) (zi P.st)
theorem c87t {Q : ZPs} {a b c w fr pl : Int32} (hQ : yW n Q) (hfr : fr = zn ∨ ∃ f, fr = zi f ∧ f < 64) (hw : Q.er = 0 → ∃ r, w = zi r ∧ r < 72) : zev X 87 58 [.ref 1, .int a, .int pl, .int c, .int w, zJ] [.int fr] (zHP (zps n D Q) O, k) = some (.inl none, (zHP (zps n D (yEnt Q w fr pl)) O, k)) := by
  refine b87_58.trans ?_
  unfold yEnt
  rw [zn_l]
  by_cases h1 : fr = zn
  · rw [if_pos h1, if_pos h1, zl_4, d80 hQ, zcon_inl]
    refine b87_72.trans ?_
    refine b87_73.trans ?_
    have g := yFail_ne (P := Q) (q := pl) (show 4 ≠ 0 by omega)
    have g2 := (yFail_ok (P := Q) (q := pl) hQ (show 4 ≤ 4 by omega)).1.2.2
    have g' : ¬ zps n D (yFailAt Q 4 pl) 1 7 = 0 := by rw [zps17, zl_0, zi_inj (by omega) (by omega)]; exact g
    rw [if_neg g', if_neg g]
    exact b87_91
  · rw [if_neg h1, if_neg h1]
    refine b87_73.trans ?_
    obtain ⟨f, rfl, hf⟩ := hfr.resolve_left h1
    by_cases h2 : Q.er = 0
    · obtain ⟨r, rfl, hr⟩ := hw h2
      have h2' : zps n D Q 1 7 = 0 := by rw [zps17, h2]; rfl
      rw [if_pos h2', if_pos h2, p26 hr hf, zcon_inl, zi_toNat (by omega), zi_toNat (by omega)]
      exact b87_91
    · have g2 := hQ.2.2
      have h2' : ¬ zps n D Q 1 7 = 0 := by rw [zps17, zl_0, zi_inj (by omega) (by omega)]; exact h2
      rw [if_neg h2', if_neg h2]
      exact b87_91
theorem yNum_0 {lo hi : Int32} (h : (yNum B n P lo hi).2.er = 0) : P.kd = 2 ∧ ¬ P.va < lo ∧ ¬ hi < P.va ∧ yNum B n P lo hi = (P.va, yScan B n P) := by
  unfold yNum at h ⊢
  by_cases h1 : P.kd = 2
  · rw [if_pos h1] at h ⊢
    by_cases h2 : P.va < lo ∨ hi < P.va
    · rw [if_pos h2] at h
      exact absurd h (yFail_ne (by omega))
    · rw [if_neg h2]
      exact ⟨h1, fun q => h2 (Or.inl q), fun q => h2 (Or.inr q), rfl⟩
  · rw [if_neg h1] at h
    exact absurd h (yFail_ne (by omega))
/-- a page number that is taken -/
theorem yRow_ok {pr : Int32} (hp : pr = zn ∨ ∃ p m, pr = zi p ∧ p < 6 ∧ P.T 2 (12 * p + 1) = zi m ∧ m ≤ 12) (h : (yNum B n P (zi 0) (yPgs P.T pr - zi 1)).2.er = 0) : ∃ p m g, pr = zi p ∧ p < 6 ∧ P.T 2 (12 * p + 1) = zi m ∧ m ≤ 12 ∧ g < m ∧ P.va = zi g ∧ yNum B n P (zi 0) (yPgs P.T pr - zi 1) = (zi g, yScan B n P) ∧ pr * zi 12 + (yNum B n P (zi 0) (yPgs P.T pr - zi 1)).1 = zi (12 * p + g) := by
  obtain ⟨h1, h2, h3, h4⟩ := yNum_0 h
  have b2 : ¬ P.va.toInt < 0 := by
    intro q
    apply h2
    rw [Int32.lt_iff_toInt_lt, zi_toInt (by omega)]
    exact q
  rcases hp with rfl | ⟨p, m, rfl, hp6, hm, hm12⟩
  · exfalso
    apply h3
    have e : yPgs P.T zn - zi 1 = zn := by unfold yPgs; rw [if_pos rfl]; rfl
    rw [e, Int32.lt_iff_toInt_lt, zn_toInt]
    omega
  · have e : yPgs P.T (zi p) = zi m := by unfold yPgs; rw [if_neg (by rw [zi_ne_zn (by omega)]; exact False.elim), zi_toNat (by omega)]; exact hm
    rw [e] at h3 h4 ⊢
    have b3 : P.va.toInt < m := by
      by_cases hm0 : m = 0
      · exfalso
        subst hm0
        apply h3
        have e0 : zi 0 - zi 1 = zn := rfl
        rw [e0, Int32.lt_iff_toInt_lt, zn_toInt]
        omega
      · rw [zi_sub (by omega) (by omega), Int32.lt_iff_toInt_lt, zi_toInt (by omega)] at h3
        omega
    have ev : P.va = zi P.va.toInt.toNat := by
      apply Int32.toInt.inj
      rw [zi_toInt (by omega)]
      omega
    refine ⟨p, m, P.va.toInt.toNat, rfl, hp6, hm, hm12, by omega, ev, ?_, ?_⟩
    · rw [h4, ← ev]
    · rw [h4]
      show zi p * zi 12 + P.va = _
      rw [ev, zi_mul, zi_add, Nat.mul_comm p 12, ← ev]
theorem c87 {pr : Int32} (hn : n ≤ 600) (h : yW n P) (hp : pr = zn ∨ ∃ p m, pr = zi p ∧ p < 6 ∧ P.T 2 (12 * p + 1) = zi m ∧ m ≤ 12) (hnf : P.T 0 0 = zi (sNf P.T)) (h64 : sNf P.T ≤ 64) (hf : ∀ f, sFree P.T = some f → f < 64) : zev X 87 0 [.ref 1, .int pr, zJ, zJ, zJ, zJ] [] (zHP (zps n D P) O, k) = some (.inl none, (zHP (zps n D (yIn (D 3) n P pr)) O, k)) := by
  have hp' : pr = zn ∨ ∃ p, pr = zi p ∧ p < 6 := hp.imp id fun ⟨p, m, a, b, _⟩ => ⟨p, a, b⟩
  refine b87_0.trans ?_
  rw [zl_1, p94p hp', zcon_inl]
  refine b87_19.trans ?_
  rw [zl_0, zl_1, d81 hn h, zcon_inl]
  refine b87_24.trans ?_
  have hrow := yRow_ok (B := D 3) (n := n) hp
  have hk := yNum_ok (B := D 3) (lo := zi 0) (hi := yPgs P.T pr - zi 1) h
  unfold yIn
  have eS : zo (sFree P.T) = zo (sFree (yNum (D 3) n P (zi 0) (yPgs P.T pr - zi 1)).2.T) := by rw [hk.2]
  rw [eS]
  have hnf' : (yNum (D 3) n P (zi 0) (yPgs P.T pr - zi 1)).2.T 0 0 = zi (sNf (yNum (D 3) n P (zi 0) (yPgs P.T pr - zi 1)).2.T) := by rw [hk.2]; exact hnf
  have h64' : sNf (yNum (D 3) n P (zi 0) (yPgs P.T pr - zi 1)).2.T ≤ 64 := by rw [hk.2]; exact h64
  have hf' : ∀ f, sFree (yNum (D 3) n P (zi 0) (yPgs P.T pr - zi 1)).2.T = some f → f < 64 := by rw [hk.2]; exact hf
  have hw : (yNum (D 3) n P (zi 0) (yPgs P.T pr - zi 1)).2.er = 0 → ∃ r, pr * zi 12 + (yNum (D 3) n P (zi 0) (yPgs P.T pr - zi 1)).1 = zi r ∧ r < 72 := fun q => by
    obtain ⟨p, m, g, _, a, _, b, c, _, _, d⟩ := hrow q
    exact ⟨12 * p + g, d, by omega⟩
  have hk1 := hk.1
  show zcon (zev X 21 0 [.int pr, .int (yNum (D 3) n P (zi 0) (yPgs P.T pr - zi 1)).1] [] _) _ = _
  generalize yNum (D 3) n P (zi 0) (yPgs P.T pr - zi 1) = R at hk1 hnf' h64' hf' hw
  have hfr : zo (sFree R.2.T) = zn ∨ ∃ f, zo (sFree R.2.T) = zi f ∧ f < 64 := by
    cases hS : sFree R.2.T with
    | none => exact Or.inl rfl
    | some f => exact Or.inr ⟨f, rfl, hf' f hS⟩
  rw [b21_0, zcon_inl, zl_12]
  refine b87_30.trans ?_
  rw [p22, zcon_inl]
  refine b87_41.trans ?_
  generalize pr * zi 12 + R.1 = w at hw
  unfold yInQ
  cases hI : yInr R.2.T w
  · rw [zl_0, if_pos zb_f, p23 hnf' h64', zcon_inl, if_neg Bool.false_ne_true]
    exact c87t (b := zi 0) hk1 hfr hw
  · have g1 := yFail_ok (P := R.2) (c := 3) (q := zi P.st) hk1 (by omega)
    have g2 := yFail_ne (P := R.2) (q := zi P.st) (show 3 ≠ 0 by omega)
    rw [zl_0, if_neg (by rw [zb_0]; exact Bool.noConfusion), zl_3, zps15, d80 hk1, zcon_inl, if_pos rfl]
    refine b87_50.trans ?_
    rw [p23 (by rw [g1.2]; exact hnf') (by rw [g1.2]; exact h64'), zcon_inl, g1.2]
    exact c87t (b := zi 0) g1.1 hfr (fun q => absurd q g2)
end
