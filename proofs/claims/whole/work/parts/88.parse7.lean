/-! The class's parser: what holds after a line, the whole text. -/
def yJ (n : Nat) (P : ZPs) : Prop := yW n P ∧ zFin P.T ∧ (P.er = 0 → yLn P)
/-- the lines -/
def yLs (B : Nat → Int32) (n : Nat) : Nat → ZPs → ZPs
  | 0, P => P
  | f + 1, P => if P.kd ≠ 0 ∧ P.er = 0 then yLs B n f (yLine B n P) else P
def yBeg : ZPs := (0, 0, 0, 0, 0, zn, zTc)
def yParse (B : Nat → Int32) (n : Nat) : ZPs := yLs B n n (ySet B n (yScan B n yBeg))
section
variable {X : ZX} {D : ZD2} {O : ZO2} {k : Nat × Nat × Nat} {n : Nat} {P : ZPs} {B : Nat → Int32}
theorem yEnt_T {Q : ZPs} {w fr pl : Int32} (h : (yEnt Q w fr pl).er ≠ 0) : (yEnt Q w fr pl).T = Q.T := by
  unfold yEnt at h ⊢
  by_cases c : fr = zn
  · rw [if_pos c] at h ⊢
    rw [if_neg (yFail_ne (by omega))]
    unfold yFailAt
    split <;> rfl
  · rw [if_neg c] at h ⊢
    by_cases e : Q.er = 0
    · rw [if_pos e] at h
      exact absurd e h
    · rw [if_neg e]
theorem yIn_T {pr : Int32} (hW : yW n P) (h : (yIn B n P pr).er ≠ 0) : (yIn B n P pr).T = P.T := by
  unfold yIn at h ⊢
  rw [yEnt_T h]
  have hk := yNum_ok (B := B) (lo := zi 0) (hi := yPgs P.T pr - zi 1) hW
  unfold yInQ
  split
  · exact (yFail_ok (c := 3) hk.1 (by omega)).2.trans hk.2
  · exact hk.2
theorem yPnW_T {Q : ZPs} {w : Int32} (h : (yPnW Q w).er ≠ 0) : (yPnW Q w).T = Q.T := by
  unfold yPnW at h ⊢
  by_cases e : Q.er = 0
  · rw [if_pos e] at h
    exact absurd e h
  · rw [if_neg e]
theorem yPnQ_ok {R : ZPs} {w pl : Int32} (h : yW n R) : yW n (yPnQ R w pl) ∧ (yPnQ R w pl).T = R.T := by
  unfold yPnQ
  split
  · exact yFail_ok h (by omega)
  · exact ⟨h, rfl⟩
theorem yPn_T {pr : Int32} (hW : yW n P) (h : (yPn B n P pr).er ≠ 0) : (yPn B n P pr).T = P.T := by
  have hk := yNum_ok (B := B) (lo := zi 0) (hi := yPgs P.T pr - zi 1) hW
  unfold yPn at h ⊢
  rw [yPnW_T h]
  exact (yPnQ_ok hk.1).2.trans hk.2
theorem T_wT {Q : ZPs} {U : ZD2} : (Q.wT U).T = U := rfl
theorem er_wT {Q : ZPs} {U : ZD2} : (Q.wT U).er = Q.er := rfl
theorem yW_wT {Q : ZPs} {U : ZD2} (h : yW n Q) : yW n (Q.wT U) := h
theorem yPnW_W {Q : ZPs} {w : Int32} (h : yW n Q) : yW n (yPnW Q w) := by
  unfold yPnW
  split
  · exact yW_wT h
  · exact h
theorem yPn_W {pr : Int32} (hW : yW n P) : yW n (yPn B n P pr) := by
  have hk := yNum_ok (B := B) (lo := zi 0) (hi := yPgs P.T pr - zi 1) hW
  exact yPnW_W (yPnQ_ok hk.1).1
theorem zFin_enter {T : ZD2} {r f : Nat} (h : zFin T) (hr : r < 72) (hf : f < 64) : zFin (uEnter T r f) := by
  unfold uEnter
  refine zFin_w (zFin_w h fun _ => ?_) fun _ => ?_
  · show 5 * r < 360
    omega
  · show 3 * f < 192
    omega
theorem yIn_j {pr : Int32} (hW : yW n P) (hl : yLn P) (hF : zFin P.T) (hp : pr = zn ∨ ∃ p, pr = zi p ∧ p < 6) : yW n (yIn B n P pr) ∧ yLn (yIn B n P pr) ∧ zFin (yIn B n P pr).T := by
  have g := yIn_ok (B := B) (pr := pr) hW
  refine ⟨g.1, yLn_eq hl g.2.1 g.2.2.1 g.2.2.2, ?_⟩
  by_cases h : (yIn B n P pr).er = 0
  · obtain ⟨p, q, m, f, _, h6, _, h12, hg, _, _, _, _, _, h64, e⟩ := yIn_0 hW hl hp h
    rw [e]
    exact zFin_enter hF (by omega) h64
  · rw [yIn_T hW h]
    exact hF
theorem yPn_j {pr : Int32} (hW : yW n P) (hl : yLn P) (hF : zFin P.T) (hp : pr = zn ∨ ∃ p, pr = zi p ∧ p < 6) : yW n (yPn B n P pr) ∧ yLn (yPn B n P pr) ∧ zFin (yPn B n P pr).T := by
  refine ⟨yPn_W hW, ?_⟩
  by_cases h : (yPn B n P pr).er = 0
  · obtain ⟨p, q, m, _, h6, _, h12, hg, _, _, _, _, e⟩ := yPn_0 hW hl hp h
    rw [e]
    refine ⟨yLn_eq hl ?_ ?_ ?_, ?_⟩
    · rw [T_wT]; exact zw_row (by omega)
    · rw [T_wT]; exact zw_row (by omega)
    · rw [T_wT]; exact zw_row (by omega)
    · rw [T_wT]
      refine zFin_w hF fun _ => ?_
      show 5 * (12 * p + q) + 2 < 360
      omega
  · have e := yPn_T hW h
    exact ⟨yLn_T hl e, by rw [e]; exact hF⟩
theorem yInL_j {pr : Int32} (hp : pr = zn ∨ ∃ p, pr = zi p ∧ p < 6) : ∀ f (P : ZPs), yW n P → yLn P → zFin P.T → yW n (yInL B n pr f P) ∧ yLn (yInL B n pr f P) ∧ zFin (yInL B n pr f P).T
  | 0, P, h1, h2, h3 => ⟨h1, h2, h3⟩
  | f + 1, P, h1, h2, h3 => by
    rw [yInL]
    split
    · obtain ⟨a, b, c⟩ := yIn_j (B := B) (pr := pr) h1 h2 h3 hp
      exact yInL_j hp f _ a b c
    · exact ⟨h1, h2, h3⟩
theorem yInl_j (hW : yW n P) (hl : yLn P) (hF : zFin P.T) : yW n (yInl B n P) ∧ yLn (yInl B n P) ∧ zFin (yInl B n P).T := by
  unfold yInl
  have s1 := yScan_ok (B := B) hW
  have l1 := yLn_T hl s1.2.1
  have s2 := yKnown_ok (B := B) s1.1
  have l2 := yLn_T l1 s2.2
  have hq := yKnown_1 (B := B) (n := n) l1
  have f2 : zFin (yKnown B n (yScan B n P)).2.T := by rw [s2.2, s1.2.1]; exact hF
  obtain ⟨a, b, c⟩ := yIn_j (B := B) s2.1 l2 f2 hq
  exact yInL_j hq 12 _ a b c
theorem yNum_v {lo hi : Nat} (hhi : hi < 2147483648) (hlo : lo ≤ hi) (h : (yNum B n P (zi lo) (zi hi)).2.er = 0) : ∃ m, (yNum B n P (zi lo) (zi hi)).1 = zi m ∧ P.va = zi m ∧ lo ≤ m ∧ m ≤ hi := by
  obtain ⟨_, h2, h3, h4⟩ := yNum_0 h
  rw [Int32.lt_iff_toInt_lt, zi_toInt (by omega)] at h2 h3
  have ev : P.va = zi P.va.toInt.toNat := by
    apply Int32.toInt.inj
    rw [zi_toInt (by omega)]
    omega
  refine ⟨P.va.toInt.toNat, ?_, ev, by omega, by omega⟩
  rw [h4]
  exact ev
theorem uAdd_0 {T : ZD2} {np : Nat} {a b c d : Int32} : uAdd T np a b c d 0 = T 0 := by
  unfold uAdd uTot
  simp (disch := first | assumption | omega) only [zw_row]
theorem uAdd_10 {T : ZD2} {np : Nat} {a b c d : Int32} : uAdd T np a b c d 1 0 = T 1 0 + zi 1 := by
  unfold uAdd uTot
  rw [zw_self, zw_row (by omega), zw_row (by omega), zw_row (by omega), zw_row (by omega), zw_row (by omega)]
theorem uAdd_2 {T : ZD2} {np p : Nat} {a b c d : Int32} : uAdd T np a b c d 2 (12 * p + 1) = if p = np then c else T 2 (12 * p + 1) := by
  unfold uAdd uTot
  rw [zw_row (by omega), zw_ne (by omega), zw_ne (by omega)]
  by_cases e : p = np
  · rw [if_pos e, e, zw_self]
  · rw [if_neg e, zw_ne (by omega), zw_ne (by omega), zw_ne (by omega)]
theorem zFin_add {T : ZD2} {np : Nat} {a b c d : Int32} (h : zFin T) (h6 : np < 6) : zFin (uAdd T np a b c d) := by
  unfold uAdd uTot
  refine zFin_w (zFin_w (zFin_w (zFin_w (zFin_w (zFin_w h fun _ => ?_) fun _ => ?_) fun _ => ?_) fun _ => ?_) fun _ => ?_) fun _ => ?_
  · show 12 * np + 11 < 72
    omega
  · show 12 * np < 72
    omega
  · show 12 * np + 1 < 72
    omega
  · show 12 * np + 2 < 72
    omega
  · show 12 * np + 4 < 72
    omega
  · show 0 < 15
    omega
theorem yRunD_ok (hW : yW n P) : yW n (yRunC B n P).2 ∧ (yRunC B n P).2.T = P.T ∧ yW n (yRunD B n P).2 ∧ (yRunD B n P).2.T = P.T ∧ ySt P (yRunC B n P).2 ∧ ySt (yRunC B n P).2 (yRunD B n P).2 := by
  have sS := yScan_ok (B := B) hW
  have sA : yW n (yRunA B n P).2 ∧ (yRunA B n P).2.T = _ := yFresh_ok (B := B) sS.1
  have sB : yW n (yRunB B n P).2 ∧ (yRunB B n P).2.T = _ := yNum_ok (B := B) sA.1
  have sC : yW n (yRunC B n P).2 ∧ (yRunC B n P).2.T = _ := yNum_ok (B := B) sB.1
  have t1 : ySt P (yRunA B n P).2 := ySt_tr (ySt_scan hW) (ySt_fresh sS.1)
  have t2 : ySt P (yRunB B n P).2 := ySt_tr t1 (ySt_num sA.1)
  have t3 : ySt P (yRunC B n P).2 := ySt_tr t2 (ySt_num sB.1)
  have tC : (yRunC B n P).2.T = P.T := sC.2.trans (sB.2.trans (sA.2.trans sS.2.1))
  have sD : yW n (yRunD B n P).2 ∧ (yRunD B n P).2.T = (yRunC B n P).2.T ∧ ySt (yRunC B n P).2 (yRunD B n P).2 := by
    unfold yRunD
    split
    · have s3 := yScan_ok (B := B) sC.1
      have s4 := yNum_ok (B := B) (lo := zi 0) (hi := zi 99) s3.1
      exact ⟨s4.1, s4.2.trans s3.2.1, ySt_tr (ySt_scan sC.1) (ySt_num s3.1)⟩
    · exact ⟨sC.1, rfl, ySt_rfl⟩
  exact ⟨sC.1, tC, sD.1, sD.2.1.trans tC, t3, sD.2.2⟩
theorem yRun_j (hW : yW n P) (hl : yLn P) (hF : zFin P.T) : yJ n (yRun B n P) := by
  unfold yRun
  by_cases h6 : sNp P.T < 6
  · rw [if_pos h6]
    obtain ⟨wC, tC, wD, tD, st, st2⟩ := yRunD_ok (B := B) hW
    unfold yJ
    rw [T_wT, er_wT, tD]
    refine ⟨yW_wT wD, zFin_add hF h6, fun eD => ?_⟩
    · have eC : (yRunC B n P).2.er = 0 := ySt_0 st2 eD
      obtain ⟨m, em, _, _, hm⟩ := yNum_v (B := B) (n := n) (P := (yRunB B n P).2) (lo := 1) (hi := 12) (by omega) (by omega) eC
      have em' : (yRunC B n P).1 = zi m := em
      unfold yLn
      rw [T_wT, em']
      have e1 : uAdd P.T (sNp P.T) (yRunA B n P).1 (yRunB B n P).1 (zi m) (yRunD B n P).1 1 0 = zi (sNp P.T + 1) := by rw [uAdd_10, hl.1, zi_add]
      have e2 : sNp (uAdd P.T (sNp P.T) (yRunA B n P).1 (yRunB B n P).1 (zi m) (yRunD B n P).1) = sNp P.T + 1 := by
        show (uAdd P.T (sNp P.T) (yRunA B n P).1 (yRunB B n P).1 (zi m) (yRunD B n P).1 1 0).toNatClampNeg = _
        rw [e1, zi_toNat (by omega)]
      have e3 : sNf (uAdd P.T (sNp P.T) (yRunA B n P).1 (yRunB B n P).1 (zi m) (yRunD B n P).1) = sNf P.T := by unfold sNf; rw [uAdd_0]
      rw [e1, e2, e3, uAdd_0]
      refine ⟨rfl, by omega, hl.2.2.1, hl.2.2.2.1, fun p hp => ?_⟩
      rw [uAdd_2]
      by_cases ep : p = sNp P.T
      · rw [if_pos ep]
        exact ⟨m, rfl, hm⟩
      · rw [if_neg ep]
        exact hl.2.2.2.2 p hp
  · rw [if_neg h6]
    have g := yFail_ok (P := P) (c := 4) (q := zi P.st) hW (by omega)
    exact ⟨g.1, by show zFin (yFailAt P 4 (zi P.st)).T; rw [g.2]; exact hF, fun _ => yLn_T hl g.2⟩
theorem yLine_j (hW : yW n P) (hl : yLn P) (hF : zFin P.T) : yJ n (yLine B n P) := by
  unfold yLine
  have s1 := yScan_ok (B := B) hW
  have l1 := yLn_T hl s1.2.1
  have f1 : zFin (yScan B n P).T := by rw [s1.2.1]; exact hF
  split
  · split
    · exact yRun_j s1.1 l1 f1
    · split
      · obtain ⟨a, b, c⟩ := yInl_j (B := B) s1.1 l1 f1
        exact ⟨a, c, fun _ => b⟩
      · have s2 := yLit_ok (B := B) (l := [112, 105, 110]) s1.1
        have l2 := yLn_T l1 s2.2
        have s3 := yKnown_ok (B := B) s2.1
        have l3 := yLn_T l2 s3.2
        have hq := yKnown_1 (B := B) (n := n) l2
        obtain ⟨a, b, c⟩ := yPn_j (B := B) s3.1 l3 (by rw [s3.2, s2.2]; exact f1) hq
        exact ⟨a, c, fun _ => b⟩
  · have g := yFail_ok (P := P) (c := 1) (q := zi P.st) hW (by omega)
    exact ⟨g.1, by show zFin (yFailAt P 1 (zi P.st)).T; rw [g.2]; exact hF, fun _ => yLn_T hl g.2⟩
theorem c75l (hn : n ≤ 600) : ∀ f i (P : ZPs), i + f = n → yJ n P → zev X 75 37 [.ref 1, .int (zi n), .int (zi i)] [] (zHP (zps n D P) O, k) = zev X 75 66 [.ref 1, .int (zi n), .int (zi (i + f))] [] (zHP (zps n D (yLs (D 3) n f P)) O, k) ∨ ∃ j, zev X 75 37 [.ref 1, .int (zi n), .int (zi i)] [] (zHP (zps n D P) O, k) = zev X 75 66 [.ref 1, .int (zi n), .int (zi j)] [] (zHP (zps n D (yLs (D 3) n f P)) O, k)
  | 0, i, P, hi, hJ => by
    left
    refine b75_37.trans ?_
    have h1 : ¬ zi i < zi n := by rw [zi_lt (by omega) (by omega)]; omega
    rw [if_neg h1]
    rfl
  | f + 1, i, P, hi, hJ => by
    right
    have h1 : zi i < zi n := by rw [zi_lt (by omega) (by omega)]; omega
    have w1 := hJ.1.2.1
    have w2 := hJ.1.2.2
    rw [b75_37, if_pos h1, yLs]
    by_cases h2 : P.kd = 0
    · have h2' : zps n D P 1 4 = 0 := by rw [zps14, h2]; rfl
      rw [if_pos h2', if_neg fun q => q.1 h2]
      exact ⟨i, rfl⟩
    · have h2' : ¬ zps n D P 1 4 = 0 := by rw [zps14, zl_0, zi_inj (by omega) (by omega)]; exact h2
      rw [if_neg h2']
      by_cases h3 : P.er = 0
      · have h3' : zps n D P 1 7 = 0 := by rw [zps17, h3]; rfl
        have hl := hJ.2.2 h3
        rw [if_pos h3', if_pos ⟨h2, h3⟩, c82 hn hJ.1 hl, zcon_inl]
        have e := b75_60 (X := X) (D := zps n D (yLine (D 3) n P)) (O := O) (k := k) (l1 := zi n) (l2 := zi i)
        rw [zl_1, zi_add] at e
        have g := c75l hn f (i + 1) (yLine (D 3) n P) (by omega) (yLine_j hJ.1 hl hJ.2.1)
        rcases g with g | ⟨j, g⟩
        · exact ⟨_, e.trans g⟩
        · exact ⟨j, e.trans g⟩
      · have h3' : ¬ zps n D P 1 7 = 0 := by rw [zps17, zl_0, zi_inj (by omega) (by omega)]; exact h3
        rw [if_neg h3', if_neg fun q => h3 q.2]
        exact ⟨i, rfl⟩
end
