/-! The model reads a text: the rows cleared, what a line takes. -/
/-- a token at hand stands where it is said to -/
def ySn (n : Nat) (P : ZPs) : Prop := P.st ≤ P.nx ∧ P.nx ≤ n ∧ (P.kd ≠ 0 → P.st < P.nx)
/-- reading goes on, never back -/
def yOk (n : Nat) (P Q : ZPs) : Prop := ySn n P → ySn n Q ∧ P.st ≤ Q.st
section
variable {X : ZX} {D : ZD2} {O : ZO2} {k : Nat × Nat × Nat} {n : Nat} {P Q : ZPs} {B : Nat → Int32}
theorem yOk_rfl : yOk n P P := fun h => ⟨h, Nat.le_refl _⟩
theorem yOk_tr {R : ZPs} (h1 : yOk n P Q) (h2 : yOk n Q R) : yOk n P R := fun h => by
  obtain ⟨a, b⟩ := h1 h
  obtain ⟨c, d⟩ := h2 a
  exact ⟨c, Nat.le_trans b d⟩
theorem yOk_T {U : ZD2} (h : yOk n P Q) : yOk n P (Q.wT U) := h
theorem yScan_sn (h : P.nx ≤ n) : ySn n (yScan B n P) ∧ P.nx ≤ (yScan B n P).st := by
  have g := zgo_n ySp B n (n - P.nx) P.nx h
  have l := zgo_le ySp B n (n - P.nx) P.nx
  unfold yScan yTok
  have e1 : (yAft B n P).nx = zgo ySp B n (n - P.nx) P.nx := rfl
  have e2 : (yAft B n P).st = zgo ySp B n (n - P.nx) P.nx := rfl
  rw [← e1] at g l
  have e12 : (yAft B n P).st = (yAft B n P).nx := rfl
  generalize yAft B n P = Q at g l e12
  split
  · exact ⟨⟨Nat.le_of_eq e12, g, fun q => absurd rfl q⟩, by show P.nx ≤ Q.st; omega⟩
  · rename_i hq
    have step : ∀ p : Int32 → Bool, p (B Q.nx) = true → Q.nx < zgo p B n (n - Q.nx) Q.nx := by
      intro p hp
      obtain ⟨f, hf⟩ : ∃ f, n - Q.nx = f + 1 := ⟨n - Q.nx - 1, by omega⟩
      rw [hf]
      show Q.nx < (if Q.nx < n ∧ p (B Q.nx) = true then zgo p B n f (Q.nx + 1) else Q.nx)
      rw [if_pos ⟨by omega, hp⟩]
      exact zgo_le p B n f (Q.nx + 1)
    split
    · rename_i hl
      have s := step yLet hl
      have t := zgo_n yLet B n (n - Q.nx) Q.nx g
      refine ⟨⟨?_, t, fun _ => ?_⟩, ?_⟩
      · show Q.st ≤ zgo yLet B n (n - Q.nx) Q.nx; omega
      · show Q.st < zgo yLet B n (n - Q.nx) Q.nx; omega
      · show P.nx ≤ Q.st; omega
    · split
      · rename_i hd
        have s := step yDig hd
        have t := zgo_n yDig B n (n - Q.nx) Q.nx g
        refine ⟨⟨?_, t, fun _ => ?_⟩, ?_⟩
        · show Q.st ≤ zgo yDig B n (n - Q.nx) Q.nx; omega
        · show Q.st < zgo yDig B n (n - Q.nx) Q.nx; omega
        · show P.nx ≤ Q.st; omega
      · refine ⟨⟨?_, ?_, fun _ => ?_⟩, ?_⟩
        · show Q.st ≤ Q.nx + 1; omega
        · show Q.nx + 1 ≤ n; omega
        · show Q.st < Q.nx + 1; omega
        · show P.nx ≤ Q.st; omega
theorem yOk_scan : yOk n P (yScan B n P) := fun h => by
  obtain ⟨a, b⟩ := yScan_sn (B := B) h.2.1
  exact ⟨a, Nat.le_trans h.1 b⟩
theorem yOk_failAt {c : Nat} {q : Int32} : yOk n P (yFailAt P c q) := by
  unfold yFailAt
  split
  · exact fun h => ⟨h, Nat.le_refl _⟩
  · exact yOk_rfl
theorem yOk_fail {c : Nat} : yOk n P (yFail P c) := yOk_failAt
theorem yOk_lit {l : List Int32} : yOk n P (yLit B n P l) := by
  unfold yLit
  split
  · exact yOk_scan
  · exact yOk_fail
theorem yOk_num {lo hi : Int32} : yOk n P (yNum B n P lo hi).2 := by
  unfold yNum
  split
  · split
    · exact yOk_fail
    · exact yOk_scan
  · exact yOk_fail
theorem yOk_fresh : yOk n P (yFresh B n P).2 := by
  unfold yFresh
  split
  · split
    · exact yOk_scan
    · exact yOk_fail
  · exact yOk_fail
theorem yOk_known : yOk n P (yKnown B n P).2 := by
  unfold yKnown
  split
  · split
    · exact yOk_fail
    · exact yOk_scan
  · exact yOk_fail
theorem yOk_ent {w fr pl : Int32} (h : yOk n P Q) : yOk n P (yEnt Q w fr pl) := by
  have g : yOk n P (if fr = zn then yFailAt Q 4 pl else Q) := by
    split
    · exact yOk_tr h yOk_failAt
    · exact h
  unfold yEnt
  generalize (if fr = zn then yFailAt Q 4 pl else Q) = R at g ⊢
  split
  · exact yOk_T h
  · exact g
theorem yOk_in {pr : Int32} : yOk n P (yIn B n P pr) := by
  unfold yIn
  refine yOk_ent ?_
  unfold yInQ
  split
  · exact yOk_tr yOk_num yOk_failAt
  · exact yOk_num
theorem yOk_pn {pr : Int32} : yOk n P (yPn B n P pr) := by
  have g : yOk n P (yPnQ (yNum B n P (zi 0) (yPgs P.T pr - zi 1)).2 (pr * zi 12 + (yNum B n P (zi 0) (yPgs P.T pr - zi 1)).1) (zi P.st)) := by
    unfold yPnQ
    split
    · exact yOk_tr yOk_num yOk_failAt
    · exact yOk_num
  unfold yPn yPnW
  split
  · exact yOk_T g
  · exact g
theorem yOk_inL {pr : Int32} : ∀ f (P : ZPs), yOk n P (yInL B n pr f P)
  | 0, P => yOk_rfl
  | f + 1, P => by
    unfold yInL
    split
    · exact yOk_tr yOk_in (yOk_inL f _)
    · exact yOk_rfl
theorem yOk_run : yOk n P (yRun B n P) := by
  have a : yOk n P (yRunA B n P).2 := yOk_tr yOk_scan yOk_fresh
  have b : yOk n P (yRunB B n P).2 := yOk_tr a yOk_num
  have c : yOk n P (yRunC B n P).2 := yOk_tr b yOk_num
  have d : yOk n P (yRunD B n P).2 := by
    unfold yRunD
    split
    · exact yOk_tr c (yOk_tr yOk_scan yOk_num)
    · exact c
  unfold yRun
  split
  · exact yOk_T d
  · exact yOk_fail
theorem yOk_ln1 : yOk n P (yLn1 B n P) := by
  unfold yLn1
  split
  · exact yOk_run
  · split
    · exact yOk_tr yOk_scan (yOk_tr yOk_known (yOk_tr yOk_in (yOk_inL 12 _)))
    · exact yOk_tr yOk_lit (yOk_tr yOk_known yOk_pn)
/-- a line takes a byte at least -/
theorem yLine_sn (h : ySn n P) : ySn n (yLine B n P) ∧ (P.kd = 3 → P.st < (yLine B n P).st) := by
  rw [yLine_1]
  split
  · rename_i h3
    obtain ⟨a, b⟩ := yScan_sn (B := B) h.2.1
    obtain ⟨c, d⟩ := yOk_ln1 (B := B) a
    have := h.2.2 (by omega)
    exact ⟨c, fun _ => by omega⟩
  · rename_i h3
    exact ⟨(yOk_fail h).1, fun q => absurd q h3⟩
theorem yOk_npt {lo hi : Int32} {c : Nat} : yOk n P (yNpt B n P lo hi c) := yOk_T yOk_num
theorem yOk_set : yOk n P (ySet B n P) := by
  unfold ySet yWar ySt3
  have a : yOk n P (yNpt B n (yNpt B n (yNpt B n (yLit B n P [102, 114, 97, 109, 101, 115]) (zi 2) (zi 64) 0) (zi 0) (zi 200) 1) (zi 0) (zi 20) 2) := yOk_tr (yOk_tr (yOk_tr yOk_lit yOk_npt) yOk_npt) yOk_npt
  refine yOk_tr (Q := yPut (yNum B n (yNpt B n (yNpt B n (yNpt B n (yLit B n P [102, 114, 97, 109, 101, 115]) (zi 2) (zi 64) 0) (zi 0) (zi 200) 1) (zi 0) (zi 20) 2) (zi 0) (zi 200)).2 3 (yNum B n (yNpt B n (yNpt B n (yNpt B n (yLit B n P [102, 114, 97, 109, 101, 115]) (zi 2) (zi 64) 0) (zi 0) (zi 200) 1) (zi 0) (zi 20) 2) (zi 0) (zi 200)).1) ?_ yOk_npt
  exact yOk_T (yOk_tr a yOk_num)
/-! the rows cleared -/
theorem m177a {l1 : Int32} : ∀ d i (E : ZD2), i + d = 540 → ∃ E', zev X 177 32 [.ref 168, .int l1, .int (zi i)] [] (zHP E O, k) = zev X 177 54 [.ref 168, .int l1, .int (zi 0)] [] (zHP E' O, k) ∧ (∀ a, a ≠ 177 → E' a = E a) ∧ ∀ j, j < 540 → E' 177 j = if i ≤ j then zi 0 else E 177 j
  | 0, i, E, h => by
    have e : i = 540 := by omega
    subst e
    refine ⟨E, ?_, fun _ _ => rfl, fun j hj => by rw [if_neg (by omega)]⟩
    refine b177_32.trans ?_
    have q : ¬ zi 540 < 540 := by rw [zl_540, zi_lt (by omega) (by omega)]; omega
    rw [if_neg q, zl_0]
  | d + 1, i, E, h => by
    obtain ⟨E', e1, e2, e3⟩ := m177a (l1 := l1) d (i + 1) (zw E 177 i (zi 0)) (by omega)
    refine ⟨E', Eq.trans ?_ e1, fun a ha => (e2 a ha).trans (zw_row ha), fun j hj => ?_⟩
    · refine b177_32.trans ?_
      have q : zi i < 540 := by rw [zl_540, zi_lt (by omega) (by omega)]; omega
      have nb : ¬ (zi i < 0 ∨ 540 ≤ (zi i).toNatClampNeg) := by rw [zl_0, zi_lt (by omega) (by omega), zi_toNat (by omega)]; omega
      rw [if_pos q, if_neg nb, zi_toNat (by omega), zl_1, zl_0, zi_add]
    · rw [e3 j hj]
      by_cases c : i + 1 ≤ j
      · rw [if_pos c, if_pos (by omega)]
      · rw [if_neg c]
        by_cases c2 : j = i
        · subst c2
          rw [zw_self, if_pos (Nat.le_refl _)]
        · rw [zw_ne (by omega), if_neg (by omega)]
theorem m177b {l1 : Int32} : ∀ d i (E : ZD2), i + d = 72 → ∃ E', zev X 177 54 [.ref 168, .int l1, .int (zi i)] [] (zHP E O, k) = zev X 177 96 [.ref 168, .int l1, .int (zi 0)] [] (zHP E' O, k) ∧ (∀ a, a ≠ 177 → E' a = E a) ∧ ∀ j, E' 177 j = if 46 + 5 * i ≤ j ∧ j < 406 ∧ ((j - 46) % 5 = 0 ∨ (j - 46) % 5 = 3) then zn else E 177 j
  | 0, i, E, h => by
    have e : i = 72 := by omega
    subst e
    refine ⟨E, ?_, fun _ _ => rfl, fun j => by rw [if_neg (by omega)]⟩
    refine b177_54.trans ?_
    have q : ¬ zi 72 < 72 := by rw [zl_72, zi_lt (by omega) (by omega)]; omega
    rw [if_neg q, zl_0]
  | d + 1, i, E, h => by
    obtain ⟨E', e1, e2, e3⟩ := m177b (l1 := l1) d (i + 1) (zw (zw E 177 (46 + 5 * i) zn) 177 (46 + 5 * i + 3) zn) (by omega)
    refine ⟨E', Eq.trans ?_ e1, fun a ha => (e2 a ha).trans ((zw_row ha).trans (zw_row ha)), fun j => ?_⟩
    · refine b177_54.trans ?_
      have q : zi i < 72 := by rw [zl_72, zi_lt (by omega) (by omega)]; omega
      have x0 : (46 : Int32) + 5 * zi i + 0 = zi (46 + 5 * i) := by rw [zl_46, zl_5, zl_0, zi_mul, zi_add, zi_add]; rfl
      have x3 : (46 : Int32) + 5 * zi i + 3 = zi (46 + 5 * i + 3) := by rw [zl_46, zl_5, zl_3, zi_mul, zi_add, zi_add]
      have nb0 : ¬ (zi (46 + 5 * i) < 0 ∨ 540 ≤ (zi (46 + 5 * i)).toNatClampNeg) := by rw [zl_0, zi_lt (by omega) (by omega), zi_toNat (by omega)]; omega
      have nb3 : ¬ (zi (46 + 5 * i + 3) < 0 ∨ 540 ≤ (zi (46 + 5 * i + 3)).toNatClampNeg) := by rw [zl_0, zi_lt (by omega) (by omega), zi_toNat (by omega)]; omega
      rw [if_pos q, x0, x3, if_neg nb0, if_neg nb3, zi_toNat (by omega), zi_toNat (by omega), zl_1, zi_add]
      rfl
    · rw [e3 j]
      by_cases c : 46 + 5 * (i + 1) ≤ j ∧ j < 406 ∧ ((j - 46) % 5 = 0 ∨ (j - 46) % 5 = 3)
      · rw [if_pos c, if_pos (by omega)]
      · rw [if_neg c]
        by_cases c2 : j = 46 + 5 * i + 3
        · subst c2
          rw [zw_self, if_pos (by omega)]
        · rw [zw_ne (by omega)]
          by_cases c3 : j = 46 + 5 * i
          · subst c3
            rw [zw_self, if_pos (by omega)]
          · rw [zw_ne (by omega), if_neg (by omega)]
theorem m177c {l1 : Int32} : ∀ d i (E : ZD2), i + d = 6 → ∃ E', zev X 177 96 [.ref 168, .int l1, .int (zi i)] [] (zHP E O, k) = zev X 177 96 [.ref 168, .int l1, .int (zi 6)] [] (zHP E' O, k) ∧ (∀ a, a ≠ 177 → E' a = E a) ∧ ∀ j, E' 177 j = if 534 + i ≤ j ∧ j < 540 then zn else E 177 j
  | 0, i, E, h => by
    have e : i = 6 := by omega
    subst e
    exact ⟨E, rfl, fun _ _ => rfl, fun j => by rw [if_neg (by omega)]⟩
  | d + 1, i, E, h => by
    obtain ⟨E', e1, e2, e3⟩ := m177c (l1 := l1) d (i + 1) (zw E 177 (534 + i) zn) (by omega)
    refine ⟨E', Eq.trans ?_ e1, fun a ha => (e2 a ha).trans (zw_row ha), fun j => ?_⟩
    · refine b177_96.trans ?_
      have q : zi i < 6 := by rw [zl_6, zi_lt (by omega) (by omega)]; omega
      have x0 : (534 : Int32) + zi i = zi (534 + i) := by rw [zl_534, zi_add]
      have nb : ¬ (zi (534 + i) < 0 ∨ 540 ≤ (zi (534 + i)).toNatClampNeg) := by rw [zl_0, zi_lt (by omega) (by omega), zi_toNat (by omega)]; omega
      rw [if_pos q, x0, if_neg nb, zi_toNat (by omega), zl_1, zi_add]
      rfl
    · rw [e3 j]
      by_cases c : 534 + (i + 1) ≤ j ∧ j < 540
      · rw [if_pos c, if_pos (by omega)]
      · rw [if_neg c]
        by_cases c2 : j = 534 + i
        · subst c2
          rw [zw_self, if_pos (by omega)]
        · rw [zw_ne (by omega), if_neg (by omega)]
/-- what a text begins with -/
def yR0 (j : Nat) : Int32 := if 46 ≤ j ∧ j < 406 ∧ ((j - 46) % 5 = 0 ∨ (j - 46) % 5 = 3) then zn else if 534 ≤ j then zn else zi 0
theorem m177r {l1 : Int32} : ∃ E', zev X 177 32 [.ref 168, .int l1, .int (zi 0)] [] (zHP D O, k) = zev X 177 96 [.ref 168, .int l1, .int (zi 6)] [] (zHP E' O, k) ∧ (∀ a, a ≠ 177 → E' a = D a) ∧ ∀ j, j < 540 → E' 177 j = yR0 j := by
  obtain ⟨E1, a1, a2, a3⟩ := @m177a X O k l1 540 0 D rfl
  obtain ⟨E2, b1, b2, b3⟩ := @m177b X O k l1 72 0 E1 rfl
  obtain ⟨E3, c1, c2, c3⟩ := @m177c X O k l1 6 0 E2 rfl
  refine ⟨E3, a1.trans (b1.trans c1), fun a ha => (c2 a ha).trans ((b2 a ha).trans (a2 a ha)), fun j hj => ?_⟩
  rw [c3 j, b3 j, a3 j hj, if_pos (Nat.zero_le _)]
  unfold yR0
  by_cases c : 46 ≤ j ∧ j < 406 ∧ ((j - 46) % 5 = 0 ∨ (j - 46) % 5 = 3)
  · rw [if_neg (by omega), if_pos (by omega), if_pos c]
  · rw [if_neg c]
    by_cases c2 : 534 ≤ j
    · rw [if_pos (by omega), if_pos c2, if_neg c]
    · rw [if_neg (by omega), if_neg (by omega), if_neg c2]
/-- once the settings are read, what was read is the class's -/
theorem zRx_set {a b c w l : Nat} (hs : ∀ j, j < 540 → D 177 j = yR0 j) (h27 : D 168 27 = zi a) (h28 : D 168 28 = zi b) (h29 : D 168 29 = zi c) (h30 : D 168 30 = zi w) (h31 : D 168 31 = zi l) (h32 : D 168 32 = zi 0) (h33 : D 168 33 = zi 0) (ha : a ≤ 64) (hc : c ≤ 20) (hw : w ≤ 200) (hl : l ≤ w) : zRx D (uSet a b c w l) := by
  have o : ∀ t, t ≠ 0 → uSet a b c w l t = zTc t := fun t ht => by
    unfold uSet
    rw [zw_row ht, zw_row ht, zw_row ht, zw_row ht, zw_row ht]
  have e00 : uSet a b c w l 0 0 = zi a := by unfold uSet; rw [zw_ne (by omega), zw_ne (by omega), zw_ne (by omega), zw_ne (by omega), zw_self]
  have e01 : uSet a b c w l 0 1 = zi b := by unfold uSet; rw [zw_ne (by omega), zw_ne (by omega), zw_ne (by omega), zw_self]
  have e02 : uSet a b c w l 0 2 = zi c := by unfold uSet; rw [zw_ne (by omega), zw_ne (by omega), zw_self]
  have e03 : uSet a b c w l 0 3 = zi w := by unfold uSet; rw [zw_ne (by omega), zw_self]
  have e04 : uSet a b c w l 0 4 = zi l := by unfold uSet; rw [zw_self]
  have o1 := o 1 (by omega)
  have o2 := o 2 (by omega)
  have o3 := o 3 (by omega)
  have o4 := o 4 (by omega)
  have o5 := o 5 (by omega)
  have enp : sNp (uSet a b c w l) = 0 := by unfold sNp; rw [o1]; rfl
  have enf : sNf (uSet a b c w l) = a := by unfold sNf; rw [e00, zi_toNat (by omega)]
  have r0 : ∀ j, j < 46 → D 177 j = zi 0 := fun j hj => by
    rw [hs j (by omega)]
    unfold yR0
    rw [if_neg (by omega), if_neg (by omega)]
  refine ⟨⟨by rw [e00]; exact h27, by rw [e01]; exact h28, by rw [e02]; exact h29, by rw [e03]; exact h30, by rw [e04]; exact h31, by rw [enp]; exact h32⟩, ⟨fun p hp => absurd hp (by omega), fun p _ hp => ⟨?_, ?_⟩⟩, ⟨?_, ?_, ?_, ?_, ?_⟩, fun p hp => absurd hp (by omega), 0, (zGd_set ha hc hw hl).2, h33⟩
  · rw [o2]
    exact ⟨zTc_2, zTc_2, zTc_2, zTc_2⟩
  · exact ⟨r0 _ (by omega), r0 _ (by omega), r0 _ (by omega), r0 _ (by omega)⟩
  · unfold zRt
    rw [o1]
    simp only [zTc_1j]
    exact ⟨⟨r0 _ (by omega), r0 _ (by omega), r0 _ (by omega), r0 _ (by omega), r0 _ (by omega)⟩, r0 _ (by omega), r0 _ (by omega), r0 _ (by omega), r0 _ (by omega), r0 _ (by omega)⟩
  · exact fun p hp => absurd hp (by omega)
  · intro r hr
    rw [o3]
    obtain ⟨z1, z2, z3, z4⟩ := zTc_at hr
    have z5 : zTc 3 (5 * r + 1) = zi 0 := by
      unfold zTc
      rw [if_neg (by omega), if_neg (by omega), if_neg (by omega)]
    rw [z1, z2, z3, z5, hs _ (by omega), hs _ (by omega), hs _ (by omega), hs _ (by omega)]
    unfold yR0
    refine ⟨if_pos (by omega), ?_, ?_, if_pos (by omega), fun q => absurd rfl q⟩
    · rw [if_neg (by omega), if_neg (by omega)]
    · rw [if_neg (by omega), if_neg (by omega)]
  · intro f hf
    rw [enf] at hf
    rw [o4, o1, zTc_1j]
    obtain ⟨z1, z2, z3⟩ := zTc_4 (f := f) (by omega)
    rw [z1, z2, z3, hs _ (by omega), hs _ (by omega)]
    unfold yR0
    rw [if_neg (by omega), if_neg (by omega), if_neg (by omega), if_neg (by omega)]
    exact ⟨rfl, fun _ => Or.inl ⟨rfl, by rw [zi_lt (by omega) (by omega)]; omega⟩⟩
  · intro q hq
    rw [o5, hs _ (by omega)]
    unfold yR0
    rw [if_neg (by omega), if_pos (by omega)]
    unfold zTc
    rw [if_neg (by omega), if_neg (by omega), if_pos (by omega)]
end
