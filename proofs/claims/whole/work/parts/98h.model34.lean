/-! The model's load. -/
theorem zrow_id (D : ZD2) (a : Nat) : zrow D a (D a) = D := by
  funext c
  unfold zrow
  split
  · rename_i h; rw [h]
  · rfl
section
variable {X : ZX} {D T : ZD2} {O : ZO2} {k : Nat × Nat × Nat} {n : Nat}
theorem m176fd {c : Int32} (h : D 168 0 = zi 0) : zev X 176 0 [.ref 168, .int (zi 0), .int c] [] (zHP D O, k) = some (.inl (some (.int (zi 0))), (zHP D O, k)) := by
  have g := m176f (X := X) (D := D) (s := D 172) (O := O) (k := k) (c := c) h
  rw [zrow_id] at g
  exact g
theorem m176td {c : Nat} (h : D 168 0 = zi 0) (h1 : 0 < c) (h2 : c < 2147483648) : zev X 176 0 [.ref 168, .int (zi 1), .int (zi c)] [] (zHP D O, k) = some (.inl (some (.int (zi 1))), (zHP (zth D c) O, k)) := by
  have g := m176t (X := X) (D := D) (s := D 172) (O := O) (k := k) (c := c) h h1 h2
  have e : zrow (zth D c) 172 (D 172) = zth D c := by
    have e2 : zth D c 172 = D 172 := zth_a (by omega)
    rw [← e2, zrow_id]
  rw [zrow_id, e] at g
  exact g
theorem zRx_w {j : Nat} {v : Int32} (R : zRx D T) (hj : j < 27) : zRx (zw D 168 j v) T := by
  obtain ⟨⟨r1, r2, r3, r4, r5, r6⟩, ⟨r7, r7u⟩, r8, r9, hh, r10, r11⟩ := R
  have o : ∀ a, a ≠ 168 → zw D 168 j v a = D a := fun a ha => zw_row ha
  have x : ∀ y, 27 ≤ y → zw D 168 j v 168 y = D 168 y := fun y hy => zw_ne (by omega)
  refine ⟨⟨by rw [x 27 (by omega)]; exact r1, by rw [x 28 (by omega)]; exact r2, by rw [x 29 (by omega)]; exact r3, by rw [x 30 (by omega)]; exact r4, by rw [x 31 (by omega)]; exact r5, by rw [x 32 (by omega)]; exact r6⟩, ⟨by rw [o 179 (by omega), o 180 (by omega)]; exact r7, by rw [o 177 (by omega)]; exact r7u⟩, by rw [o 177 (by omega)]; exact r8, ?_, hh, r10, by rw [x 33 (by omega)]; exact r11⟩
  intro p hp
  rw [o 178 (by omega)]
  exact r9 p hp
/-- up to the reading -/
theorem m174a {l : Nat} (h17 : D 168 17 = zi l) (hl : l ≤ 600) (hn : n ≤ l) : zev X 174 0 [.ref 168, .int (zi n)] [] (zHP D O, k) = zcon (zev X 177 0 [.ref 168, .int (zi n), zJ] [] (zHP (zw (zth D 0) 168 17 (zi 0)) O, k)) (fun v S' => zev X 174 42 [.ref 168, .int (zi n)] (v.toList ++ []) S') := by
  have e17 : zth D 0 168 17 = zi l := (zth_f (by omega)).trans h17
  have g0 := b174_0 (X := X) (D := D) (O := O) (k := k) (l1 := zi n)
  rw [zl_0, zth_zi, e17, m175z (Nat.zero_le _) hn (by omega), zcon_inl] at g0
  have g1 := g0.trans b174_15
  rw [if_neg (show ¬ zi 1 = 0 by decide), zl_0, zl_1, m176fd (zth_0 D 0), zcon_inl] at g1
  have g2 := g1.trans b174_27
  rw [if_pos (show zi 0 = 0 from rfl), zl_0] at g2
  exact g2
/-- out of bounds: nothing but that is told -/
theorem m174o {l : Nat} {a : Int32} (h17 : D 168 17 = zi l) (ha : a < zi 0 ∨ zi l < a) : zev X 174 0 [.ref 168, .int a] [] (zHP D O, k) = some (.inl (some (.int (zi 0))), (zHP (zth D 1) O, k)) := by
  have e17 : zth D 0 168 17 = zi l := (zth_f (by omega)).trans h17
  have g0 := b174_0 (X := X) (D := D) (O := O) (k := k) (l1 := a)
  rw [zl_0, zth_zi, e17, m175w ha, zcon_inl] at g0
  have g1 := g0.trans b174_15
  rw [if_pos (show zi 0 = 0 from rfl), zl_1, m176td (zth_0 D 0) (by omega) (by omega), zth_th, zcon_inl] at g1
  have g2 := g1.trans b174_27
  rw [if_neg (show ¬ zi 1 = 0 by decide)] at g2
  exact g2
/-- what a text with an error leaves -/
theorem m174n {l : Nat} (h17 : D 168 17 = zi l) (hl : l ≤ 600) (hn : n ≤ l) (hB : ∀ i, i < n → D 176 i ≠ zn) (he : (yParse (D 176) n).er ≠ 0) : ∃ D', zev X 174 0 [.ref 168, .int (zi n)] [] (zHP D O, k) = some (.inl (some (.int (zi 0))), (zHP D' O, k)) ∧ D' 168 0 = zi 2 ∧ D' 168 17 = zi 0 ∧ D' 168 18 = zi (yParse (D 176) n).er ∧ D' 168 19 = (yParse (D 176) n).ep ∧ (∀ a, a ≠ 168 → a ≠ 177 → a ≠ 178 → a ≠ 179 → a ≠ 180 → D' a = D a) ∧ ∀ x, x ≠ 0 → x ≠ 17 → x ≠ 18 → x ≠ 19 → x < 20 ∨ 33 < x → D' 168 x = D 168 x := by
  have g0 := m174a (X := X) (D := D) (O := O) (k := k) (n := n) h17 hl hn
  have e4 := (yParse_j (B := D 176) (n := n)).1.2.2
  have d176 : zw (zth D 0) 168 17 (zi 0) 176 = D 176 := (zw_row (by omega)).trans (zth_a (by omega))
  obtain ⟨D1, a1, a2, a3, a4, _⟩ := m177 (X := X) (D := zw (zth D 0) 168 17 (zi 0)) (O := O) (k := k) (n := n) (by omega) (by rw [d176]; exact hB)
  rw [d176] at a2 a3
  generalize yParse (D 176) n = P at he e4 a2 a3 ⊢
  rw [a1, zcon_inl] at g0
  have g1 := g0.trans b174_42
  have q : zw D1 168 18 (D1 168 25) 168 25 = zi P.er := (zw_ne (by omega)).trans a2
  have q26 : zw D1 168 18 (D1 168 25) 168 26 = P.ep := (zw_ne (by omega)).trans a3
  have ne : ¬ zi P.er = 0 := by rw [zl_0, zi_inj (by omega) (by omega)]; exact he
  rw [q, if_neg ne, q26, a2] at g1
  have g2 := g1.trans b174_66
  have q2 : zw (zw D1 168 18 (zi P.er)) 168 19 P.ep 168 25 = zi P.er := (zw_ne (by omega)).trans ((zw_ne (by omega)).trans a2)
  have z0 : zw (zw D1 168 18 (zi P.er)) 168 19 P.ep 168 0 = zi 0 := by
    rw [zw_ne (by omega), zw_ne (by omega), a4.2 0 (by omega), zw_ne (by omega)]
    exact zth_0 D 0
  rw [q2, if_neg ne, zl_1, zl_2, m176td z0 (by omega) (by omega), zcon_inl] at g2
  have g3 := g2.trans b174_86
  rw [if_neg (show ¬ zi 1 = 0 by decide)] at g3
  refine ⟨_, g3, zth_0 _ 2, ?_, ?_, ?_, fun a h1 h2 h3 h4 h5 => ?_, fun x h1 h2 h3 h4 h5 => ?_⟩
  · rw [zth_f (by omega), zw_ne (by omega), zw_ne (by omega), a4.2 17 (by omega), zw_self]
  · rw [zth_f (by omega), zw_ne (by omega), zw_self]
  · rw [zth_f (by omega), zw_self]
  · rw [zth_a h1, zw_row h1, zw_row h1, a4.1 a h1 h2 h3 h4 h5, zw_row h1, zth_a h1]
  · rw [zth_f h1, zw_ne (by omega), zw_ne (by omega), a4.2 x h5, zw_ne (by omega), zth_f h1]
/-- what a text that is right leaves -/
theorem m174 {l : Nat} (h17 : D 168 17 = zi l) (hl : l ≤ 600) (hn : n ≤ l) (hB : ∀ i, i < n → D 176 i ≠ zn) (he : (yParse (D 176) n).er = 0) : zGd (yParse (D 176) n).T ∧ ∃ D', zev X 174 0 [.ref 168, .int (zi n)] [] (zHP D O, k) = some (.inl (some (.int ((yParse (D 176) n).T 1 0))), (zHP D' O, k)) ∧ (D' 168 0 = zi 0 ∧ D' 168 1 = zi 1 ∧ D' 168 14 = zi 0 ∧ D' 168 17 = zi 0 ∧ D' 168 18 = zi 0 ∧ D' 168 19 = zn ∧ D' 175 0 = zi 0 ∧ D' 175 1 = zi 0) ∧ zRs D' (yParse (D 176) n).T ∧ zRd (D' 172) (yParse (D 176) n).T ∧ zRn D' (yParse (D 176) n).T ∧ (∀ a, a < 168 ∨ a = 173 ∨ a = 174 ∨ a = 176 ∨ 180 < a → D' a = D a) ∧ ∀ x, 33 < x → D' 168 x = D 168 x := by
  have g0 := m174a (X := X) (D := D) (O := O) (k := k) (n := n) h17 hl hn
  have d176 : zw (zth D 0) 168 17 (zi 0) 176 = D 176 := (zw_row (by omega)).trans (zth_a (by omega))
  obtain ⟨D1, a1, a2, a3, a4, a5⟩ := m177 (X := X) (D := zw (zth D 0) 168 17 (zi 0)) (O := O) (k := k) (n := n) (by omega) (by rw [d176]; exact hB)
  rw [d176] at a2 a3 a5
  obtain ⟨R, G⟩ := a5 he
  generalize yParse (D 176) n = P at he a2 a3 R G ⊢
  rw [he] at a2
  have I := G.1.1
  have h6 := zIv_np6 I
  rw [a1, zcon_inl] at g0
  have g1 := g0.trans b174_42
  have q : zw D1 168 18 (D1 168 25) 168 25 = 0 := (zw_ne (by omega)).trans a2
  rw [if_pos q, a2] at g1
  have g2 := g1.trans b174_66
  rw [zn_l] at g2
  have q2 : zw (zw D1 168 18 (zi 0)) 168 19 zn 168 25 = 0 := (zw_ne (by omega)).trans ((zw_ne (by omega)).trans a2)
  have z0 : zw (zw D1 168 18 (zi 0)) 168 19 zn 168 0 = zi 0 := by
    rw [zw_ne (by omega), zw_ne (by omega), a4.2 0 (by omega), zw_ne (by omega)]
    exact zth_0 D 0
  rw [if_pos q2, zl_0, m176fd z0, zcon_inl] at g2
  have g3 := g2.trans b174_86
  rw [if_pos (show zi 0 = 0 from rfl), zl_1] at g3
  have R2 : zRx (zw (zw (zw D1 168 18 (zi 0)) 168 19 zn) 168 1 (zi 1)) P.T := zRx_w (zRx_w (zRx_w R (by omega)) (by omega)) (by omega)
  obtain ⟨D5, c1, c2, c3, c4, c5, c6, c7, c8⟩ := m197 (X := X) (O := O) (k := k) R2 h6
  rw [c1, zcon_inl] at g3
  have g4 := g3.trans b174_100
  have vz : vp_nar .boolean (0 : Int32) = zi 0 := by decide
  have e7 : zw (zw (zw D5 168 14 0) 175 0 (zi 0)) 175 1 (zi 0) 168 7 = P.T 1 0 := by
    rw [zw_nea (by omega), zw_nea (by omega), zw_ne (by omega), c4.1]
    exact (zIv_np I).symm
  rw [if_neg (show ¬ ((0 : Int32) < 0 ∨ 2 ≤ (0 : Int32).toNatClampNeg) by decide), if_neg (show ¬ ((1 : Int32) < 0 ∨ 2 ≤ (1 : Int32).toNatClampNeg) by decide), show (0 : Int32).toNatClampNeg = 0 from rfl, show (1 : Int32).toNatClampNeg = 1 from rfl, vz, e7, zl_0] at g4
  refine ⟨G, _, g4, ⟨?_, ?_, ?_, ?_, ?_, ?_, ?_, zw_self _ _ _ _⟩, ?_, ?_, ?_, fun a ha => ?_, fun x hx => ?_⟩
  · rw [zw_nea (by omega), zw_nea (by omega), zw_ne (by omega), c3 0 (by omega), zw_ne (by omega)]
    exact z0
  · rw [zw_nea (by omega), zw_nea (by omega), zw_ne (by omega), c3 1 (by omega), zw_self]
  · rw [zw_nea (by omega), zw_nea (by omega), zw_self]
  · rw [zw_nea (by omega), zw_nea (by omega), zw_ne (by omega), c3 17 (by omega), zw_ne (by omega), zw_ne (by omega), zw_ne (by omega), a4.2 17 (by omega), zw_self]
  · rw [zw_nea (by omega), zw_nea (by omega), zw_ne (by omega), c3 18 (by omega), zw_ne (by omega), zw_ne (by omega), zw_self]
  · rw [zw_nea (by omega), zw_nea (by omega), zw_ne (by omega), c3 19 (by omega), zw_ne (by omega), zw_self]
  · rw [zw_ne (by omega), zw_self]
  · have x : ∀ y, y < 14 → zw (zw (zw D5 168 14 (zi 0)) 175 0 (zi 0)) 175 1 (zi 0) 168 y = D5 168 y := fun y hy => by
      rw [zw_nea (by omega), zw_nea (by omega), zw_ne (by omega)]
    have o : ∀ a, a ≠ 168 → a ≠ 175 → zw (zw (zw D5 168 14 (zi 0)) 175 0 (zi 0)) 175 1 (zi 0) a = D5 a := fun a h1 h2 => by
      rw [zw_row h2, zw_row h2, zw_row h1]
    refine ⟨⟨?_, ?_, ?_, ?_, ?_, ?_⟩, fun p hp => ?_, fun p hp => ?_⟩
    · rw [x 7 (by omega), c4.1]; exact (zIv_np I).symm
    · rw [x 2 (by omega)]; exact c4.2.1
    · rw [x 3 (by omega)]; exact c4.2.2.1
    · rw [x 4 (by omega)]; exact c4.2.2.2.1
    · rw [x 5 (by omega)]; exact c4.2.2.2.2.1
    · rw [x 6 (by omega)]; exact c4.2.2.2.2.2
    · rw [o 170 (by omega) (by omega)]; exact c5 p hp
    · rw [o 171 (by omega) (by omega)]; exact c6 p hp
  · have o : zw (zw (zw D5 168 14 (zi 0)) 175 0 (zi 0)) 175 1 (zi 0) 172 = D5 172 := by
      rw [zw_row (by omega), zw_row (by omega), zw_row (by omega)]
    rw [o]
    exact zRd_cg R2.2.2.1 h6 I.1.2.2 c8
  · have o : zw (zw (zw D5 168 14 (zi 0)) 175 0 (zi 0)) 175 1 (zi 0) 169 = D5 169 := by
      rw [zw_row (by omega), zw_row (by omega), zw_row (by omega)]
    intro p hp
    obtain ⟨ls, y1, y2, y3⟩ := R2.2.2.2.1 p hp
    refine ⟨ls, y1, y2, fun i hi => ?_⟩
    rw [o, c7 _ (by omega)]
    exact y3 i hi
  · rw [zw_row (by omega), zw_row (by omega), zw_row (by omega), c2 a (by omega) (by omega) (by omega) (by omega) (by omega), zw_row (by omega), zw_row (by omega), zw_row (by omega), a4.1 a (by omega) (by omega) (by omega) (by omega) (by omega), zw_row (by omega), zth_a (by omega)]
  · rw [zw_nea (by omega), zw_nea (by omega), zw_ne (by omega), c3 x (by omega), zw_ne (by omega), zw_ne (by omega), zw_ne (by omega), a4.2 x (by omega), zw_ne (by omega), zth_f (by omega)]
end
