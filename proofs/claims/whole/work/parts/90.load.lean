/-! The class's load: the text read, what it leaves. -/
theorem hm33 : zisM 33 := zisM_of 33 (by decide)
theorem hm46 : zisM 46 := zisM_of 46 (by decide)
/-- after a text was read, whatever came of it -/
def uRead (D : ZD2) (n : Nat) (P : ZPs) : ZD2 := zw (zw (zw (zps n (zw D 4 6 (zb (decide (P.er = 0)))) P) 0 10 (zi P.er)) 0 11 P.ep) 2 1 (zi 0)
def uNow (E : ZD2) (T : ZD2) : ZD2 := zmt (zw E 20 6 (zi 1)) 20 T
/-- after a text was taken -/
def uTaken (E : ZD2) (T : ZD2) : ZD2 := zmt (zw (zmt (zw (zw (uNow E T) 59 2 (zi 0)) 33 6 (zi 0)) 33 zTc) 46 6 (zi 0)) 46 zTc
section
variable {X : ZX} {D : ZD2} {O : ZO2} {k : Nat × Nat × Nat} {n : Nat} {P : ZPs}
theorem c112 {l : Nat} (hD : D 2 1 = zi l) (hl : l ≤ 600) (hn : n ≤ l) : zev X 112 0 [.ref 0, .int (zi n)] [] (zHP D O, k) = some (.inl none, (zHP D O, k)) := by
  refine b112_0.trans ?_
  have h1 : ¬ zi n < 0 := by rw [zl_0, zi_lt (by omega) (by omega)]; omega
  rw [if_neg h1, c1i, zcon_inl, hD]
  refine b112_12.trans ?_
  have h2 : ¬ zi l < zi n := by rw [zi_lt (by omega) (by omega)]; omega
  rw [if_neg h2]
theorem c112n {l : Nat} {a : Int32} (hD : D 2 1 = zi l) (ha : a < zi 0 ∨ zi l < a) : zev X 112 0 [.ref 0, .int a] [] (zHP D O, k) = some (.inr 2, (zHP D O, kt k)) := by
  refine b112_0.trans ?_
  by_cases h1 : a < 0
  · rw [if_pos h1]; rfl
  · rw [if_neg h1, c1i, zcon_inl, hD]
    refine b112_12.trans ?_
    have h2 : zi l < a := ha.resolve_left h1
    rw [if_pos h2]
    rfl
theorem c111m {l : Nat} {a : Int32} (hD : D 2 1 = zi l) (ha : a < zi 0 ∨ zi l < a) : zev X 111 0 [.ref 0, .int a] [] (zHP D O, k) = some (.inr 2, (zHP D O, kt k)) := by
  refine b111_0.trans ?_
  rw [c112n hD ha]
  rfl
theorem c111s {l : Nat} (hD : D 2 1 = zi l) (hl : l ≤ 600) (hn : n ≤ l) (hf : zFin (zT D 4)) : zev X 111 0 [.ref 0, .int (zi n)] [] (zHP D O, k) = zev X 111 35 [.ref 0, .int (zi n)] [] (zHP (uRead D n (yParse (D 3) n)) O, k) := by
  refine b111_0.trans ?_
  rw [c112 hD hl hn, zcon_inl]
  refine b111_5.trans ?_
  rw [c75 (by omega) hf, zcon_inl]
  refine b111_14.trans ?_
  generalize yParse (D 3) n = P
  have e : (zw (zps n (zw D 4 6 (zb (decide (P.er = 0)))) P) 0 10 (zi P.er)) 1 8 = P.ep := by rw [zw_row (by omega)]; exact zps18
  rw [b89_0, zcon_inl, e]
  refine b111_25.trans ?_
  rw [b8_0 zisB_2, zcon_inl]
  rfl
theorem uRead_0 {a : Nat} (h0 : a ≠ 0) (h1 : a ≠ 1) (h2 : a ≠ 2) (h4 : ¬ (a = 6 ∨ a = 8 ∨ a = 10 ∨ a = 12 ∨ a = 14 ∨ a = 16)) (h44 : a ≠ 4) : uRead D n P a = D a := by
  unfold uRead zps
  rw [zw_row h2, zw_row h0, zw_row h0, zmt_o (by omega), zrow_ne h1, zw_row h44]
theorem uRead_er : uRead D n P 0 10 = zi P.er := by
  unfold uRead
  rw [zw_ne (by omega), zw_ne (by omega), zw_self]
theorem uRead_T {t : Nat} (ht : t < 6) : uRead D n P (6 + 2 * t) = P.T t := by
  unfold uRead
  rw [zw_row (by omega), zw_row (by omega), zw_row (by omega)]
  unfold zps
  have c : t = 0 ∨ t = 1 ∨ t = 2 ∨ t = 3 ∨ t = 4 ∨ t = 5 := by omega
  rcases c with rfl | rfl | rfl | rfl | rfl | rfl
  · exact zmt_0 _ 4 P.T
  · exact zmt_1 _ 4 P.T
  · exact zmt_2 _ 4 P.T
  · exact zmt_3 _ 4 P.T
  · exact zmt_4 _ 4 P.T
  · exact zmt_5 _ 4 P.T
theorem uRead_zT {t : Nat} (ht : t < 6) : zT (uRead D n P) 4 t = P.T t := by
  funext j
  show uRead D n P (4 + 2 + 2 * t) j = _
  exact congrFun (uRead_T ht) j
theorem uRead_46 : uRead D n P 4 6 = zb (decide (P.er = 0)) := by
  unfold uRead zps
  rw [zw_row (by omega), zw_row (by omega), zw_row (by omega), zmt_o (by omega), zrow_ne (by omega), zw_self]
theorem c111n {l : Nat} (hD : D 2 1 = zi l) (hl : l ≤ 600) (hn : n ≤ l) (hf : zFin (zT D 4)) (he : (yParse (D 3) n).er ≠ 0) : zev X 111 0 [.ref 0, .int (zi n)] [] (zHP D O, k) = some (.inr 0, (zHP (uRead D n (yParse (D 3) n)) O, kt k)) := by
  rw [c111s hD hl hn hf]
  have hj := (yParse_j (B := D 3) (n := n)).1.2.2
  generalize yParse (D 3) n = P at he hj
  refine b111_35.trans ?_
  have h' : ¬ uRead D n P 0 10 = 0 := by rw [uRead_er, zl_0, zi_inj (by omega) (by omega)]; exact he
  rw [if_neg h']
  rfl
theorem c111 {l : Nat} (hD : D 2 1 = zi l) (hl : l ≤ 600) (hn : n ≤ l) (hf : zFin (zT D 4)) (hf20 : zFin (zT D 20)) (hf33 : zFin (zT D 33)) (hf46 : zFin (zT D 46)) (he : (yParse (D 3) n).er = 0) : zev X 111 0 [.ref 0, .int (zi n)] [] (zHP D O, k) = some (.inl (some (.int ((yParse (D 3) n).T 1 0))), (zHP (uTaken (uRead D n (yParse (D 3) n)) (yParse (D 3) n).T) O, k)) := by
  rw [c111s hD hl hn hf]
  have hj := (yParse_j (B := D 3) (n := n)).2.1
  generalize yParse (D 3) n = P at he hj
  refine b111_35.trans ?_
  have h' : uRead D n P 0 10 = 0 := by rw [uRead_er, he]; rfl
  rw [if_pos h']
  have g4 : uRead D n P 4 6 = zi 1 := by rw [uRead_46, he]; rfl
  have f4 : zFin (zT (uRead D n P) 4) := zFin_congr (fun t ht => uRead_zT ht) hj
  have r20 : ∀ t, t < 6 → zT (uRead D n P) 20 t = zT D 20 t := fun t ht => by
    show uRead D n P (20 + 2 + 2 * t) = D (20 + 2 + 2 * t)
    exact uRead_0 (by omega) (by omega) (by omega) (by omega) (by omega)
  have r33 : ∀ t, t < 6 → zT (uRead D n P) 33 t = zT D 33 t := fun t ht => by
    show uRead D n P (33 + 2 + 2 * t) = D (33 + 2 + 2 * t)
    exact uRead_0 (by omega) (by omega) (by omega) (by omega) (by omega)
  have r46 : ∀ t, t < 6 → zT (uRead D n P) 46 t = zT D 46 t := fun t ht => by
    show uRead D n P (46 + 2 + 2 * t) = D (46 + 2 + 2 * t)
    exact uRead_0 (by omega) (by omega) (by omega) (by omega) (by omega)
  have f20 : zFin (zT (uRead D n P) 20) := zFin_congr r20 hf20
  have f33 : zFin (zT (uRead D n P) 33) := zFin_congr r33 hf33
  have f46 : zFin (zT (uRead D n P) 46) := zFin_congr r46 hf46
  have eT : zmt (zw (uRead D n P) 20 6 (uRead D n P 4 6)) 20 (zT (uRead D n P) 4) = uNow (uRead D n P) P.T := by
    rw [g4]
    exact zmt_congr fun t ht => uRead_zT ht
  generalize uRead D n P = E at g4 f4 f20 f33 f46 eT
  rw [c28 hm20 hm4 (Or.inr (by omega)) (Or.inr g4) f20 f4, zcon_inl, eT]
  refine b111_63.trans ?_
  rw [b12_0, zcon_inl, zl_0]
  refine b111_70.trans ?_
  have o1 : ∀ a, a ≠ 20 → a ≠ 59 → ¬ (a = 22 ∨ a = 24 ∨ a = 26 ∨ a = 28 ∨ a = 30 ∨ a = 32) → zw (uNow E P.T) 59 2 (zi 0) a = E a := fun a h1 h2 h3 => by
    unfold uNow
    rw [zw_row h2, zmt_o (by omega), zw_row h1]
  have f33' : zFin (zT (zw (uNow E P.T) 59 2 (zi 0)) 33) := zFin_congr (fun t ht => by
    show zw (uNow E P.T) 59 2 (zi 0) (33 + 2 + 2 * t) = E (33 + 2 + 2 * t)
    exact o1 _ (by omega) (by omega) (by omega)) f33
  have c33 := c17 (X := X) (D := zw (uNow E P.T) 59 2 (zi 0)) (O := O) (k := k) hm33 f33'
  rw [zmt_zT] at c33
  rw [c33, zcon_inl]
  refine b111_77.trans ?_
  have f46' : zFin (zT (zmt (zw (zw (uNow E P.T) 59 2 (zi 0)) 33 6 (zi 0)) 33 zTc) 46) := zFin_congr (fun t ht => by
    show zmt (zw (zw (uNow E P.T) 59 2 (zi 0)) 33 6 (zi 0)) 33 zTc (46 + 2 + 2 * t) = E (46 + 2 + 2 * t)
    rw [zmt_o (by omega), zw_row (by omega)]
    exact o1 _ (by omega) (by omega) (by omega)) f46
  have c46 := c17 (X := X) (D := zmt (zw (zw (uNow E P.T) 59 2 (zi 0)) 33 6 (zi 0)) 33 zTc) (O := O) (k := k) hm46 f46'
  rw [zmt_zT] at c46
  rw [c46, zcon_inl]
  refine b111_84.trans ?_
  have eU : zmt (zw (zmt (zw (zw (uNow E P.T) 59 2 (zi 0)) 33 6 (zi 0)) 33 zTc) 46 6 (zi 0)) 46 zTc = uTaken E P.T := rfl
  rw [eU]
  have e18 := c18 (X := X) (D := uTaken E P.T) (T := zT (uTaken E P.T) 20) (O := O) (k := k) hm20
  rw [zmt_zT] at e18
  have ev : zT (uTaken E P.T) 20 1 0 = P.T 1 0 := by
    show uTaken E P.T 24 0 = _
    unfold uTaken uNow
    rw [zmt_o (by omega), zw_row (by omega), zmt_o (by omega), zw_row (by omega), zw_row (by omega)]
    exact congrFun (zmt_1 _ 20 P.T) 0
  rw [e18, zcon_inl, ev]
  exact b111_91
end
