/-! The model's parser: a run line. -/
section
variable {X : ZX} {D : ZD2} {O : ZO2} {k : Nat × Nat × Nat} {n : Nat} {P Q : ZPs} {B : Nat → Int32}
/-- the end of a run line that has failed -/
theorem m189e {l1 l2 : Int32} (h : zPx n Q D) (hW : yW n Q) (he : Q.er ≠ 0) (hn : n ≤ 600) (hB : ∀ i, i < n → D 176 i ≠ zn) : ∃ D', zev X 189 122 [.ref 168, .int l1, .int l2, zJ, zJ] [] (zHP D O, k) = some (.inl none, (zHP D' O, k)) ∧ zPx n Q D' ∧ zFrE D D' := by
  obtain ⟨D1, v, a1, a2, a3, -⟩ := m186 (X := X) (O := O) (k := k) (lo := zi 1) (hi := zi 99) h hW hn hB
  obtain ⟨z1, z2⟩ := ySt_num (B := D 176) (lo := zi 1) (hi := zi 99) hW he
  have h1 : zPx n Q D1 := zPx_eq a2 (by rw [z1]; exact he) z1.symm z2.symm
  have b1 : D1 176 = D 176 := a3.1 176 (by omega)
  obtain ⟨D2, v2, c1, c2, c3, -⟩ := m186 (X := X) (O := O) (k := k) (lo := zi 1) (hi := zi 12) h1 hW hn (by rw [b1]; exact hB)
  obtain ⟨y1, y2⟩ := ySt_num (B := D1 176) (lo := zi 1) (hi := zi 12) hW he
  have h2 : zPx n Q D2 := zPx_eq c2 (by rw [y1]; exact he) y1.symm y2.symm
  have q : ¬ D2 168 25 = 0 := by rw [zPx_25 h2 hW]; exact he
  refine ⟨D2, ?_, h2, zFrE_tr a3 c3⟩
  refine b189_122.trans ?_
  rw [zl_1, zl_99, a1, zcon_inl]
  refine b189_129.trans ?_
  rw [zl_1, zl_12, c1, zcon_inl]
  refine b189_137.trans ?_
  rw [m182_4 h2 hW hn, decide_eq_false he, zcon_inl]
  refine b189_147.trans ?_
  rw [if_pos (show zb (false && yIs Q [98, 108, 117, 102, 102]) = 0 from rfl)]
  refine b189_163.trans ?_
  rw [if_neg q]
/-- a name's letters, stored -/
theorem m189l {np st nx : Nat} (h6 : np < 6) (hn : n ≤ 600) (hx : nx ≤ n) (hst : st ≤ nx) : ∀ d i (E : ZD2), i + d = 6 → E 168 25 = 0 → E 168 20 = zi n → E 168 21 = zi nx → E 168 22 = zi st → ∃ E', zev X 189 61 [.ref 168, .int (zi np), .int (zi i), zJ, zJ] [] (zHP E O, k) = zev X 189 61 [.ref 168, .int (zi np), .int (zi 6), zJ, zJ] [] (zHP E' O, k) ∧ (∀ a, a ≠ 178 → E' a = E a) ∧ ∀ j, E' 178 j = if 6 * np + i ≤ j ∧ j < 6 * np + 6 then (if st + (j - 6 * np) < nx then E 176 (st + (j - 6 * np)) else zi 0) else E 178 j
  | 0, i, E, hi, h25, h20, h21, h22 => by
    have e : i = 6 := by omega
    subst e
    exact ⟨E, rfl, fun _ _ => rfl, fun j => by rw [if_neg (by omega)]⟩
  | d + 1, i, E, hi, h25, h20, h21, h22 => by
    have step : zev X 189 61 [.ref 168, .int (zi np), .int (zi i), zJ, zJ] [] (zHP E O, k) = zev X 189 61 [.ref 168, .int (zi np), .int (zi (i + 1)), zJ, zJ] [] (zHP (zw E 178 (6 * np + i) (if st + i < nx then E 176 (st + i) else zi 0)) O, k) := by
      refine b189_61.trans ?_
      have q1 : zi i < 6 := by rw [zl_6, zi_lt (by omega) (by omega)]; omega
      have ei : (6 : Int32) * zi np + zi i = zi (6 * np + i) := by rw [zl_6, zi_mul, zi_add]
      have nb : ¬ (zi (6 * np + i) < 0 ∨ 36 ≤ (zi (6 * np + i)).toNatClampNeg) := by rw [zl_0, zi_lt (by omega) (by omega), zi_toNat (by omega)]; omega
      rw [if_pos q1, if_pos h25, h22, h21, ei, if_neg nb]
      by_cases c : st + i < nx
      · have c' : zi st + zi i < zi nx := by rw [zi_add, zi_lt (by omega) (by omega)]; exact c
        rw [if_pos c', if_pos c, zi_add, m179 h20 hn (by omega), zcon_inl]
        have es : ySeen (E 176) n (st + i) = E 176 (st + i) := if_pos (by omega)
        rw [es]
        refine b189_107.trans ?_
        rw [if_neg nb, zi_toNat (by omega), zl_1, zi_add]
      · have c' : ¬ zi st + zi i < zi nx := by rw [zi_add, zi_lt (by omega) (by omega)]; exact c
        rw [if_neg c', if_neg c, zi_toNat (by omega), zl_1, zi_add]
        rfl
    obtain ⟨E', e1, e2, e3⟩ := m189l h6 hn hx hst d (i + 1) (zw E 178 (6 * np + i) (if st + i < nx then E 176 (st + i) else zi 0)) (by omega) (by rw [zw_row (by omega)]; exact h25) (by rw [zw_row (by omega)]; exact h20) (by rw [zw_row (by omega)]; exact h21) (by rw [zw_row (by omega)]; exact h22)
    refine ⟨E', step.trans e1, fun a ha => (e2 a ha).trans (zw_row ha), fun j => ?_⟩
    rw [e3 j, zw_row (show (176 : Nat) ≠ 178 by omega)]
    by_cases c : 6 * np + (i + 1) ≤ j ∧ j < 6 * np + 6
    · rw [if_pos c, if_pos (show 6 * np + i ≤ j ∧ j < 6 * np + 6 by omega)]
    · rw [if_neg c]
      by_cases c2 : j = 6 * np + i
      · subst c2
        rw [zw_self, if_pos (show 6 * np + i ≤ 6 * np + i ∧ 6 * np + i < 6 * np + 6 by omega), show 6 * np + i - 6 * np = i by omega]
      · rw [zw_ne (by omega), if_neg (by omega)]
/-- one program more: what was read is the class's -/
theorem zRx_add {D : ZD2} {T : ZD2} {ls : List Nat} {pr m : Nat} {d : Int32} (G : zGd T) (h6 : sNp T < 6) (hn : zNm ls) (r1 : D 168 27 = T 0 0 ∧ D 168 28 = T 0 1 ∧ D 168 29 = T 0 2 ∧ D 168 30 = T 0 3 ∧ D 168 31 = T 0 4) (r7 : ∀ p, p < sNp T → D 179 p = T 2 (12 * p + 1) ∧ D 180 p = T 2 (12 * p + 2)) (U : zUn (D 177) T) (r8 : zRd (D 177) T) (r9 : zNr D T 178) (hls : ∀ i, i < 6 → D 178 (6 * sNp T + i) = (match ls[i]? with | some c => zi (96 + c) | none => zi 0)) (r10 : ∃ h, zHl T h ∧ D 168 33 = zi h) (hpr : pr ≤ 99) (hm : m ≤ 12) : zRx (zw (zw (zw (zw (zw D 179 (sNp T) (zi m)) 180 (sNp T) d) 177 (10 + 6 * sNp T) (zi pr)) 177 (10 + 6 * sNp T + 2) (zi 50)) 168 32 (zi (sNp T + 1))) (uAdd T (sNp T) (zi (yPk ls)) (zi pr) (zi m) d) ∧ zGd (uAdd T (sNp T) (zi (yPk ls)) (zi pr) (zi m) d) := by
  obtain ⟨G2, H2⟩ := zGd_add (a := zi (yPk ls)) (d := d) G h6 hpr hm
  have enp : sNp (uAdd T (sNp T) (zi (yPk ls)) (zi pr) (zi m) d) = sNp T + 1 := by
    show (uAdd T (sNp T) (zi (yPk ls)) (zi pr) (zi m) d 1 0).toNatClampNeg = _
    rw [uAdd_10, zIv_np G.1.1, zi_add, zi_toNat (by omega)]
  have enf : sNf (uAdd T (sNp T) (zi (yPk ls)) (zi pr) (zi m) d) = sNf T := by unfold sNf; rw [uAdd_0]
  refine ⟨?_, G2⟩
  generalize hE : zw (zw (zw (zw (zw D 179 (sNp T) (zi m)) 180 (sNp T) d) 177 (10 + 6 * sNp T) (zi pr)) 177 (10 + 6 * sNp T + 2) (zi 50)) 168 32 (zi (sNp T + 1)) = E
  have e168 : ∀ x, x ≠ 32 → E 168 x = D 168 x := fun x hx => by rw [← hE, zw_ne (by omega), zw_row (by omega), zw_row (by omega), zw_row (by omega), zw_row (by omega)]
  have e32 : E 168 32 = zi (sNp T + 1) := by rw [← hE, zw_self]
  have e178 : E 178 = D 178 := by rw [← hE, zw_row (by omega), zw_row (by omega), zw_row (by omega), zw_row (by omega), zw_row (by omega)]
  have e179 : ∀ p, E 179 p = if p = sNp T then zi m else D 179 p := fun p => by
    rw [← hE, zw_row (by omega), zw_row (by omega), zw_row (by omega), zw_row (by omega)]
    by_cases c : p = sNp T
    · rw [if_pos c, c, zw_self]
    · rw [if_neg c, zw_ne (by omega)]
  have e180 : ∀ p, E 180 p = if p = sNp T then d else D 180 p := fun p => by
    rw [← hE, zw_row (by omega), zw_row (by omega), zw_row (by omega)]
    by_cases c : p = sNp T
    · rw [if_pos c, c, zw_self]
    · rw [if_neg c, zw_ne (by omega), zw_row (by omega)]
  have e177 : ∀ j, j ≠ 10 + 6 * sNp T → j ≠ 10 + 6 * sNp T + 2 → E 177 j = D 177 j := fun j h1 h2 => by rw [← hE, zw_row (by omega), zw_ne (by omega), zw_ne (by omega), zw_row (by omega), zw_row (by omega)]
  have e177p : E 177 (10 + 6 * sNp T) = zi pr := by rw [← hE, zw_row (by omega), zw_ne (by omega), zw_self]
  have e177t : E 177 (10 + 6 * sNp T + 2) = zi 50 := by rw [← hE, zw_row (by omega), zw_self]
  obtain ⟨u1, u2⟩ := U (sNp T) (Nat.le_refl _) h6
  obtain ⟨R1, R2, R3, R4, R5⟩ := r8
  obtain ⟨hh, r10, r11⟩ := r10
  refine ⟨⟨?_, ?_, ?_, ?_, ?_, ?_⟩, ⟨?_, ?_⟩, ⟨?_, ?_, ?_, ?_, ?_⟩, ?_, hh, H2 hh r10, ?_⟩
  · rw [e168 27 (by omega), uAdd_0]; exact r1.1
  · rw [e168 28 (by omega), uAdd_0]; exact r1.2.1
  · rw [e168 29 (by omega), uAdd_0]; exact r1.2.2.1
  · rw [e168 30 (by omega), uAdd_0]; exact r1.2.2.2.1
  · rw [e168 31 (by omega), uAdd_0]; exact r1.2.2.2.2
  · rw [e32, enp]
  · intro p hp
    rw [enp] at hp
    rw [e179, e180, uAdd_2]
    by_cases c : p = sNp T
    · rw [if_pos c, if_pos c, if_pos c, c, uAdd_2b]
      exact ⟨rfl, rfl⟩
    · rw [if_neg c, if_neg c, if_neg c, uAdd_2o (by omega)]
      exact r7 p (by omega)
  · intro p hp hp6
    rw [enp] at hp
    rw [uAdd_2o (by omega), uAdd_2o (by omega), uAdd_2o (by omega), uAdd_2o (by omega), e177 _ (by omega) (by omega), e177 _ (by omega) (by omega), e177 _ (by omega) (by omega), e177 _ (by omega) (by omega)]
    exact U p (by omega) hp6
  · rw [zRt_all] at R1 ⊢
    intro i hi
    rw [e177 _ (by omega) (by omega), uAdd_1o (by omega)]
    exact R1 i hi
  · intro p hp
    rw [enp] at hp
    by_cases c : p = sNp T
    · subst c
      rw [e177p, e177 (10 + 6 * sNp T + 1) (by omega) (by omega), e177t, e177 (10 + 6 * sNp T + 3) (by omega) (by omega), e177 (10 + 6 * sNp T + 4) (by omega) (by omega), e177 (10 + 6 * sNp T + 5) (by omega) (by omega), uAdd_2p, uAdd_2t, uAdd_2o (by omega), uAdd_2o (by omega), uAdd_2o (by omega), uAdd_2o (by omega), u1.1, u1.2.1, u1.2.2.1, u1.2.2.2, u2.1, u2.2.1, u2.2.2.1, u2.2.2.2]
      exact ⟨rfl, rfl, rfl, rfl, rfl, rfl⟩
    · rw [e177 _ (by omega) (by omega), e177 _ (by omega) (by omega), e177 _ (by omega) (by omega), e177 _ (by omega) (by omega), e177 _ (by omega) (by omega), e177 _ (by omega) (by omega), uAdd_2o (by omega), uAdd_2o (by omega), uAdd_2o (by omega), uAdd_2o (by omega), uAdd_2o (by omega), uAdd_2o (by omega)]
      exact R2 p (by omega)
  · intro r hr
    rw [e177 _ (by omega) (by omega), e177 _ (by omega) (by omega), e177 _ (by omega) (by omega), e177 _ (by omega) (by omega), e177 _ (by omega) (by omega), uAdd_o (by omega) (by omega)]
    exact R3 r hr
  · intro f hf
    rw [enf] at hf
    rw [e177 _ (by omega) (by omega), e177 _ (by omega) (by omega), uAdd_o (by omega) (by omega), uAdd_1o (by omega)]
    exact R4 f hf
  · intro q hq
    rw [e177 _ (by omega) (by omega), uAdd_o (by omega) (by omega)]
    exact R5 q hq
  · intro p hp
    rw [enp] at hp
    rw [e178]
    by_cases c : p = sNp T
    · subst c
      exact ⟨ls, hn, uAdd_2n, hls⟩
    · rw [uAdd_2o (by omega)]
      exact r9 p (by omega)
  · rw [e168 33 (by omega)]; exact r11
end
