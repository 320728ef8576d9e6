/-! The model takes what was read. -/
section
variable {X : ZX} {D : ZD2} {O : ZO2} {k : Nat × Nat × Nat}
theorem m197a : ∀ d i (E : ZD2), i + d = 36 → ∃ E', zev X 197 50 [.ref 168, .int (zi i)] [] (zHP E O, k) = zev X 197 76 [.ref 168, .int (zi 0)] [] (zHP E' O, k) ∧ (∀ a, a ≠ 169 → E' a = E a) ∧ ∀ j, j < 36 → E' 169 j = if i ≤ j then E 178 j else E 169 j
  | 0, i, E, h => by
    have e : i = 36 := by omega
    subst e
    refine ⟨E, ?_, fun _ _ => rfl, fun j hj => by rw [if_neg (by omega)]⟩
    refine b197_50.trans ?_
    have q : ¬ zi 36 < 36 := by rw [zl_36, zi_lt (by omega) (by omega)]; omega
    rw [if_neg q, zl_0]
  | d + 1, i, E, h => by
    obtain ⟨E', e1, e2, e3⟩ := m197a d (i + 1) (zw E 169 i (E 178 i)) (by omega)
    refine ⟨E', Eq.trans ?_ e1, fun a ha => (e2 a ha).trans (zw_row ha), fun j hj => ?_⟩
    · refine b197_50.trans ?_
      have q : zi i < 36 := by rw [zl_36, zi_lt (by omega) (by omega)]; omega
      have nb : ¬ (zi i < 0 ∨ 36 ≤ (zi i).toNatClampNeg) := by rw [zl_0, zi_lt (by omega) (by omega), zi_toNat (by omega)]; omega
      rw [if_pos q, if_neg nb, if_neg nb, zi_toNat (by omega), zl_1, zi_add]
    · rw [e3 j hj, zw_row (by omega)]
      by_cases c : i + 1 ≤ j
      · rw [if_pos c, if_pos (by omega)]
      · rw [if_neg c]
        by_cases c2 : j = i
        · subst c2
          rw [zw_self, if_pos (Nat.le_refl _)]
        · rw [zw_ne (by omega), if_neg (by omega)]
theorem m197b : ∀ d i (E : ZD2), i + d = 6 → ∃ E', zev X 197 76 [.ref 168, .int (zi i)] [] (zHP E O, k) = zev X 197 114 [.ref 168, .int (zi 0)] [] (zHP E' O, k) ∧ (∀ a, a ≠ 170 → a ≠ 171 → E' a = E a) ∧ ∀ j, j < 6 → (E' 170 j = if i ≤ j then E 179 j else E 170 j) ∧ (E' 171 j = if i ≤ j then E 180 j else E 171 j)
  | 0, i, E, h => by
    have e : i = 6 := by omega
    subst e
    refine ⟨E, ?_, fun _ _ _ => rfl, fun j hj => by rw [if_neg (by omega), if_neg (by omega)]; exact ⟨rfl, rfl⟩⟩
    refine b197_76.trans ?_
    have q : ¬ zi 6 < 6 := by rw [zl_6, zi_lt (by omega) (by omega)]; omega
    rw [if_neg q, zl_0]
  | d + 1, i, E, h => by
    obtain ⟨E', e1, e2, e3⟩ := m197b d (i + 1) (zw (zw E 170 i (E 179 i)) 171 i (E 180 i)) (by omega)
    refine ⟨E', Eq.trans ?_ e1, fun a ha hb => (e2 a ha hb).trans ((zw_row hb).trans (zw_row ha)), fun j hj => ?_⟩
    · refine b197_76.trans ?_
      have q : zi i < 6 := by rw [zl_6, zi_lt (by omega) (by omega)]; omega
      have nb : ¬ (zi i < 0 ∨ 6 ≤ (zi i).toNatClampNeg) := by rw [zl_0, zi_lt (by omega) (by omega), zi_toNat (by omega)]; omega
      have e180 : zw E 170 i (E 179 i) 180 i = E 180 i := zw_nea (by omega)
      rw [if_pos q, if_neg nb, if_neg nb, if_neg nb, if_neg nb, zi_toNat (by omega), e180, zl_1, zi_add]
    · obtain ⟨f1, f2⟩ := e3 j hj
      have r179 : zw (zw E 170 i (E 179 i)) 171 i (E 180 i) 179 = E 179 := by rw [zw_row (by omega), zw_row (by omega)]
      have r180 : zw (zw E 170 i (E 179 i)) 171 i (E 180 i) 180 = E 180 := by rw [zw_row (by omega), zw_row (by omega)]
      rw [f1, f2, r179, r180]
      by_cases c : i + 1 ≤ j
      · rw [if_pos c, if_pos c, if_pos (by omega), if_pos (by omega)]
        exact ⟨rfl, rfl⟩
      · rw [if_neg c, if_neg c]
        by_cases c2 : j = i
        · subst c2
          rw [if_pos (Nat.le_refl _), if_pos (Nat.le_refl _), zw_self, zw_ne (by omega), zw_self]
          exact ⟨rfl, rfl⟩
        · rw [if_neg (by omega), if_neg (by omega), zw_ne (by omega), zw_ne (by omega), zw_ne (by omega), zw_ne (by omega)]
          exact ⟨rfl, rfl⟩
theorem m197c : ∀ d i (E : ZD2), i + d = 540 → ∃ E', zev X 197 114 [.ref 168, .int (zi i)] [] (zHP E O, k) = some (.inl none, (zHP E' O, k)) ∧ (∀ a, a ≠ 172 → E' a = E a) ∧ ∀ j, j < 540 → E' 172 j = if i ≤ j then E 177 j else E 172 j
  | 0, i, E, h => by
    have e : i = 540 := by omega
    subst e
    refine ⟨E, ?_, fun _ _ => rfl, fun j hj => by rw [if_neg (by omega)]⟩
    refine b197_114.trans ?_
    have q : ¬ zi 540 < 540 := by rw [zl_540, zi_lt (by omega) (by omega)]; omega
    rw [if_neg q]
  | d + 1, i, E, h => by
    obtain ⟨E', e1, e2, e3⟩ := m197c d (i + 1) (zw E 172 i (E 177 i)) (by omega)
    refine ⟨E', Eq.trans ?_ e1, fun a ha => (e2 a ha).trans (zw_row ha), fun j hj => ?_⟩
    · refine b197_114.trans ?_
      have q : zi i < 540 := by rw [zl_540, zi_lt (by omega) (by omega)]; omega
      have nb : ¬ (zi i < 0 ∨ 540 ≤ (zi i).toNatClampNeg) := by rw [zl_0, zi_lt (by omega) (by omega), zi_toNat (by omega)]; omega
      rw [if_pos q, if_neg nb, if_neg nb, zi_toNat (by omega), zl_1, zi_add]
    · rw [e3 j hj, zw_row (by omega)]
      by_cases c : i + 1 ≤ j
      · rw [if_pos c, if_pos (by omega)]
      · rw [if_neg c]
        by_cases c2 : j = i
        · subst c2
          rw [zw_self, if_pos (Nat.le_refl _)]
        · rw [zw_ne (by omega), if_neg (by omega)]
/-- what was read is the model's now -/
theorem m197 {T : ZD2} (R : zRx D T) (h6 : sNp T ≤ 6) : ∃ D', zev X 197 0 [.ref 168, zJ] [] (zHP D O, k) = some (.inl none, (zHP D' O, k)) ∧ (∀ a, a ≠ 168 → a ≠ 169 → a ≠ 170 → a ≠ 171 → a ≠ 172 → D' a = D a) ∧ (∀ x, x < 2 ∨ 7 < x → D' 168 x = D 168 x) ∧ (D' 168 7 = zi (sNp T) ∧ D' 168 2 = T 0 0 ∧ D' 168 3 = T 0 1 ∧ D' 168 4 = T 0 2 ∧ D' 168 5 = T 0 3 ∧ D' 168 6 = T 0 4) ∧ (∀ p, p < sNp T → D' 170 p = T 2 (12 * p + 1)) ∧ (∀ p, p < sNp T → D' 171 p = T 2 (12 * p + 2)) ∧ (∀ j, j < 36 → D' 169 j = D 178 j) ∧ ∀ j, j < 540 → D' 172 j = D 177 j := by
  obtain ⟨⟨r1, r2, r3, r4, r5, r6⟩, ⟨r7, _⟩, r8, r9, hh, r10, r11⟩ := R
  have start := b197_0 (X := X) (D := D) (O := O) (k := k)
  have i27 : ∀ (E : ZD2) (j : Nat) (v : Int32) (x : Nat), j < 8 → 26 < x → zw E 168 j v 168 x = E 168 x := fun E j v x h1 h2 => zw_ne (by omega)
  simp (disch := first | assumption | omega) only [i27] at start
  rw [r1, r2, r3, r4, r5, r6] at start
  have hE := @m197a X O k 36 0 (zw (zw (zw (zw (zw (zw D 168 2 (T 0 0)) 168 3 (T 0 1)) 168 4 (T 0 2)) 168 5 (T 0 3)) 168 6 (T 0 4)) 168 7 (zi (sNp T))) rfl
  obtain ⟨E1, a1, a2, a3⟩ := hE
  obtain ⟨E2, b1, b2, b3⟩ := @m197b X O k 6 0 E1 rfl
  obtain ⟨E3, c1, c2, c3⟩ := @m197c X O k 540 0 E2 rfl
  have o : ∀ a, a ≠ 168 → a ≠ 169 → E1 a = D a := fun a h1 h2 => by
    rw [a2 a h2, zw_row h1, zw_row h1, zw_row h1, zw_row h1, zw_row h1, zw_row h1]
  have o168 : E3 168 = zw (zw (zw (zw (zw (zw D 168 2 (T 0 0)) 168 3 (T 0 1)) 168 4 (T 0 2)) 168 5 (T 0 3)) 168 6 (T 0 4)) 168 7 (zi (sNp T)) 168 := by
    rw [c2 168 (by omega), b2 168 (by omega) (by omega), a2 168 (by omega)]
  refine ⟨E3, start.trans (a1.trans (b1.trans c1)), fun a h1 h2 h3 h4 h5 => ?_, fun x hx => ?_, ⟨?_, ?_, ?_, ?_, ?_, ?_⟩, fun p hp => ?_, fun p hp => ?_, fun j hj => ?_, fun j hj => ?_⟩
  · rw [c2 a h5, b2 a h3 h4]
    exact o a h1 h2
  · rw [o168, zw_ne (by omega), zw_ne (by omega), zw_ne (by omega), zw_ne (by omega), zw_ne (by omega), zw_ne (by omega)]
  · rw [o168, zw_self]
  · rw [o168, zw_ne (by omega), zw_ne (by omega), zw_ne (by omega), zw_ne (by omega), zw_ne (by omega), zw_self]
  · rw [o168, zw_ne (by omega), zw_ne (by omega), zw_ne (by omega), zw_ne (by omega), zw_self]
  · rw [o168, zw_ne (by omega), zw_ne (by omega), zw_ne (by omega), zw_self]
  · rw [o168, zw_ne (by omega), zw_ne (by omega), zw_self]
  · rw [o168, zw_ne (by omega), zw_self]
  · rw [c2 170 (by omega), (b3 p (by omega)).1, if_pos (Nat.zero_le _), o 179 (by omega) (by omega)]
    exact (r7 p hp).1
  · rw [c2 171 (by omega), (b3 p (by omega)).2, if_pos (Nat.zero_le _), o 180 (by omega) (by omega)]
    exact (r7 p hp).2
  · rw [c2 169 (by omega), b2 169 (by omega) (by omega), a3 j hj, if_pos (Nat.zero_le _), zw_row (by omega), zw_row (by omega), zw_row (by omega), zw_row (by omega), zw_row (by omega), zw_row (by omega)]
  · rw [c3 j hj, if_pos (Nat.zero_le _), b2 177 (by omega) (by omega), o 177 (by omega) (by omega)]
end
