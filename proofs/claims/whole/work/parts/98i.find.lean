/-! Finding a program by its name, the class and the model. -/
/-- the name that some bytes are, packed, or none -/
def yNm (B : Nat → Int32) (n : Nat) : Int32 := if n < 1 ∨ 6 < n then zn else if zal (fun j => yLet (B j)) n 0 = true then zi (yPk (yWl B 0 n)) else zn
def rFind (T : ZD2) (B : Nat → Int32) (n : Nat) : Int32 := if yNm B n = zn then zn else zff (fun p => decide (T 2 (12 * p + 11) = yNm B n)) (sNp T) 0
theorem yWl_snoc {B : Nat → Int32} {st nx : Nat} (h : st ≤ nx) : yWl B st (nx + 1) = yWl B st nx ++ [(B nx).toNatClampNeg - 96] := by
  unfold yWl
  have e : nx + 1 - st = (nx - st) + 1 := by omega
  have e2 : st + (nx - st) = nx := by omega
  rw [e, List.range'_concat, List.map_append, Nat.one_mul, e2]
  rfl
theorem yPk_zn {ls : List Nat} (h : zLt ls) (h6 : ls.length ≤ 6) : zi (yPk ls) ≠ zn := by
  have g := yPk_lt ls h
  have p : 32 ^ ls.length ≤ 32 ^ 6 := Nat.pow_le_pow_right (by omega) h6
  have : (32 : Nat) ^ 6 = 1073741824 := by decide
  rw [ne_eq, zi_ne_zn (by omega)]
  exact not_false
section
variable {X : ZX} {D T : ZD2} {O : ZO2} {k : Nat × Nat × Nat} {n : Nat} {B : Nat → Int32}
theorem c9l (h6 : n ≤ 6) : ∀ d i, i + d = n → (∀ j, j < i → yLet (D 3 j) = true) → zev X 9 17 [.ref 2, .int (zi n), .int (zi (yPk (yWl (D 3) 0 i))), .int (zi i)] [] (zHP D O, k) = some (.inl (some (.int (if zal (fun j => yLet (D 3 j)) d i = true then zi (yPk (yWl (D 3) 0 n)) else zn))), (zHP D O, k))
  | 0, i, h, hl => by
    have e : i = n := by omega
    subst e
    refine (b9_17 zisB_2).trans ?_
    rw [if_neg (by rw [zi_lt (by omega) (by omega)]; omega), zal, if_pos rfl]
  | d + 1, i, h, hl => by
    refine (b9_17 zisB_2).trans ?_
    rw [if_pos (by rw [zi_lt (by omega) (by omega)]; omega), c4 (by omega), zcon_inl]
    refine b9_27.trans ?_
    rw [c5, zcon_inl]
    refine (b9_30 zisB_2).trans ?_
    cases hL : yLet (D 3 i)
    · rw [if_pos (show zb false = 0 from rfl), zal, hL, Bool.false_and, if_neg Bool.false_ne_true]
      rfl
    · rw [if_neg (show ¬ zb true = 0 by decide), c4 (by omega), zcon_inl]
      refine b9_41.trans ?_
      obtain ⟨m, m1, m2, m3⟩ := yLet_is hL
      have e : yWth (zi (yPk (yWl (D 3) 0 i))) (D 3 i) = zi (yPk (yWl (D 3) 0 (i + 1))) := by
        rw [yWl_snoc (Nat.zero_le _), yPk_snoc, m3, yWth_zi m1 m2, zi_toNat (by omega), show 96 + m - 96 = m by omega]
      rw [c6, e, zcon_inl]
      refine b9_44.trans ?_
      rw [zal, hL, Bool.true_and, zl_1, zi_add]
      exact c9l h6 d (i + 1) (by omega) fun j hj => by
        by_cases q : j = i
        · rw [q]; exact hL
        · exact hl j (by omega)
theorem c9 (hn : n ≤ 600) : zev X 9 0 [.ref 2, .int (zi n), zJ, zJ] [] (zHP D O, k) = some (.inl (some (.int (yNm (D 3) n))), (zHP D O, k)) := by
  refine (b9_0 ).trans ?_
  unfold yNm
  by_cases h1 : n < 1
  · rw [if_pos (by rw [zl_1, zi_lt (by omega) (by omega)]; exact h1), if_pos (Or.inl h1)]
    rfl
  · rw [if_neg (by rw [zl_1, zi_lt (by omega) (by omega)]; exact h1)]
    by_cases h2 : 6 < n
    · rw [if_pos (by rw [zl_6, zi_lt (by omega) (by omega)]; exact h2), if_pos (Or.inr h2)]
      rfl
    · rw [if_neg (by rw [zl_6, zi_lt (by omega) (by omega)]; exact h2), if_neg (by omega)]
      exact c9l (by omega) n 0 (by omega) fun j hj => absurd hj (by omega)
theorem c8i : zev X 8 0 [.ref 2] [] (zHP D O, k) = some (.inl none, (zHP (zw D 2 1 (zi 0)) O, k)) := by
  refine (b8_0 zisB_2).trans ?_
  rw [zl_0]
theorem c113 {l : Nat} (hT : T = zT D 20) (hD : D 2 1 = zi l) (hl : l ≤ 600) (hn : n ≤ l) (h20 : D 20 6 = zi 1) (h1 : T 1 0 = zi (sNp T)) (h6 : sNp T ≤ 6) : zev X 113 0 [.ref 0, .int (zi n), zJ] [] (zHP D O, k) = some (.inl (some (.int (rFind T (D 3) n))), (zHP (zw D 2 1 (zi 0)) O, k)) := by
  subst hT
  refine b113_0.trans ?_
  have g114 : zev X 114 0 [.ref 0] [] (zHP D O, k) = some (.inl none, (zHP D O, k)) := by
    have g := c114 (X := X) (D := D) (T := zT D 20) (O := O) (k := k) h20
    rw [zmt_zT] at g
    exact g
  rw [g114, zcon_inl]
  refine b113_4.trans ?_
  rw [c112 hD hl hn, zcon_inl]
  refine b113_9.trans ?_
  rw [c9 (by omega), zcon_inl]
  refine b113_17.trans ?_
  rw [c8i, zcon_inl]
  refine b113_25.trans ?_
  unfold rFind
  by_cases q : yNm (D 3) n = zn
  · rw [if_pos (show yNm (D 3) n = -1 from q), if_pos q]
    exact b113_42
  · rw [if_neg (show ¬ yNm (D 3) n = -1 from q), if_neg q]
    have g := c19 (X := X) (m := 20) (D := zw D 2 1 (zi 0)) (T := zT D 20) (O := O) (k := k) (np := sNp (zT D 20)) (w := yNm (D 3) n) hm20 h1 h6
    have e : zmt (zw D 2 1 (zi 0)) 20 (zT D 20) = zw D 2 1 (zi 0) := by
      rw [← zw_Mo (D := D) (m := 20) (a := 2) (by omega), zmt_zT]
    rw [e] at g
    rw [g, zcon_inl]
    exact b113_42
theorem c113n {a : Int32} (h20 : D 20 6 = zi 0) : zev X 113 0 [.ref 0, .int a, zJ] [] (zHP D O, k) = some (.inr 1, (zHP D O, kt k)) := by
  refine b113_0.trans ?_
  have g := c114n (X := X) (D := D) (T := zT D 20) (O := O) (k := k) h20
  rw [zmt_zT] at g
  rw [g]
  rfl
theorem c113m {l : Nat} {a : Int32} (hD : D 2 1 = zi l) (ha : a < zi 0 ∨ zi l < a) (h20 : D 20 6 = zi 1) : zev X 113 0 [.ref 0, .int a, zJ] [] (zHP D O, k) = some (.inr 2, (zHP D O, kt k)) := by
  refine b113_0.trans ?_
  have g114 : zev X 114 0 [.ref 0] [] (zHP D O, k) = some (.inl none, (zHP D O, k)) := by
    have g := c114 (X := X) (D := D) (T := zT D 20) (O := O) (k := k) h20
    rw [zmt_zT] at g
    exact g
  rw [g114, zcon_inl]
  refine b113_4.trans ?_
  rw [c112n hD ha]
  rfl
/-- the model's name is the class's -/
theorem yNa_find {p : Nat} {ls : List Nat} (hn : zNm ls) (hD : ∀ i, i < 6 → D 169 (6 * p + i) = (match ls[i]? with | some c => zi (96 + c) | none => zi 0)) (hT : T 2 (12 * p + 11) = zi (yPk ls)) : yNa D 169 p 0 n = (!decide (yNm (D 176) n = zn) && decide (T 2 (12 * p + 11) = yNm (D 176) n)) := by
  by_cases h1 : n < 1 ∨ 6 < n
  · have e : yNm (D 176) n = zn := by unfold yNm; rw [if_pos h1]
    rw [decide_eq_true e]
    unfold yNa
    rcases h1 with h1 | h1
    · rw [decide_eq_false (by omega)]
      rfl
    · rw [decide_eq_true (show 1 ≤ n - 0 by omega), decide_eq_false (show ¬ n - 0 ≤ 6 by omega)]
      rfl
  · cases hA : zal (fun j => yLet (D 176 j)) n 0
    · have e : yNm (D 176) n = zn := by unfold yNm; rw [if_neg h1, hA, if_neg Bool.false_ne_true]
      rw [decide_eq_true e]
      show _ = false
      cases hy : yNa D 169 p 0 n
      · rfl
      · exfalso
        unfold yNa at hy
        rw [Bool.and_eq_true, Bool.and_eq_true] at hy
        have hz := (zal_iff 6 0).mp hy.2
        have : zal (fun j => yLet (D 176 j)) n 0 = true := (zal_iff n 0).mpr fun j _ hj => by
          have w := hz j (by omega) (by omega)
          unfold yNq at w
          rw [Nat.zero_add, if_pos (show j < n by omega), Bool.and_eq_true, decide_eq_true (show j < n by omega), Bool.true_and] at w
          obtain ⟨w1, w2⟩ := w
          have w1 := of_decide_eq_true w1
          have w2 : ¬ D 176 j = zi 0 := fun q => by
            rw [decide_eq_true q] at w2
            exact Bool.false_ne_true w2
          rw [← w1, hD j (by omega)] at w2 ⊢
          rcases zrow_lt (i := j) hn.2.2 with ⟨c, c1, c2, c3⟩ | c3
          · rw [c3]
            show yLet (zi (96 + c)) = true
            unfold yLet
            rw [decide_eq_false (by rw [zi_lt (by omega) (by omega)]; omega), decide_eq_false (by rw [zi_lt (by omega) (by omega)]; omega)]
            rfl
          · rw [c3] at w2
            exact absurd rfl w2
        rw [hA] at this
        exact Bool.false_ne_true this
    · have hw : ∀ j, 0 ≤ j → j < n → yLet (D 176 j) = true := fun j _ hj => (zal_iff n 0).mp hA j (Nat.zero_le _) (by omega)
      have e : yNm (D 176) n = zi (yPk (yWl (D 176) 0 n)) := by unfold yNm; rw [if_neg h1, hA, if_pos rfl]
      have ne : ¬ yNm (D 176) n = zn := by
        rw [e]
        exact yPk_zn (yWl_lt hw) (by rw [yWl_len]; omega)
      rw [yNa_iff hn hD (by omega) (by omega) hw, decide_eq_false ne, e, hT]
      rfl
theorem m198 {l : Nat} (N : zRn D T) (h1 : D 168 1 = zi 1) (h7 : D 168 7 = zi (sNp T)) (h6 : sNp T ≤ 6) (h17 : D 168 17 = zi l) (hl : l ≤ 600) (hn : n ≤ l) : zev X 198 0 [.ref 168, .int (zi n), zJ] [] (zHP D O, k) = some (.inl (some (.int (rFind T (D 176) n))), (zHP (zw (zth D 0) 168 17 (zi 0)) O, k)) := by
  have g199 : zev X 199 0 [.ref 168] [] (zHP D O, k) = some (.inl (some (.int (zi 0))), (zHP (zth D 0) O, k)) := by
    have g := m199 (X := X) (D := D) (s := D 172) (O := O) (k := k) h1
    have e : zrow (zth D 0) 172 (D 172) = zth D 0 := by
      have e2 : zth D 0 172 = D 172 := zth_a (by omega)
      rw [← e2, zrow_id]
    rw [zrow_id, e] at g
    exact g
  have e17 : zth D 0 168 17 = zi l := (zth_f (by omega)).trans h17
  refine b198_0.trans ?_
  rw [g199, zcon_inl]
  refine b198_4.trans ?_
  rw [if_pos (show zi 0 = 0 from rfl), e17, zl_0, m175z (Nat.zero_le _) hn (by omega), zcon_inl]
  refine b198_17.trans ?_
  rw [if_neg (show ¬ zi 1 = 0 by decide), zl_0, m176fd (zth_0 D 0), zcon_inl]
  refine b198_29.trans ?_
  rw [if_pos (show zi 0 = 0 from rfl), zl_0]
  generalize hE : zw (zth D 0) 168 17 (zi 0) = E
  have o : ∀ a, a ≠ 168 → E a = D a := fun a ha => by rw [← hE, zw_row ha, zth_a ha]
  have e7 : E 168 7 = zi (sNp T) := by rw [← hE, zw_ne (by omega), zth_f (by omega)]; exact h7
  have r : rFind T (D 176) n = zff (fun p => yNa E 169 p 0 n) (sNp T) 0 := by
    have e : ∀ p, p < sNp T → yNa E 169 p 0 n = (!decide (yNm (D 176) n = zn) && decide (T 2 (12 * p + 11) = yNm (D 176) n)) := fun p hp => by
      obtain ⟨ls, y1, y2, y3⟩ := N p hp
      rw [← o 176 (by omega)]
      exact yNa_find (D := E) y1 (by rw [o 169 (by omega)]; exact y3) y2
    have c := zff_congr (sNp T) 0 fun p _ hp => e p (by omega)
    rw [c]
    unfold rFind
    by_cases q : yNm (D 176) n = zn
    · rw [if_pos q, decide_eq_true q, zff_o]
      rw [zff_none (p := fun p => !true && decide (T 2 (12 * p + 11) = yNm (D 176) n)) (sNp T) 0 fun _ _ _ => rfl]
      rfl
    · rw [if_neg q, decide_eq_false q]
      rfl
  rw [r]
  refine zfind (P := fun i => zev X 198 41 [.ref 168, .int (zi n), .int (zi i)] [] (zHP E O, k)) (Q := fun a => some (.inl (some (.int a)), (zHP E O, k))) (p := fun p => yNa E 169 p 0 n) (n := sNp T) ?_ ?_ (sNp T) 0 (by omega)
  · intro i hi
    refine b198_41.trans ?_
    rw [if_pos (by rw [e7, zi_lt (by omega) (by omega)]; exact hi), zl_0, m191_1 (by omega) (by omega) (Nat.zero_le _), zcon_inl]
    refine b198_63.trans ?_
    cases hy : yNa E 169 i 0 n
    · rw [if_pos (show zb false = 0 from rfl), if_neg Bool.false_ne_true, zl_1, zi_add]
    · rw [if_neg (show ¬ zb true = 0 by decide), if_pos rfl]
  · refine b198_41.trans ?_
    rw [if_neg (by rw [e7, zi_lt (by omega) (by omega)]; omega)]
    rfl
theorem m198n {a : Int32} (h1 : D 168 1 = zi 0) : zev X 198 0 [.ref 168, .int a, zJ] [] (zHP D O, k) = some (.inl (some (.int (zi 0))), (zHP (zth D 1) O, k)) := by
  have g199 : zev X 199 0 [.ref 168] [] (zHP D O, k) = some (.inl (some (.int (zi 1))), (zHP (zth D 1) O, k)) := by
    have g := m199n (X := X) (D := D) (s := D 172) (O := O) (k := k) h1
    have e : zrow (zth D 1) 172 (D 172) = zth D 1 := by
      have e2 : zth D 1 172 = D 172 := zth_a (by omega)
      rw [← e2, zrow_id]
    rw [zrow_id, e] at g
    exact g
  refine b198_0.trans ?_
  rw [g199, zcon_inl]
  refine b198_4.trans ?_
  rw [if_neg (show ¬ zi 1 = 0 by decide)]
  rfl
theorem m198o {l : Nat} {a : Int32} (h1 : D 168 1 = zi 1) (h17 : D 168 17 = zi l) (ha : a < zi 0 ∨ zi l < a) : zev X 198 0 [.ref 168, .int a, zJ] [] (zHP D O, k) = some (.inl (some (.int (zi 0))), (zHP (zth D 2) O, k)) := by
  have g199 : zev X 199 0 [.ref 168] [] (zHP D O, k) = some (.inl (some (.int (zi 0))), (zHP (zth D 0) O, k)) := by
    have g := m199 (X := X) (D := D) (s := D 172) (O := O) (k := k) h1
    have e : zrow (zth D 0) 172 (D 172) = zth D 0 := by
      have e2 : zth D 0 172 = D 172 := zth_a (by omega)
      rw [← e2, zrow_id]
    rw [zrow_id, e] at g
    exact g
  have e17 : zth D 0 168 17 = zi l := (zth_f (by omega)).trans h17
  refine b198_0.trans ?_
  rw [g199, zcon_inl]
  refine b198_4.trans ?_
  rw [if_pos (show zi 0 = 0 from rfl), e17, zl_0, m175w ha, zcon_inl]
  refine b198_17.trans ?_
  rw [if_pos (show zi 0 = 0 from rfl), zl_1, zl_2, m176td (zth_0 D 0) (by omega) (by omega), zth_th, zcon_inl]
  refine b198_29.trans ?_
  rw [if_neg (show ¬ zi 1 = 0 by decide)]
  rfl
end
