/-! The model's parser: names. -/
def zal (p : Nat → Bool) : Nat → Nat → Bool
  | 0, _ => true
  | d + 1, i => p i && zal p d (i + 1)
theorem zal_iff {p : Nat → Bool} : ∀ d i, zal p d i = true ↔ ∀ j, i ≤ j → j < i + d → p j = true
  | 0, i => ⟨fun _ j a b => by omega, fun _ => rfl⟩
  | d + 1, i => by
    rw [zal, Bool.and_eq_true, zal_iff d (i + 1)]
    constructor
    · rintro ⟨a, b⟩ j h1 h2
      by_cases e : j = i
      · rw [e]; exact a
      · exact b j (by omega) (by omega)
    · intro h
      exact ⟨h i (Nat.le_refl _) (by omega), fun j h1 h2 => h j (by omega) (by omega)⟩
/-- a name's letter is the text's -/
def yNq (D : ZD2) (A p a b i : Nat) : Bool := decide (D A (6 * p + i) = if a + i < b then D 176 (a + i) else zi 0) && !(decide (a + i < b) && decide (D 176 (a + i) = zi 0))
def yNa (D : ZD2) (A p a b : Nat) : Bool := decide (1 ≤ b - a) && decide (b - a ≤ 6) && zal (yNq D A p a b) 6 0
/-- names read are the class's -/
def zNr (D T : ZD2) (A : Nat) : Prop := ∀ p, p < sNp T → ∃ ls, zNm ls ∧ T 2 (12 * p + 11) = zi (yPk ls) ∧ ∀ i, i < 6 → D A (6 * p + i) = (match ls[i]? with | some c => zi (96 + c) | none => zi 0)
section
variable {X : ZX} {D : ZD2} {O : ZO2} {k : Nat × Nat × Nat} {n : Nat} {P : ZPs}
theorem m191z_0 {a b p i : Nat} {v : Value} (h : i ≤ 6) : zev X 191 15 [.ref 178, .int (zi p), .ref 176, .int (zi a), .int (zi b), .int (zi 0), .int (zi i), v] [] (zHP D O, k) = some (.inl (some (.int (zi 0))), (zHP D O, k)) := by
  refine b191_15_0.trans ?_
  by_cases h6 : zi i < 6
  · rw [if_pos h6, if_pos (show zi 0 = 0 from rfl), if_pos (Or.inl (show zi 0 = 0 from rfl))]
  · rw [if_neg h6, if_pos (Or.inl (show zi 0 = 0 from rfl))]
theorem m191l_0 {a b p : Nat} (hp : p < 6) (hb : b ≤ 600) (hab : a ≤ b) : ∀ d i (v : Value), i + d = 6 → zev X 191 15 [.ref 178, .int (zi p), .ref 176, .int (zi a), .int (zi b), .int (zi 1), .int (zi i), v] [] (zHP D O, k) = some (.inl (some (.int (zb (zal (yNq D 178 p a b) d i)))), (zHP D O, k))
  | 0, i, v, h => by
    refine b191_15_0.trans ?_
    have h6 : ¬ zi i < 6 := by rw [zl_6, zi_lt (by omega) (by omega)]; omega
    rw [if_neg h6, if_pos (Or.inr (show zi 1 = 1 from rfl))]
    rfl
  | d + 1, i, v, h => by
    refine b191_15_0.trans ?_
    have h6 : zi i < 6 := by rw [zl_6, zi_lt (by omega) (by omega)]; omega
    rw [if_pos h6, if_neg (show ¬ zi 1 = 0 by decide)]
    have ei : (6 : Int32) * zi p + zi i = zi (6 * p + i) := by rw [zl_6, zi_mul, zi_add]
    have nb : ¬ (zi (6 * p + i) < 0 ∨ 36 ≤ (zi (6 * p + i)).toNatClampNeg) := by
      rw [zl_0, zi_lt (by omega) (by omega), zi_toNat (by omega)]
      omega
    have go : ∀ s0 : Int32, s0 = (if a + i < b then D 176 (a + i) else zi 0) → zev X 191 46 [.ref 178, .int (zi p), .ref 176, .int (zi a), .int (zi b), .int (zi 1), .int (zi i), v] [.int s0] (zHP D O, k) = some (.inl (some (.int (zb (zal (yNq D 178 p a b) (d + 1) i)))), (zHP D O, k)) := by
      intro s0 hs
      have g := b191_46_0 (X := X) (D := D) (O := O) (k := k) (l1 := zi p) (l3 := zi a) (l4 := zi b) (l5 := zi 1) (l6 := zi i) (l7 := v) (s0 := s0)
      rw [ei, if_neg nb, zi_toNat (by omega), zi_add, zl_0, zl_1, zi_add] at g
      refine g.trans ?_
      rw [zal]
      unfold yNq
      rw [← hs]
      by_cases q : D 178 (6 * p + i) = s0
      · rw [if_pos q, decide_eq_true q, Bool.true_and]
        by_cases q0 : s0 = zi 0
        · rw [if_pos q0]
          by_cases q1 : a + i < b
          · rw [if_pos q1] at hs
            have e1 : zi (a + i) < zi b := by rw [zi_lt (by omega) (by omega)]; exact q1
            rw [if_pos e1, m191z_0 (by omega), decide_eq_true q1, decide_eq_true (hs.symm.trans q0)]
            rfl
          · have e1 : ¬ zi (a + i) < zi b := by rw [zi_lt (by omega) (by omega)]; exact q1
            rw [if_neg e1, m191l_0 hp hb hab d (i + 1) _ (by omega), decide_eq_false q1]
            rfl
        · rw [if_neg q0, m191l_0 hp hb hab d (i + 1) _ (by omega)]
          have e2 : (decide (a + i < b) && decide (D 176 (a + i) = zi 0)) = false := by
            by_cases q1 : a + i < b
            · rw [if_pos q1] at hs
              rw [decide_eq_false (fun w => q0 (hs.trans w)), Bool.and_false]
            · rw [decide_eq_false q1]
              rfl
          rw [e2]
          rfl
      · rw [if_neg q, m191z_0 (by omega), decide_eq_false q]
        rfl
    by_cases q1 : a + i < b
    · have e1 : zi a + zi i < zi b := by rw [zi_add, zi_lt (by omega) (by omega)]; exact q1
      have nb2 : ¬ (zi a + zi i < 0 ∨ 600 ≤ (zi a + zi i).toNatClampNeg) := by
        rw [zi_add, zl_0, zi_lt (by omega) (by omega), zi_toNat (by omega)]
        omega
      rw [if_pos e1, if_neg nb2]
      exact go _ (by rw [if_pos q1, zi_add, zi_toNat (by omega)])
    · have e1 : ¬ zi a + zi i < zi b := by rw [zi_add, zi_lt (by omega) (by omega)]; exact q1
      rw [if_neg e1]
      exact go _ (by rw [if_neg q1]; rfl)
theorem m191_0 {a b p : Nat} (hp : p < 6) (hb : b ≤ 600) (hab : a ≤ b) : zev X 191 0 [.ref 178, .int (zi p), .ref 176, .int (zi a), .int (zi b), zJ, zJ, zJ] [] (zHP D O, k) = some (.inl (some (.int (zb (yNa D 178 p a b)))), (zHP D O, k)) := by
  refine b191_0_0.trans ?_
  unfold yNa
  rw [zi_sub hab (by omega), zl_1, zl_6]
  by_cases h : 1 ≤ b - a ∧ b - a ≤ 6
  · have q1 : ¬ zi (b - a) < zi 1 := by rw [zi_lt (by omega) (by omega)]; omega
    have q2 : ¬ zi 6 < zi (b - a) := by rw [zi_lt (by omega) (by omega)]; omega
    rw [m175p q1 q2, zcon_inl]
    refine b191_10_0.trans ?_
    rw [zl_0, m191l_0 hp hb hab 6 0 _ (by omega), decide_eq_true h.1, decide_eq_true h.2]
    rfl
  · have q : zi (b - a) < zi 1 ∨ zi 6 < zi (b - a) := by rw [zi_lt (by omega) (by omega), zi_lt (by omega) (by omega)]; omega
    rw [m175w q, zcon_inl]
    refine b191_10_0.trans ?_
    rw [zl_0, m191z_0 (by omega)]
    have e : (decide (1 ≤ b - a) && decide (b - a ≤ 6)) = false := by
      by_cases h1 : 1 ≤ b - a
      · rw [decide_eq_false (fun w : b - a ≤ 6 => h ⟨h1, w⟩), Bool.and_false]
      · rw [decide_eq_false h1]
        rfl
    rw [e]
    rfl
theorem m191z_1 {a b p i : Nat} {v : Value} (h : i ≤ 6) : zev X 191 15 [.ref 169, .int (zi p), .ref 176, .int (zi a), .int (zi b), .int (zi 0), .int (zi i), v] [] (zHP D O, k) = some (.inl (some (.int (zi 0))), (zHP D O, k)) := by
  refine b191_15_1.trans ?_
  by_cases h6 : zi i < 6
  · rw [if_pos h6, if_pos (show zi 0 = 0 from rfl), if_pos (Or.inl (show zi 0 = 0 from rfl))]
  · rw [if_neg h6, if_pos (Or.inl (show zi 0 = 0 from rfl))]
theorem m191l_1 {a b p : Nat} (hp : p < 6) (hb : b ≤ 600) (hab : a ≤ b) : ∀ d i (v : Value), i + d = 6 → zev X 191 15 [.ref 169, .int (zi p), .ref 176, .int (zi a), .int (zi b), .int (zi 1), .int (zi i), v] [] (zHP D O, k) = some (.inl (some (.int (zb (zal (yNq D 169 p a b) d i)))), (zHP D O, k))
  | 0, i, v, h => by
    refine b191_15_1.trans ?_
    have h6 : ¬ zi i < 6 := by rw [zl_6, zi_lt (by omega) (by omega)]; omega
    rw [if_neg h6, if_pos (Or.inr (show zi 1 = 1 from rfl))]
    rfl
  | d + 1, i, v, h => by
    refine b191_15_1.trans ?_
    have h6 : zi i < 6 := by rw [zl_6, zi_lt (by omega) (by omega)]; omega
    rw [if_pos h6, if_neg (show ¬ zi 1 = 0 by decide)]
    have ei : (6 : Int32) * zi p + zi i = zi (6 * p + i) := by rw [zl_6, zi_mul, zi_add]
    have nb : ¬ (zi (6 * p + i) < 0 ∨ 36 ≤ (zi (6 * p + i)).toNatClampNeg) := by
      rw [zl_0, zi_lt (by omega) (by omega), zi_toNat (by omega)]
      omega
    have go : ∀ s0 : Int32, s0 = (if a + i < b then D 176 (a + i) else zi 0) → zev X 191 46 [.ref 169, .int (zi p), .ref 176, .int (zi a), .int (zi b), .int (zi 1), .int (zi i), v] [.int s0] (zHP D O, k) = some (.inl (some (.int (zb (zal (yNq D 169 p a b) (d + 1) i)))), (zHP D O, k)) := by
      intro s0 hs
      have g := b191_46_1 (X := X) (D := D) (O := O) (k := k) (l1 := zi p) (l3 := zi a) (l4 := zi b) (l5 := zi 1) (l6 := zi i) (l7 := v) (s0 := s0)
      rw [ei, if_neg nb, zi_toNat (by omega), zi_add, zl_0, zl_1, zi_add] at g
      refine g.trans ?_
      rw [zal]
      unfold yNq
      rw [← hs]
      by_cases q : D 169 (6 * p + i) = s0
      · rw [if_pos q, decide_eq_true q, Bool.true_and]
        by_cases q0 : s0 = zi 0
        · rw [if_pos q0]
          by_cases q1 : a + i < b
          · rw [if_pos q1] at hs
            have e1 : zi (a + i) < zi b := by rw [zi_lt (by omega) (by omega)]; exact q1
            rw [if_pos e1, m191z_1 (by omega), decide_eq_true q1, decide_eq_true (hs.symm.trans q0)]
            rfl
          · have e1 : ¬ zi (a + i) < zi b := by rw [zi_lt (by omega) (by omega)]; exact q1
            rw [if_neg e1, m191l_1 hp hb hab d (i + 1) _ (by omega), decide_eq_false q1]
            rfl
        · rw [if_neg q0, m191l_1 hp hb hab d (i + 1) _ (by omega)]
          have e2 : (decide (a + i < b) && decide (D 176 (a + i) = zi 0)) = false := by
            by_cases q1 : a + i < b
            · rw [if_pos q1] at hs
              rw [decide_eq_false (fun w => q0 (hs.trans w)), Bool.and_false]
            · rw [decide_eq_false q1]
              rfl
          rw [e2]
          rfl
      · rw [if_neg q, m191z_1 (by omega), decide_eq_false q]
        rfl
    by_cases q1 : a + i < b
    · have e1 : zi a + zi i < zi b := by rw [zi_add, zi_lt (by omega) (by omega)]; exact q1
      have nb2 : ¬ (zi a + zi i < 0 ∨ 600 ≤ (zi a + zi i).toNatClampNeg) := by
        rw [zi_add, zl_0, zi_lt (by omega) (by omega), zi_toNat (by omega)]
        omega
      rw [if_pos e1, if_neg nb2]
      exact go _ (by rw [if_pos q1, zi_add, zi_toNat (by omega)])
    · have e1 : ¬ zi a + zi i < zi b := by rw [zi_add, zi_lt (by omega) (by omega)]; exact q1
      rw [if_neg e1]
      exact go _ (by rw [if_neg q1]; rfl)
theorem m191_1 {a b p : Nat} (hp : p < 6) (hb : b ≤ 600) (hab : a ≤ b) : zev X 191 0 [.ref 169, .int (zi p), .ref 176, .int (zi a), .int (zi b), zJ, zJ, zJ] [] (zHP D O, k) = some (.inl (some (.int (zb (yNa D 169 p a b)))), (zHP D O, k)) := by
  refine b191_0_1.trans ?_
  unfold yNa
  rw [zi_sub hab (by omega), zl_1, zl_6]
  by_cases h : 1 ≤ b - a ∧ b - a ≤ 6
  · have q1 : ¬ zi (b - a) < zi 1 := by rw [zi_lt (by omega) (by omega)]; omega
    have q2 : ¬ zi 6 < zi (b - a) := by rw [zi_lt (by omega) (by omega)]; omega
    rw [m175p q1 q2, zcon_inl]
    refine b191_10_1.trans ?_
    rw [zl_0, m191l_1 hp hb hab 6 0 _ (by omega), decide_eq_true h.1, decide_eq_true h.2]
    rfl
  · have q : zi (b - a) < zi 1 ∨ zi 6 < zi (b - a) := by rw [zi_lt (by omega) (by omega), zi_lt (by omega) (by omega)]; omega
    rw [m175w q, zcon_inl]
    refine b191_10_1.trans ?_
    rw [zl_0, m191z_1 (by omega)]
    have e : (decide (1 ≤ b - a) && decide (b - a ≤ 6)) = false := by
      by_cases h1 : 1 ≤ b - a
      · rw [decide_eq_false (fun w : b - a ≤ 6 => h ⟨h1, w⟩), Bool.and_false]
      · rw [decide_eq_false h1]
        rfl
    rw [e]
    rfl
theorem zrow_lt {ls : List Nat} {i : Nat} (z : zLt ls) : (∃ c, 1 ≤ c ∧ c ≤ 26 ∧ ls[i]? = some c) ∨ ls[i]? = none := by
  cases h : ls[i]? with
  | none => exact Or.inr rfl
  | some c =>
    have hc := z c (List.mem_of_getElem? h)
    exact Or.inl ⟨c, hc.1, hc.2, rfl⟩
/-- a stored name is the token's, letter by letter -/
theorem yNa_iff {A p a b : Nat} {ls : List Nat} (hn : zNm ls) (hD : ∀ i, i < 6 → D A (6 * p + i) = (match ls[i]? with | some c => zi (96 + c) | none => zi 0)) (hab : a < b) (h6 : b ≤ a + 6) (hw : ∀ j, a ≤ j → j < b → yLet (D 176 j) = true) : yNa D A p a b = decide (zi (yPk ls) = zi (yPk (yWl (D 176) a b))) := by
  have zl : zLt ls := hn.2.2
  have zw := yWl_lt hw
  have b1 := yPk_lt _ zl
  have b2 := yPk_lt _ zw
  have p1 : 32 ^ ls.length ≤ 32 ^ 6 := Nat.pow_le_pow_right (by omega) hn.2.1
  have p2 : 32 ^ (yWl (D 176) a b).length ≤ 32 ^ 6 := Nat.pow_le_pow_right (by omega) (by rw [yWl_len]; omega)
  unfold yNa
  rw [decide_eq_true (show 1 ≤ b - a by omega), decide_eq_true (show b - a ≤ 6 by omega), Bool.true_and, Bool.true_and]
  have key : zal (yNq D A p a b) 6 0 = true ↔ ls = yWl (D 176) a b := by
    rw [zal_iff]
    constructor
    · intro h
      apply List.ext_getElem?
      intro i
      by_cases hi : i < 6
      · have q := h i (Nat.zero_le _) (by omega)
        unfold yNq at q
        rw [Bool.and_eq_true, decide_eq_true_iff, hD i hi, ← yWl_get (i := i) hw] at q
        have q1 := q.1
        rcases zrow_lt (i := i) zl with ⟨c, c1, c2, e1⟩ | e1
        · rcases zrow_lt (i := i) zw with ⟨d, d1, d2, f1⟩ | f1
          · rw [e1, f1] at q1
            have q2 : zi (96 + c) = zi (96 + d) := q1
            rw [zi_inj (by omega) (by omega)] at q2
            rw [e1, f1]
            congr 1
            omega
          · rw [e1, f1] at q1
            have q2 : zi (96 + c) = zi 0 := q1
            rw [zi_inj (by omega) (by omega)] at q2
            omega
        · rcases zrow_lt (i := i) zw with ⟨d, d1, d2, f1⟩ | f1
          · rw [e1, f1] at q1
            have q2 : zi 0 = zi (96 + d) := q1
            rw [zi_inj (by omega) (by omega)] at q2
            omega
          · rw [e1, f1]
      · have l6 := hn.2.1
        rw [List.getElem?_eq_none_iff.mpr (by omega), List.getElem?_eq_none_iff.mpr (by rw [yWl_len]; omega)]
    · intro e i _ hi
      unfold yNq
      rw [Bool.and_eq_true, decide_eq_true_iff, hD i (by omega), ← yWl_get (i := i) hw, ← e]
      refine ⟨rfl, ?_⟩
      by_cases q1 : a + i < b
      · obtain ⟨m, m1, m2, em⟩ := yLet_is (hw (a + i) (by omega) q1)
        have e0 : ¬ D 176 (a + i) = zi 0 := by rw [em, zi_inj (by omega) (by omega)]; omega
        rw [decide_eq_false e0, Bool.and_false]
        rfl
      · rw [decide_eq_false q1]
        rfl
  by_cases e : ls = yWl (D 176) a b
  · rw [key.mpr e, decide_eq_true (by rw [e])]
  · have ne : ¬ zi (yPk ls) = zi (yPk (yWl (D 176) a b)) := by
      rw [zi_inj (by omega) (by omega)]
      exact fun w => e (yPk_inj _ _ _ (Nat.le_refl _) zl zw w)
    rw [decide_eq_false ne]
    cases hz : zal (yNq D A p a b) 6 0
    · rfl
    · exact absurd (key.mp hz) e
/-- the program named, or none -/
def yWrd (P : ZPs) : ZPs := if P.kd = 1 then P else yFail P 1
theorem yWrd_ok (h : yW n P) : yW n (yWrd P) ∧ (yWrd P).T = P.T ∧ ySt P (yWrd P) := by
  unfold yWrd
  split
  · exact ⟨h, rfl, ySt_rfl⟩
  · exact ⟨(yFail_ok h (by omega)).1, (yFail_ok h (by omega)).2, ySt_fail⟩
theorem m190 (h : zPx n P D) (hW : yW n P) (hn : n ≤ 600) (hN : P.er = 0 → D 168 32 = zi (sNp P.T) ∧ sNp P.T ≤ 6 ∧ zNr D P.T 178) : ∃ D' v, zev X 190 0 [.ref 168, zJ] [] (zHP D O, k) = some (.inl (some (.int v)), (zHP D' O, k)) ∧ zPx n (yWrd P) D' ∧ zFrE D D' ∧ ((yWrd P).er = 0 → P.kd = 1 ∧ v = yNamed P) ∧ ((yWrd P).er ≠ 0 → v = zn) := by
  have e := zPx_25 h hW
  have k1 := hW.2.1
  have stop : ∀ D' : ZD2, ¬ D' 168 25 = 0 → zev X 190 18 [.ref 168, zJ] [] (zHP D' O, k) = some (.inl (some (.int zn)), (zHP D' O, k)) := by
    intro D' q
    refine b190_18.trans (b190_20.trans ?_)
    rw [if_neg q]
    split <;> rfl
  by_cases he : P.er = 0
  · obtain ⟨hm, hw⟩ := h.2.2.2 he
    obtain ⟨n1, n2, n3⟩ := hN he
    unfold yWrd
    by_cases h1 : P.kd = 1
    · have h1' : D 168 23 = 1 := by rw [hm.2.2.2.1, h1]; rfl
      have e' : D 168 25 = 0 := by rw [e]; exact he
      obtain ⟨w1, w2, w3, w4⟩ := hw h1
      have hx := hW.1
      rw [if_pos h1]
      refine ⟨D, yNamed P, ?_, h, zFrE_rfl, fun _ => ⟨h1, rfl⟩, fun q => absurd he q⟩
      refine b190_0.trans ?_
      rw [if_pos h1', zl_0, m183f, zcon_inl]
      refine b190_18.trans ?_
      unfold yNamed
      rw [zl_0]
      refine zfind (P := fun i => zev X 190 20 [.ref 168, .int (zi i)] [] (zHP D O, k)) (Q := fun a => some (.inl (some (.int a)), (zHP D O, k))) (p := fun p => decide (P.T 2 (12 * p + 11) = P.va)) (n := sNp P.T) ?_ ?_ (sNp P.T) 0 (by omega)
      · intro i hi
        obtain ⟨ls, l1, l2, l3⟩ := n3 i hi
        refine b190_20.trans ?_
        have q1 : zi i < D 168 32 := by rw [n1, zi_lt (by omega) (by omega)]; exact hi
        rw [if_pos q1, if_pos e', hm.2.2.1, hm.2.1, m191_0 (by omega) (by omega) (by omega), zcon_inl, yNa_iff l1 l3 w1 w2 w3, ← w4, ← l2]
        refine b190_55.trans ?_
        by_cases q : P.T 2 (12 * i + 11) = P.va
        · rw [decide_eq_true q, if_neg (by decide), if_pos rfl]
        · rw [decide_eq_false q, if_pos (show zb false = 0 from rfl), if_neg Bool.false_ne_true, zl_1, zi_add]
      · refine b190_20.trans ?_
        have q1 : ¬ zi (sNp P.T) < D 168 32 := by rw [n1, zi_lt (by omega) (by omega)]; omega
        rw [if_neg q1]
        rfl
    · have h1' : ¬ D 168 23 = 1 := by rw [hm.2.2.2.1, zl_1, zi_inj (by omega) (by omega)]; exact h1
      obtain ⟨D', a, b, c⟩ := m183t (X := X) (O := O) (k := k) (c := 1) h hW (by omega)
      have g' : ¬ (yFail P 1).er = 0 := yFail_ne (by omega)
      have gW : yW n (yFail P 1) := (yFail_ok hW (by omega)).1
      rw [if_neg h1]
      refine ⟨D', zn, ?_, b, c, fun q => absurd q g', fun _ => rfl⟩
      refine b190_0.trans ?_
      rw [if_neg h1', zl_1, a, zcon_inl]
      exact stop D' (by rw [zPx_25 b gW]; exact g')
  · have L := yWrd_ok hW
    have e' : ¬ D 168 25 = 0 := by rw [e]; exact he
    have hne : (yWrd P).er ≠ 0 := by rw [(L.2.2 he).1]; exact he
    refine ⟨D, zn, ?_, zPx_err h he L.2.2, zFrE_rfl, fun q => absurd q hne, fun _ => rfl⟩
    have f184 : ∀ c : Int32, zev X 184 0 [.ref 168, .int c] [] (zHP D O, k) = some (.inl none, (zHP D O, k)) := fun c => b184_0.trans (by rw [if_neg e'])
    have f183 : ∀ b c : Int32, zev X 183 0 [.ref 168, .int b, .int c] [] (zHP D O, k) = some (.inl none, (zHP D O, k)) := fun b c => by
      refine b183_0.trans ?_
      split
      · exact b183_9
      · rw [f184, zcon_inl]
        exact b183_9
    refine b190_0.trans ?_
    rw [f183, f183, zcon_inl]
    split <;> exact stop D e'
theorem m193 (h : zPx n P D) (hW : yW n P) (hn : n ≤ 600) (hB : ∀ i, i < n → D 176 i ≠ zn) (hN : P.er = 0 → D 168 32 = zi (sNp P.T) ∧ sNp P.T ≤ 6 ∧ zNr D P.T 178) : ∃ D' v, zev X 193 0 [.ref 168, zJ] [] (zHP D O, k) = some (.inl (some (.int v)), (zHP D' O, k)) ∧ zPx n (yKnown (D 176) n P).2 D' ∧ zFrE D D' ∧ ((yKnown (D 176) n P).2.er = 0 → v = (yKnown (D 176) n P).1) := by
  obtain ⟨D1, v, e1, e2, e3, e4, e5⟩ := m190 (X := X) (O := O) (k := k) h hW hn hN
  have L := yWrd_ok hW
  have b1 : D1 176 = D 176 := e3.1 176 (by omega)
  have e25 := zPx_25 e2 L.1
  by_cases he : (yWrd P).er = 0
  · have he' : D1 168 25 = 0 := by rw [e25]; exact he
    obtain ⟨hk, hv⟩ := e4 he
    have eW : yWrd P = P := by unfold yWrd; rw [if_pos hk]
    rw [eW] at he e2
    unfold yKnown
    rw [if_pos hk]
    by_cases hz : yNamed P = zn
    · rw [if_pos hz]
      obtain ⟨D2, f1, f2, f3⟩ := m183t (X := X) (O := O) (k := k) (c := 3) e2 hW (by omega)
      have g' : ¬ (yFail P 3).er = 0 := yFail_ne (by omega)
      have gW : yW n (yFail P 3) := (yFail_ok hW (by omega)).1
      have g25 : ¬ D2 168 25 = 0 := by rw [zPx_25 f2 gW]; exact g'
      refine ⟨D2, 0, ?_, f2, zFrE_tr e3 f3, fun q => absurd q g'⟩
      refine b193_0.trans ?_
      rw [e1, zcon_inl]
      refine b193_4.trans ?_
      rw [if_pos he', if_pos (show v = -1 from hv.trans hz), zl_1, zl_3, f1, zcon_inl]
      refine b193_27.trans ?_
      have f185 : zev X 185 0 [.ref 168] [] (zHP D2 O, k) = some (.inl none, (zHP D2 O, k)) := by
        refine b185_0.trans ?_
        rw [if_neg g25]
        exact b185_11
      rw [f185, zcon_inl]
      refine b193_31.trans ?_
      rw [if_neg g25]
    · rw [if_neg hz]
      obtain ⟨D2, f1, f2, f3⟩ := m185 (X := X) (O := O) (k := k) e2 hW hn (by rw [b1]; exact hB)
      rw [b1] at f2
      have eO : yOn (D 176) n P = yScan (D 176) n P := by unfold yOn; rw [if_pos he]
      rw [eO] at f2
      have sW := yScan_ok (B := D 176) hW
      have g25 : D2 168 25 = 0 := by rw [zPx_25 f2 sW.1, sW.2.2.1]; exact he
      refine ⟨D2, v, ?_, f2, zFrE_tr e3 f3, fun _ => hv⟩
      refine b193_0.trans ?_
      rw [e1, zcon_inl]
      refine b193_4.trans ?_
      rw [if_pos he', if_neg (show ¬ v = -1 from fun w => hz (hv.symm.trans w)), zl_0, m183f, zcon_inl]
      refine b193_27.trans ?_
      rw [f1, zcon_inl]
      refine b193_31.trans ?_
      rw [if_pos g25]
  · have he' : ¬ D1 168 25 = 0 := by rw [e25]; exact he
    have st : zPx n (yKnown (D 176) n P).2 D1 ∧ (yKnown (D 176) n P).2.er ≠ 0 := by
      by_cases hp : P.er = 0
      · have hk : ¬ P.kd = 1 := fun q => by
          unfold yWrd at he
          rw [if_pos q] at he
          exact he hp
        have eW : yWrd P = yFail P 1 := by unfold yWrd; rw [if_neg hk]
        have eK : (yKnown (D 176) n P).2 = yFail P 1 := by unfold yKnown; rw [if_neg hk]
        rw [eK, ← eW]
        exact ⟨e2, he⟩
      · have s2 := ySt_known (B := D 176) hW
        refine ⟨zPx_err e2 he fun _ => ?_, by rw [(s2 hp).1]; exact hp⟩
        obtain ⟨a, b⟩ := L.2.2 hp
        obtain ⟨c, d⟩ := s2 hp
        exact ⟨c.trans a.symm, d.trans b.symm⟩
    refine ⟨D1, 0, ?_, st.1, e3, fun q => absurd q st.2⟩
    refine b193_0.trans ?_
    rw [e1, zcon_inl]
    refine b193_4.trans ?_
    rw [if_neg he', zl_0, m183f, zcon_inl]
    refine b193_27.trans ?_
    have f185 : zev X 185 0 [.ref 168] [] (zHP D1 O, k) = some (.inl none, (zHP D1 O, k)) := by
      refine b185_0.trans ?_
      rw [if_neg he']
      exact b185_11
    rw [f185, zcon_inl]
    refine b193_31.trans ?_
    rw [if_neg he']
    rfl
end
