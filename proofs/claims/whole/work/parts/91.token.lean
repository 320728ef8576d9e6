/-! The model reads a token. -/
/-- the model's place, start, sort, number -/
def zym (D : ZD2) (i : Nat) (s kd v : Int32) : ZD2 := zrow D 168 fun x => if x = 21 then zi i else if x = 22 then s else if x = 23 then kd else if x = 24 then v else D 168 x
def ySeen (B : Nat → Int32) (n i : Nat) : Int32 := if i < n then B i else zn
section
variable {X : ZX} {D : ZD2} {O : ZO2} {k : Nat × Nat × Nat} {n i : Nat} {s kd v : Int32}
theorem zym_o {a : Nat} (h : a ≠ 168) : zym D i s kd v a = D a := zrow_ne h
theorem zym_168 {x : Nat} : zym D i s kd v 168 x = if x = 21 then zi i else if x = 22 then s else if x = 23 then kd else if x = 24 then v else D 168 x := congrFun (zrow_self _ _ _) x
theorem zym21 : zym D i s kd v 168 21 = zi i := zym_168
theorem zym22 : zym D i s kd v 168 22 = s := zym_168
theorem zym23 : zym D i s kd v 168 23 = kd := zym_168
theorem zym24 : zym D i s kd v 168 24 = v := zym_168
theorem zym20 : zym D i s kd v 168 20 = D 168 20 := zym_168
theorem zym_mk {j : Nat} {w : Int32} {i' : Nat} {s' kd' v' : Int32} (h : ∀ x, (if x = j then w else zym D i s kd v 168 x) = zym D i' s' kd' v' 168 x) : zw (zym D i s kd v) 168 j w = zym D i' s' kd' v' := by
  funext a x
  by_cases ha : a = 168
  · subst ha
    rw [← h x, zw_upd]
    rfl
  · rw [zw_row ha, zym_o ha, zym_o ha]
theorem zym21w {i' : Nat} : zw (zym D i s kd v) 168 21 (zi i') = zym D i' s kd v := zym_mk fun x => by
  rw [zym_168, zym_168]; by_cases h : x = 21 <;> simp [h]
theorem zym22w {w : Int32} : zw (zym D i s kd v) 168 22 w = zym D i w kd v := zym_mk fun x => by
  rw [zym_168, zym_168]; by_cases h : x = 22 <;> simp [h]
theorem zym23w {w : Int32} : zw (zym D i s kd v) 168 23 w = zym D i s w v := zym_mk fun x => by
  rw [zym_168, zym_168]; by_cases h : x = 23 <;> simp [h]
theorem zym24w {w : Int32} : zw (zym D i s kd v) 168 24 w = zym D i s kd w := zym_mk fun x => by
  rw [zym_168, zym_168]; by_cases h : x = 24 <;> simp [h]
theorem zym_self (h : D 168 21 = zi i) : D = zym D i (D 168 22) (D 168 23) (D 168 24) := by
  funext a x
  by_cases ha : a = 168
  · subst ha
    rw [zym_168]
    by_cases h1 : x = 21
    · simp [h1, h]
    · by_cases h2 : x = 22
      · simp [h2]
      · by_cases h3 : x = 23
        · simp [h3]
        · by_cases h4 : x = 24 <;> simp [h1, h2, h3, h4]
  · rw [zym_o ha]
theorem m179 (h20 : D 168 20 = zi n) (hn : n ≤ 600) (hi : i < 2147483648) : zev X 179 0 [.ref 168, .int (zi i)] [] (zHP D O, k) = some (.inl (some (.int (ySeen (D 176) n i))), (zHP D O, k)) := by
  refine b179_0.trans ?_
  unfold ySeen
  rw [h20]
  by_cases h : i < n
  · have h1 : zi i < zi n := by rw [zi_lt (by omega) (by omega)]; exact h
    have h2 : ¬ zi i < zi 0 := by rw [zi_lt (by omega) (by omega)]; omega
    rw [if_pos h1, if_pos h, zl_0, zi_toNat (by omega), if_neg (fun q => q.elim h2 (by omega))]
  · have h1 : ¬ zi i < zi n := by rw [zi_lt (by omega) (by omega)]; exact h
    rw [if_neg h1, if_neg h]
    rfl
theorem m180 {w : Int32} : zev X 180 0 [.int w] [] (zHP D O, k) = some (.inl (some (.int (zb (yLet w)))), (zHP D O, k)) := by
  rw [b180_0, zl_97, zl_122, zl_0, zl_1]
  unfold yLet
  by_cases h1 : w < zi 97
  · rw [if_pos h1, decide_eq_true h1]; rfl
  · rw [if_neg h1, decide_eq_false h1]
    by_cases h2 : zi 122 < w
    · rw [if_pos h2, decide_eq_true h2]; rfl
    · rw [if_neg h2, decide_eq_false h2]; rfl
theorem m181 {w : Int32} : zev X 181 0 [.int w] [] (zHP D O, k) = some (.inl (some (.int (zb (yDig w)))), (zHP D O, k)) := by
  rw [b181_0, zl_48, zl_57, zl_0, zl_1]
  unfold yDig
  by_cases h1 : w < zi 48
  · rw [if_pos h1, decide_eq_true h1]; rfl
  · rw [if_neg h1, decide_eq_false h1]
    by_cases h2 : zi 57 < w
    · rw [if_pos h2, decide_eq_true h2]; rfl
    · rw [if_neg h2, decide_eq_false h2]; rfl
theorem m179y (h20 : D 168 20 = zi n) (hn : n ≤ 600) {j : Nat} (hj : j < 2147483648) : zev X 179 0 [.ref 168, .int (zi j)] [] (zHP (zym D i s kd v) O, k) = some (.inl (some (.int (ySeen (D 176) n j))), (zHP (zym D i s kd v) O, k)) := by
  have e := m179 (X := X) (D := zym D i s kd v) (O := O) (k := k) (i := j) (zym20.trans h20) hn hj
  rw [zym_o (by omega)] at e
  exact e
theorem yLet_zn : yLet zn = false := by decide
theorem yDig_zn : yDig zn = false := by decide
theorem m178a (h20 : D 168 20 = zi n) (hn : n ≤ 600) : ∀ f i s, i + f = n → zev X 178 0 [.ref 168, zJ] [] (zHP (zym D i s kd v) O, k) = zev X 178 42 [.ref 168, zJ] [.int (ySeen (D 176) n (zgo ySp (D 176) n f i))] (zHP (zym D (zgo ySp (D 176) n f i) (zi (zgo ySp (D 176) n f i)) kd v) O, k)
  | 0, i, s, hi => by
    refine b178_0.trans ?_
    rw [zym21, m179y h20 hn (by omega), zcon_inl]
    refine b178_8.trans ?_
    have h1 : ¬ ySeen (D 176) n i = 32 := by
      unfold ySeen
      rw [if_neg (by omega)]
      decide
    rw [if_neg h1]
    simp only [zym21, zym22w]
    rw [m179y h20 hn (by omega), zcon_inl]
    rfl
  | f + 1, i, s, hi => by
    refine b178_0.trans ?_
    rw [zym21, m179y h20 hn (by omega), zcon_inl]
    refine b178_8.trans ?_
    have es : ySeen (D 176) n i = D 176 i := if_pos (by omega)
    rw [es, zgo]
    by_cases h2 : D 176 i = zi 32
    · have q : i < n ∧ ySp (D 176 i) = true := ⟨by omega, decide_eq_true h2⟩
      rw [zl_32, if_pos h2, if_pos q, zym21, zl_1, zi_add, zym21w]
      exact m178a h20 hn f (i + 1) s (by omega)
    · have q : ¬ (i < n ∧ ySp (D 176 i) = true) := fun q => h2 (of_decide_eq_true q.2)
      rw [zl_32, if_neg h2, if_neg q]
      simp only [zym21, zym22w]
      rw [m179y h20 hn (by omega), zcon_inl]
      rfl
theorem m178b {c : Int32} (h20 : D 168 20 = zi n) (hn : n ≤ 600) : ∀ f i, i + f = n → zev X 178 63 [.ref 168, .int c] [] (zHP (zym D i s kd v) O, k) = zev X 178 74 [.ref 168, .int c] [.int (zi 0)] (zHP (zym D (zgo yLet (D 176) n f i) s kd v) O, k)
  | 0, i, hi => by
    refine b178_63.trans ?_
    rw [zym21, m179y h20 hn (by omega), zcon_inl]
    refine b178_71.trans ?_
    have es : ySeen (D 176) n i = zn := if_neg (by omega)
    rw [es, m180, zcon_inl, yLet_zn]
    rfl
  | f + 1, i, hi => by
    refine b178_63.trans ?_
    rw [zym21, m179y h20 hn (by omega), zcon_inl]
    refine b178_71.trans ?_
    have es : ySeen (D 176) n i = D 176 i := if_pos (by omega)
    rw [es, m180, zcon_inl, zgo]
    cases h2 : yLet (D 176 i)
    · rw [if_neg fun q => Bool.noConfusion q.2]
      rfl
    · rw [if_pos ⟨by omega, rfl⟩]
      refine b178_74.trans ?_
      rw [zl_0, if_neg (by rw [zb_0]; exact Bool.noConfusion), zym21, zl_1, zi_add, zym21w]
      exact m178b h20 hn f (i + 1) (by omega)
theorem m178c {c : Int32} {st : Nat} (h20 : D 168 20 = zi n) (hn : n ≤ 600) : ∀ f i v, i + f = n → st ≤ i → ∃ v', zev X 178 128 [.ref 168, .int c] [] (zHP (zym D i (zi st) kd v) O, k) = zev X 178 139 [.ref 168, .int c] [.int (zi 0)] (zHP (zym D (zgo yDig (D 176) n f i) (zi st) kd v') O, k) ∧ (zgo yDig (D 176) n f i ≤ st + 3 → v' = zgv yTen yDig (D 176) n f i v)
  | 0, i, v, hi, hs => by
    refine ⟨v, ?_, fun _ => rfl⟩
    refine b178_128.trans ?_
    rw [zym21, m179y h20 hn (by omega), zcon_inl]
    refine b178_136.trans ?_
    have es : ySeen (D 176) n i = zn := if_neg (by omega)
    rw [es, m181, zcon_inl, yDig_zn]
    rfl
  | f + 1, i, v, hi, hs => by
    have es : ySeen (D 176) n i = D 176 i := if_pos (by omega)
    have start : zev X 178 128 [.ref 168, .int c] [] (zHP (zym D i (zi st) kd v) O, k) = zev X 178 139 [.ref 168, .int c] [.int (zb (yDig (D 176 i)))] (zHP (zym D i (zi st) kd v) O, k) := by
      refine b178_128.trans ?_
      rw [zym21, m179y h20 hn (by omega), zcon_inl]
      refine b178_136.trans ?_
      rw [es, m181, zcon_inl]
      rfl
    rw [start, zgo, zgv]
    cases h2 : yDig (D 176 i)
    · rw [if_neg fun q => Bool.noConfusion q.2, if_neg fun q => Bool.noConfusion q.2]
      exact ⟨v, rfl, fun _ => rfl⟩
    · rw [if_pos ⟨by omega, rfl⟩, if_pos ⟨by omega, rfl⟩]
      by_cases h3 : i - st < 3
      · obtain ⟨v', e1, e2⟩ := m178c (st := st) h20 hn f (i + 1) (yTen v (D 176 i)) (by omega) (by omega)
        refine ⟨v', Eq.trans ?_ e1, e2⟩
        refine b178_139.trans ?_
        have h3' : zi (i - st) < 3 := by rw [zl_3, zi_lt (by omega) (by omega)]; exact h3
        rw [zl_0, if_neg (by rw [zb_0]; exact Bool.noConfusion), zym21, zym22, zi_sub hs (by omega), if_pos h3', m179y h20 hn (by omega), zcon_inl, es, zym24]
        refine b178_171.trans ?_
        refine b178_179.trans ?_
        have ev : 10 * v + D 176 i - 48 = yTen v (D 176 i) := by
          unfold yTen
          rw [← zl_10, ← zl_48, Int32.mul_comm, Int32.sub_eq_add_neg, Int32.sub_eq_add_neg, Int32.add_assoc]
        rw [ev, zym24w, zym21, zl_1, zi_add, zym21w]
      · obtain ⟨v', e1, e2⟩ := m178c (st := st) h20 hn f (i + 1) (zi 0) (by omega) (by omega)
        refine ⟨v', Eq.trans ?_ e1, fun q => ?_⟩
        · refine b178_139.trans ?_
          have h3' : ¬ zi (i - st) < 3 := by rw [zl_3, zi_lt (by omega) (by omega)]; exact h3
          rw [zl_0, if_neg (by rw [zb_0]; exact Bool.noConfusion), zym21, zym22, zi_sub hs (by omega), if_neg h3']
          refine b178_179.trans ?_
          rw [zym24w, zym21, zl_1, zi_add, zym21w]
        · have := zgo_le yDig (D 176) n f (i + 1)
          omega
/-- the model's last token is the class's -/
def zPm (n : Nat) (P : ZPs) (D : ZD2) : Prop := D 168 20 = zi n ∧ D 168 21 = zi P.nx ∧ D 168 22 = zi P.st ∧ D 168 23 = zi P.kd ∧ (P.kd = 2 → D 168 24 = P.va)
/-- a token was read: nothing else is touched -/
def zFrN (D D' : ZD2) : Prop := (∀ a, a ≠ 168 → D' a = D a) ∧ ∀ x, x < 21 ∨ 24 < x → D' 168 x = D 168 x
theorem zFrN_ym {j : Nat} {s kd v : Int32} : zFrN D (zym D j s kd v) := ⟨fun a h => zym_o h, fun x h => by
  rw [zym_168, if_neg (by omega), if_neg (by omega), if_neg (by omega), if_neg (by omega)]⟩
theorem m178 {P : ZPs} (h20 : D 168 20 = zi n) (h21 : D 168 21 = zi P.nx) (hn : n ≤ 600) (h : P.nx ≤ n) (hB : ∀ i, i < n → D 176 i ≠ zn) : ∃ D', zev X 178 0 [.ref 168, zJ] [] (zHP D O, k) = some (.inl none, (zHP D' O, k)) ∧ zPm n (yScan (D 176) n P) D' ∧ zFrN D D' := by
  have e0 := zym_self h21
  have start : zev X 178 0 [.ref 168, zJ] [] (zHP D O, k) = zev X 178 42 [.ref 168, zJ] [.int (ySeen (D 176) n (yAft (D 176) n P).nx)] (zHP (zym D (yAft (D 176) n P).nx (zi (yAft (D 176) n P).nx) (D 168 23) (D 168 24)) O, k) := by
    conv => lhs; rw [e0]
    exact m178a h20 hn (n - P.nx) P.nx _ (by omega)
  rw [start]
  have hq : (yAft (D 176) n P).nx ≤ n := zgo_n _ _ _ _ _ h
  have hs : (yAft (D 176) n P).st = (yAft (D 176) n P).nx := rfl
  have hv : (yAft (D 176) n P).va = zi 0 := rfl
  unfold yScan
  generalize yAft (D 176) n P = Q at hq hs hv
  unfold yTok ySeen
  by_cases h1 : n ≤ Q.nx
  · rw [if_neg (by omega), if_pos h1]
    refine ⟨zym D Q.nx (zi Q.nx) (zi 0) (D 168 24), ?_, ⟨zym20.trans h20, zym21, zym22.trans (by rw [← hs]; rfl), zym23, fun q => absurd (show 0 = 2 from q) (by omega)⟩, zFrN_ym⟩
    refine b178_42.trans ?_
    rw [if_pos (show zn = -1 from rfl), zl_0, zym23w]
  · have h2 : Q.nx < n := by omega
    have hB1 : ¬ D 176 Q.nx = -1 := hB _ h2
    rw [if_pos h2, if_neg h1]
    have g1 := b178_42 (X := X) (D := zym D Q.nx (zi Q.nx) (D 168 23) (D 168 24)) (O := O) (k := k) (s0 := D 176 Q.nx)
    rw [if_neg hB1, m180, zcon_inl] at g1
    have g2 := g1.trans b178_60
    cases h3 : yLet (D 176 Q.nx)
    · rw [if_neg Bool.false_ne_true]
      rw [h3, zl_0, if_pos zb_f, m181, zcon_inl] at g2
      have g3 := g2.trans b178_120
      cases h4 : yDig (D 176 Q.nx)
      · rw [if_neg Bool.false_ne_true]
        rw [h4, zl_0, if_pos zb_f, zl_59, zl_3, zl_4] at g3
        refine ⟨zym D (Q.nx + 1) (zi Q.nx) (zi (if D 176 Q.nx = zi 59 then 3 else 4)) (D 168 24), ?_, ⟨zym20.trans h20, zym21, zym22.trans (by rw [← hs]; rfl), zym23, fun q => ?_⟩, zFrN_ym⟩
        · refine g3.trans ?_
          by_cases h5 : D 176 Q.nx = zi 59
          · rw [if_pos h5, if_pos h5]
            refine b178_232.trans ?_
            rw [zym23w, zym21, zl_1, zi_add, zym21w]
          · rw [if_neg h5, if_neg h5]
            refine b178_232.trans ?_
            rw [zym23w, zym21, zl_1, zi_add, zym21w]
        · exfalso
          have q' : (if D 176 Q.nx = zi 59 then 3 else 4) = 2 := q
          split at q' <;> omega
      · rw [if_pos rfl]
        rw [h4, zl_0, if_neg (by rw [zb_0]; exact Bool.noConfusion), zym24w] at g3
        obtain ⟨v', e1, e2⟩ := m178c (X := X) (D := D) (O := O) (k := k) (kd := D 168 23) (c := D 176 Q.nx) (st := Q.nx) h20 hn (n - Q.nx) Q.nx (zi 0) (by omega) (Nat.le_refl _)
        have z1 := zgo_le yDig (D 176) n (n - Q.nx) Q.nx
        have z2 := zgo_n yDig (D 176) n (n - Q.nx) Q.nx hq
        rw [← hv] at e2
        generalize zgo yDig (D 176) n (n - Q.nx) Q.nx = z at z1 z2 e1 e2 ⊢
        have e3 := zi_lt (a := 3) (b := z - Q.nx) (by omega) (by omega)
        refine ⟨zym D z (zi Q.nx) (zi (if 3 < z - Q.nx then 4 else 2)) v', ?_, ⟨zym20.trans h20, zym21, zym22.trans (by rw [← hs]; rfl), zym23, fun q => zym24.trans (e2 ?_)⟩, zFrN_ym⟩
        · refine g3.trans (e1.trans (b178_139.trans ?_))
          rw [zl_0, if_pos rfl, zym21, zym22, zi_sub z1 (by omega), zl_3, zl_4, zl_2, zym23w, zym23w]
          simp only [e3]
          split <;> rfl
        · have q' : (if 3 < z - Q.nx then 4 else 2) = 2 := q
          by_cases h5 : 3 < z - Q.nx
          · rw [if_pos h5] at q'
            omega
          · omega
    · rw [if_pos rfl]
      rw [h3, zl_0, if_neg (by rw [zb_0]; exact Bool.noConfusion), m178b h20 hn (n - Q.nx) Q.nx (by omega)] at g2
      have z1 := zgo_le yLet (D 176) n (n - Q.nx) Q.nx
      have z2 := zgo_n yLet (D 176) n (n - Q.nx) Q.nx hq
      generalize zgo yLet (D 176) n (n - Q.nx) Q.nx = z at z1 z2 g2 ⊢
      have e3 := zi_lt (a := 6) (b := z - Q.nx) (by omega) (by omega)
      refine ⟨zym D z (zi Q.nx) (zi (if 6 < z - Q.nx then 4 else 1)) (D 168 24), ?_, ⟨zym20.trans h20, zym21, zym22.trans (by rw [← hs]; rfl), zym23, fun q => ?_⟩, zFrN_ym⟩
      · refine g2.trans (b178_74.trans ?_)
        rw [zl_0, if_pos rfl, zym21, zym22, zi_sub z1 (by omega), zl_6, zl_4, zl_1, zym23w, zym23w]
        simp only [e3]
        split <;> rfl
      · exfalso
        have q' : (if 6 < z - Q.nx then 4 else 1) = 2 := q
        split at q' <;> omega
end
