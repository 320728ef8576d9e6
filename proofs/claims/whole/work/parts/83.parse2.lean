/-! The class's parser: keywords, numbers, names. -/
def yKw (l : List Int32) : Int32 := l.foldl yWth (zi 0)
def yIs (P : ZPs) (l : List Int32) : Bool := decide (P.kd = 1) && decide (P.va = yKw l)
def yFail (P : ZPs) (c : Nat) : ZPs := yFailAt P c (zi P.st)
def yLit (B : Nat → Int32) (n : Nat) (P : ZPs) (l : List Int32) : ZPs := if yIs P l = true then yScan B n P else yFail P 1
def yNum (B : Nat → Int32) (n : Nat) (P : ZPs) (lo hi : Int32) : Int32 × ZPs := if P.kd = 2 then (if P.va < lo ∨ hi < P.va then (zn, yFail P 2) else (P.va, yScan B n P)) else (zn, yFail P 1)
def yNamed (P : ZPs) : Int32 := zff (fun p => decide (P.T 2 (12 * p + 11) = P.va)) (sNp P.T) 0
def yFresh (B : Nat → Int32) (n : Nat) (P : ZPs) : Int32 × ZPs := if P.kd = 1 then (if yNamed P = zn then (P.va, yScan B n P) else (zn, yFail P 3)) else (zn, yFail P 1)
def yKnown (B : Nat → Int32) (n : Nat) (P : ZPs) : Int32 × ZPs := if P.kd = 1 then (if yNamed P = zn then (zn, yFail P 3) else (yNamed P, yScan B n P)) else (zn, yFail P 1)
theorem ykfold {l : List Int32} (m : Nat) (h : l.length = m) (a : Int32) : zfo (fun i a => yWth a (l.getD i 0)) m 0 a = l.foldl yWth a := by
  subst h
  have g : ∀ (l2 l1 : List Int32) (a : Int32), zfo (fun i a => yWth a ((l1 ++ l2).getD i 0)) l2.length l1.length a = l2.foldl yWth a := by
    intro l2
    induction l2 with
    | nil => intro l1 a; rfl
    | cons x t ih =>
      intro l1 a
      have e := ih (l1 ++ [x]) (yWth a x)
      rw [List.append_assoc, List.length_append] at e
      have e2 : (l1 ++ x :: t).getD l1.length 0 = x := by simp
      rw [List.length_cons, zfo, e2, List.foldl_cons]
      exact e
  exact g l [] a
section
variable {X : ZX} {D : ZD2} {O : ZO2} {k : Nat × Nat × Nat} {n : Nat} {P : ZPs}
theorem yis_end {l : List Int32} (hk : P.kd < 2147483648) : (if zps n D P 1 4 = 1 then if zps n D P 1 6 = yKw l then some (.inl (some (.int 1)), (zHP (zps n D P) O, k)) else some (.inl (some (.int 0)), (zHP (zps n D P) O, k)) else some (.inl (some (.int 0)), (zHP (zps n D P) O, k)) : Option ZR) = some (.inl (some (.int (zb (yIs P l)))), (zHP (zps n D P) O, k)) := by
  unfold yIs
  by_cases h1 : P.kd = 1
  · have h1' : zps n D P 1 4 = 1 := by rw [zps14, h1]; rfl
    rw [if_pos h1', zps16, decide_eq_true h1]
    by_cases h2 : P.va = yKw l
    · rw [if_pos h2, decide_eq_true h2]; rfl
    · rw [if_neg h2, decide_eq_false h2]; rfl
  · have h1' : ¬ zps n D P 1 4 = 1 := by rw [zps14, zl_1, zi_inj hk (by omega)]; exact h1
    rw [if_neg h1', decide_eq_false h1]; rfl
theorem c79_0 (hk : P.kd < 2147483648) : zev X 79 0 [.ref 1, .retAddr 0, zJ, zJ] [] (zHP (zps n D P) O, k) = some (.inl (some (.int (zb (yIs P [102, 114, 97, 109, 101, 115])))), (zHP (zps n D P) O, k)) := by
  refine b79_0_0.trans ?_
  rw [zl_0]
  refine (zloop (P := fun i a => zev X 79 4 [.ref 1, .retAddr 0, .int a, .int (zi i)] [] (zHP (zps n D P) O, k)) (Q := fun a => if zps n D P 1 4 = 1 then if zps n D P 1 6 = a then some (.inl (some (.int 1)), (zHP (zps n D P) O, k)) else some (.inl (some (.int 0)), (zHP (zps n D P) O, k)) else some (.inl (some (.int 0)), (zHP (zps n D P) O, k))) (f := fun i a => yWth a (([102, 114, 97, 109, 101, 115] : List Int32).getD i 0)) (n := 6) ?_ ?_ 6 0 (zi 0) (by omega)).trans ?_
  · intro i a hi
    refine b79_4_0.trans ?_
    have h1 : zi i < 6 := by rw [zl_6, zi_lt (by omega) (by omega)]; exact hi
    have h2 : ¬ zi i < 0 := by rw [zl_0, zi_lt (by omega) (by omega)]; omega
    have e : ([102, 114, 97, 109, 101, 115] : List Int32)[(zi i).toNatClampNeg]? = some (([102, 114, 97, 109, 101, 115] : List Int32).getD i 0) := by
      rw [zi_toNat (by omega)]
      rcases (show i = 0 ∨ i = 1 ∨ i = 2 ∨ i = 3 ∨ i = 4 ∨ i = 5 by omega) with rfl | rfl | rfl | rfl | rfl | rfl <;> rfl
    rw [if_pos h1, if_neg h2, e, zbind_some]
    refine b79_18_0.trans ?_
    rw [c6, zcon_inl]
    refine b79_21_0.trans ?_
    rw [zl_1, zi_add]
  · intro a
    refine b79_4_0.trans ?_
    have h1 : ¬ zi 6 < 6 := by rw [zl_6, zi_lt (by omega) (by omega)]; omega
    rw [if_neg h1]
  · rw [ykfold 6 rfl]
    exact yis_end hk
theorem c78_0 (hn : n ≤ 600) (h : P.nx ≤ n) (hk : P.kd < 2147483648) (he : P.er < 2147483648) : zev X 78 0 [.ref 1, .retAddr 0] [] (zHP (zps n D P) O, k) = some (.inl none, (zHP (zps n D (yLit (D 3) n P [102, 114, 97, 109, 101, 115])) O, k)) := by
  refine b78_0_0.trans ?_
  rw [c79_0 hk, zcon_inl]
  refine b78_5_0.trans ?_
  unfold yLit
  cases yIs P [102, 114, 97, 109, 101, 115]
  · rw [zl_0, if_pos zb_f, zl_1, zps15, c80 he, zcon_inl, if_neg Bool.false_ne_true]
    exact b78_24_0
  · rw [zl_0, if_neg (by rw [zb_0]; exact Bool.noConfusion), c76 hn h, zcon_inl, if_pos rfl]
    exact b78_12_0
theorem c79_1 (hk : P.kd < 2147483648) : zev X 79 0 [.ref 1, .retAddr 1, zJ, zJ] [] (zHP (zps n D P) O, k) = some (.inl (some (.int (zb (yIs P [114, 117, 110])))), (zHP (zps n D P) O, k)) := by
  refine b79_0_1.trans ?_
  rw [zl_0]
  refine (zloop (P := fun i a => zev X 79 4 [.ref 1, .retAddr 1, .int a, .int (zi i)] [] (zHP (zps n D P) O, k)) (Q := fun a => if zps n D P 1 4 = 1 then if zps n D P 1 6 = a then some (.inl (some (.int 1)), (zHP (zps n D P) O, k)) else some (.inl (some (.int 0)), (zHP (zps n D P) O, k)) else some (.inl (some (.int 0)), (zHP (zps n D P) O, k))) (f := fun i a => yWth a (([114, 117, 110] : List Int32).getD i 0)) (n := 3) ?_ ?_ 3 0 (zi 0) (by omega)).trans ?_
  · intro i a hi
    refine b79_4_1.trans ?_
    have h1 : zi i < 3 := by rw [zl_3, zi_lt (by omega) (by omega)]; exact hi
    have h2 : ¬ zi i < 0 := by rw [zl_0, zi_lt (by omega) (by omega)]; omega
    have e : ([114, 117, 110] : List Int32)[(zi i).toNatClampNeg]? = some (([114, 117, 110] : List Int32).getD i 0) := by
      rw [zi_toNat (by omega)]
      rcases (show i = 0 ∨ i = 1 ∨ i = 2 by omega) with rfl | rfl | rfl <;> rfl
    rw [if_pos h1, if_neg h2, e, zbind_some]
    refine b79_18_1.trans ?_
    rw [c6, zcon_inl]
    refine b79_21_1.trans ?_
    rw [zl_1, zi_add]
  · intro a
    refine b79_4_1.trans ?_
    have h1 : ¬ zi 3 < 3 := by rw [zl_3, zi_lt (by omega) (by omega)]; omega
    rw [if_neg h1]
  · rw [ykfold 3 rfl]
    exact yis_end hk
theorem c78_1 (hn : n ≤ 600) (h : P.nx ≤ n) (hk : P.kd < 2147483648) (he : P.er < 2147483648) : zev X 78 0 [.ref 1, .retAddr 1] [] (zHP (zps n D P) O, k) = some (.inl none, (zHP (zps n D (yLit (D 3) n P [114, 117, 110])) O, k)) := by
  refine b78_0_1.trans ?_
  rw [c79_1 hk, zcon_inl]
  refine b78_5_1.trans ?_
  unfold yLit
  cases yIs P [114, 117, 110]
  · rw [zl_0, if_pos zb_f, zl_1, zps15, c80 he, zcon_inl, if_neg Bool.false_ne_true]
    exact b78_24_1
  · rw [zl_0, if_neg (by rw [zb_0]; exact Bool.noConfusion), c76 hn h, zcon_inl, if_pos rfl]
    exact b78_12_1
theorem c79_2 (hk : P.kd < 2147483648) : zev X 79 0 [.ref 1, .retAddr 2, zJ, zJ] [] (zHP (zps n D P) O, k) = some (.inl (some (.int (zb (yIs P [105, 110])))), (zHP (zps n D P) O, k)) := by
  refine b79_0_2.trans ?_
  rw [zl_0]
  refine (zloop (P := fun i a => zev X 79 4 [.ref 1, .retAddr 2, .int a, .int (zi i)] [] (zHP (zps n D P) O, k)) (Q := fun a => if zps n D P 1 4 = 1 then if zps n D P 1 6 = a then some (.inl (some (.int 1)), (zHP (zps n D P) O, k)) else some (.inl (some (.int 0)), (zHP (zps n D P) O, k)) else some (.inl (some (.int 0)), (zHP (zps n D P) O, k))) (f := fun i a => yWth a (([105, 110] : List Int32).getD i 0)) (n := 2) ?_ ?_ 2 0 (zi 0) (by omega)).trans ?_
  · intro i a hi
    refine b79_4_2.trans ?_
    have h1 : zi i < 2 := by rw [zl_2, zi_lt (by omega) (by omega)]; exact hi
    have h2 : ¬ zi i < 0 := by rw [zl_0, zi_lt (by omega) (by omega)]; omega
    have e : ([105, 110] : List Int32)[(zi i).toNatClampNeg]? = some (([105, 110] : List Int32).getD i 0) := by
      rw [zi_toNat (by omega)]
      rcases (show i = 0 ∨ i = 1 by omega) with rfl | rfl <;> rfl
    rw [if_pos h1, if_neg h2, e, zbind_some]
    refine b79_18_2.trans ?_
    rw [c6, zcon_inl]
    refine b79_21_2.trans ?_
    rw [zl_1, zi_add]
  · intro a
    refine b79_4_2.trans ?_
    have h1 : ¬ zi 2 < 2 := by rw [zl_2, zi_lt (by omega) (by omega)]; omega
    rw [if_neg h1]
  · rw [ykfold 2 rfl]
    exact yis_end hk
theorem c78_2 (hn : n ≤ 600) (h : P.nx ≤ n) (hk : P.kd < 2147483648) (he : P.er < 2147483648) : zev X 78 0 [.ref 1, .retAddr 2] [] (zHP (zps n D P) O, k) = some (.inl none, (zHP (zps n D (yLit (D 3) n P [105, 110])) O, k)) := by
  refine b78_0_2.trans ?_
  rw [c79_2 hk, zcon_inl]
  refine b78_5_2.trans ?_
  unfold yLit
  cases yIs P [105, 110]
  · rw [zl_0, if_pos zb_f, zl_1, zps15, c80 he, zcon_inl, if_neg Bool.false_ne_true]
    exact b78_24_2
  · rw [zl_0, if_neg (by rw [zb_0]; exact Bool.noConfusion), c76 hn h, zcon_inl, if_pos rfl]
    exact b78_12_2
theorem c79_3 (hk : P.kd < 2147483648) : zev X 79 0 [.ref 1, .retAddr 3, zJ, zJ] [] (zHP (zps n D P) O, k) = some (.inl (some (.int (zb (yIs P [112, 105, 110])))), (zHP (zps n D P) O, k)) := by
  refine b79_0_3.trans ?_
  rw [zl_0]
  refine (zloop (P := fun i a => zev X 79 4 [.ref 1, .retAddr 3, .int a, .int (zi i)] [] (zHP (zps n D P) O, k)) (Q := fun a => if zps n D P 1 4 = 1 then if zps n D P 1 6 = a then some (.inl (some (.int 1)), (zHP (zps n D P) O, k)) else some (.inl (some (.int 0)), (zHP (zps n D P) O, k)) else some (.inl (some (.int 0)), (zHP (zps n D P) O, k))) (f := fun i a => yWth a (([112, 105, 110] : List Int32).getD i 0)) (n := 3) ?_ ?_ 3 0 (zi 0) (by omega)).trans ?_
  · intro i a hi
    refine b79_4_3.trans ?_
    have h1 : zi i < 3 := by rw [zl_3, zi_lt (by omega) (by omega)]; exact hi
    have h2 : ¬ zi i < 0 := by rw [zl_0, zi_lt (by omega) (by omega)]; omega
    have e : ([112, 105, 110] : List Int32)[(zi i).toNatClampNeg]? = some (([112, 105, 110] : List Int32).getD i 0) := by
      rw [zi_toNat (by omega)]
      rcases (show i = 0 ∨ i = 1 ∨ i = 2 by omega) with rfl | rfl | rfl <;> rfl
    rw [if_pos h1, if_neg h2, e, zbind_some]
    refine b79_18_3.trans ?_
    rw [c6, zcon_inl]
    refine b79_21_3.trans ?_
    rw [zl_1, zi_add]
  · intro a
    refine b79_4_3.trans ?_
    have h1 : ¬ zi 3 < 3 := by rw [zl_3, zi_lt (by omega) (by omega)]; omega
    rw [if_neg h1]
  · rw [ykfold 3 rfl]
    exact yis_end hk
theorem c78_3 (hn : n ≤ 600) (h : P.nx ≤ n) (hk : P.kd < 2147483648) (he : P.er < 2147483648) : zev X 78 0 [.ref 1, .retAddr 3] [] (zHP (zps n D P) O, k) = some (.inl none, (zHP (zps n D (yLit (D 3) n P [112, 105, 110])) O, k)) := by
  refine b78_0_3.trans ?_
  rw [c79_3 hk, zcon_inl]
  refine b78_5_3.trans ?_
  unfold yLit
  cases yIs P [112, 105, 110]
  · rw [zl_0, if_pos zb_f, zl_1, zps15, c80 he, zcon_inl, if_neg Bool.false_ne_true]
    exact b78_24_3
  · rw [zl_0, if_neg (by rw [zb_0]; exact Bool.noConfusion), c76 hn h, zcon_inl, if_pos rfl]
    exact b78_12_3
theorem c79_4 (hk : P.kd < 2147483648) : zev X 79 0 [.ref 1, .retAddr 4, zJ, zJ] [] (zHP (zps n D P) O, k) = some (.inl (some (.int (zb (yIs P [98, 108, 117, 102, 102])))), (zHP (zps n D P) O, k)) := by
  refine b79_0_4.trans ?_
  rw [zl_0]
  refine (zloop (P := fun i a => zev X 79 4 [.ref 1, .retAddr 4, .int a, .int (zi i)] [] (zHP (zps n D P) O, k)) (Q := fun a => if zps n D P 1 4 = 1 then if zps n D P 1 6 = a then some (.inl (some (.int 1)), (zHP (zps n D P) O, k)) else some (.inl (some (.int 0)), (zHP (zps n D P) O, k)) else some (.inl (some (.int 0)), (zHP (zps n D P) O, k))) (f := fun i a => yWth a (([98, 108, 117, 102, 102] : List Int32).getD i 0)) (n := 5) ?_ ?_ 5 0 (zi 0) (by omega)).trans ?_
  · intro i a hi
    refine b79_4_4.trans ?_
    have h1 : zi i < 5 := by rw [zl_5, zi_lt (by omega) (by omega)]; exact hi
    have h2 : ¬ zi i < 0 := by rw [zl_0, zi_lt (by omega) (by omega)]; omega
    have e : ([98, 108, 117, 102, 102] : List Int32)[(zi i).toNatClampNeg]? = some (([98, 108, 117, 102, 102] : List Int32).getD i 0) := by
      rw [zi_toNat (by omega)]
      rcases (show i = 0 ∨ i = 1 ∨ i = 2 ∨ i = 3 ∨ i = 4 by omega) with rfl | rfl | rfl | rfl | rfl <;> rfl
    rw [if_pos h1, if_neg h2, e, zbind_some]
    refine b79_18_4.trans ?_
    rw [c6, zcon_inl]
    refine b79_21_4.trans ?_
    rw [zl_1, zi_add]
  · intro a
    refine b79_4_4.trans ?_
    have h1 : ¬ zi 5 < 5 := by rw [zl_5, zi_lt (by omega) (by omega)]; omega
    rw [if_neg h1]
  · rw [ykfold 5 rfl]
    exact yis_end hk
theorem c78_4 (hn : n ≤ 600) (h : P.nx ≤ n) (hk : P.kd < 2147483648) (he : P.er < 2147483648) : zev X 78 0 [.ref 1, .retAddr 4] [] (zHP (zps n D P) O, k) = some (.inl none, (zHP (zps n D (yLit (D 3) n P [98, 108, 117, 102, 102])) O, k)) := by
  refine b78_0_4.trans ?_
  rw [c79_4 hk, zcon_inl]
  refine b78_5_4.trans ?_
  unfold yLit
  cases yIs P [98, 108, 117, 102, 102]
  · rw [zl_0, if_pos zb_f, zl_1, zps15, c80 he, zcon_inl, if_neg Bool.false_ne_true]
    exact b78_24_4
  · rw [zl_0, if_neg (by rw [zb_0]; exact Bool.noConfusion), c76 hn h, zcon_inl, if_pos rfl]
    exact b78_12_4
theorem c81 {lo hi : Int32} (hn : n ≤ 600) (h : P.nx ≤ n) (hk : P.kd < 2147483648) (he : P.er < 2147483648) : zev X 81 0 [.ref 1, .int lo, .int hi, zJ] [] (zHP (zps n D P) O, k) = some (.inl (some (.int (yNum (D 3) n P lo hi).1)), (zHP (zps n D (yNum (D 3) n P lo hi).2) O, k)) := by
  refine b81_0.trans ?_
  unfold yNum
  by_cases h1 : P.kd = 2
  · have h1' : zps n D P 1 4 = 2 := by rw [zps14, h1]; rfl
    rw [if_pos h1', if_pos h1, zps16]
    by_cases h2 : P.va < lo
    · rw [if_pos h2, if_pos (Or.inl h2), zl_2, zps15, c80 he, zcon_inl]
      exact b81_43
    · rw [if_neg h2]
      by_cases h3 : hi < P.va
      · rw [if_pos h3, if_pos (Or.inr h3), zl_2, zps15, c80 he, zcon_inl]
        exact b81_43
      · rw [if_neg h3, if_neg (fun q => q.elim h2 h3), c76 hn h, zcon_inl]
        exact b81_53
  · have h1' : ¬ zps n D P 1 4 = 2 := by rw [zps14, zl_2, zi_inj hk (by omega)]; exact h1
    rw [if_neg h1', if_neg h1, zl_1, zps15, c80 he, zcon_inl]
    exact b81_17
theorem p18 : zev X 18 0 [.ref 4] [] (zHP (zps n D P) O, k) = some (.inl (some (.int (P.T 1 0))), (zHP (zps n D P) O, k)) := c18 hm4
theorem p19 {w : Int32} (hT : P.T 1 0 = zi (sNp P.T)) (h6 : sNp P.T ≤ 6) : zev X 19 0 [.ref 4, .int w, zJ] [] (zHP (zps n D P) O, k) = some (.inl (some (.int (zff (fun p => decide (P.T 2 (12 * p + 11) = w)) (sNp P.T) 0))), (zHP (zps n D P) O, k)) := c19 hm4 hT h6
theorem c84 (hn : n ≤ 600) (h : P.nx ≤ n) (hk : P.kd < 2147483648) (he : P.er < 2147483648) (hT : P.T 1 0 = zi (sNp P.T)) (h6 : sNp P.T ≤ 6) : zev X 84 0 [.ref 1, zJ] [] (zHP (zps n D P) O, k) = some (.inl (some (.int (yFresh (D 3) n P).1)), (zHP (zps n D (yFresh (D 3) n P).2) O, k)) := by
  refine b84_0.trans ?_
  unfold yFresh
  by_cases h1 : P.kd = 1
  · have h1' : zps n D P 1 4 = 1 := by rw [zps14, h1]; rfl
    rw [if_pos h1', if_pos h1, zps16, p19 hT h6, zcon_inl]
    refine b84_29.trans ?_
    have e : zff (fun p => decide (P.T 2 (12 * p + 11) = P.va)) (sNp P.T) 0 = yNamed P := rfl
    rw [e, zn_l]
    by_cases h2 : yNamed P = zn
    · rw [if_pos h2, if_pos h2, c76 hn h, zcon_inl, zps16]
      exact b84_52
    · rw [if_neg h2, if_neg h2, zl_3, zps15, c80 he, zcon_inl]
      exact b84_42
  · have h1' : ¬ zps n D P 1 4 = 1 := by rw [zps14, zl_1, zi_inj hk (by omega)]; exact h1
    rw [if_neg h1', if_neg h1, zl_1, zps15, c80 he, zcon_inl]
    exact b84_17
theorem c86 (hn : n ≤ 600) (h : P.nx ≤ n) (hk : P.kd < 2147483648) (he : P.er < 2147483648) (hT : P.T 1 0 = zi (sNp P.T)) (h6 : sNp P.T ≤ 6) : zev X 86 0 [.ref 1, zJ] [] (zHP (zps n D P) O, k) = some (.inl (some (.int (yKnown (D 3) n P).1)), (zHP (zps n D (yKnown (D 3) n P).2) O, k)) := by
  refine b86_0.trans ?_
  unfold yKnown
  by_cases h1 : P.kd = 1
  · have h1' : zps n D P 1 4 = 1 := by rw [zps14, h1]; rfl
    rw [if_pos h1', if_pos h1, zps16, p19 hT h6, zcon_inl]
    refine b86_29.trans ?_
    have e : zff (fun p => decide (P.T 2 (12 * p + 11) = P.va)) (sNp P.T) 0 = yNamed P := rfl
    rw [e, zn_l]
    by_cases h2 : yNamed P = zn
    · rw [if_pos h2, if_pos h2, zl_3, zps15, c80 he, zcon_inl]
      exact b86_44
    · rw [if_neg h2, if_neg h2, c76 hn h, zcon_inl]
      exact b86_49
  · have h1' : ¬ zps n D P 1 4 = 1 := by rw [zps14, zl_1, zi_inj hk (by omega)]; exact h1
    rw [if_neg h1', if_neg h1, zl_1, zps15, c80 he, zcon_inl]
    exact b86_17
end
