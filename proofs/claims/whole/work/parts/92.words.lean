/-! Words: their letters, packed and compared. -/
def zLt (ls : List Nat) : Prop := ∀ c, c ∈ ls → 1 ≤ c ∧ c ≤ 26
theorem yPk_snoc (l : List Nat) (c : Nat) : yPk (l ++ [c]) = 32 * yPk l + c := by
  unfold yPk
  rw [List.foldl_append]
  rfl
theorem yPk_lt : ∀ l : List Nat, zLt l → yPk l < 32 ^ l.length := by
  have g : ∀ (l : List Nat) (a : Nat), zLt l → l.foldl (fun n c => 32 * n + c) a + 1 ≤ (a + 1) * 32 ^ l.length := by
    intro l
    induction l with
    | nil => intro a _; simp
    | cons x t ih =>
      intro a h
      have hx := h x (List.mem_cons_self ..)
      have e := ih (32 * a + x) fun c hc => h c (List.mem_cons_of_mem _ hc)
      rw [List.foldl_cons, List.length_cons, Nat.pow_succ]
      refine Nat.le_trans e ?_
      rw [Nat.mul_comm (32 ^ t.length) 32, ← Nat.mul_assoc]
      exact Nat.mul_le_mul_right _ (by omega)
  intro l h
  have := g l 0 h
  unfold yPk
  omega
theorem yPk_inj : ∀ (n : Nat) (l1 l2 : List Nat), l1.length ≤ n → zLt l1 → zLt l2 → yPk l1 = yPk l2 → l1 = l2 := by
  intro n
  induction n with
  | zero =>
    intro l1 l2 h1 _ z2 e
    have e1 : l1 = [] := List.length_eq_zero_iff.mp (by omega)
    subst e1
    rcases List.eq_nil_or_concat l2 with rfl | ⟨t2, c2, rfl⟩
    · rfl
    · rw [List.concat_eq_append, yPk_snoc] at e
      have := z2 c2 (by simp)
      have e0 : yPk [] = 0 := rfl
      omega
  | succ n ih =>
    intro l1 l2 h1 z1 z2 e
    rcases List.eq_nil_or_concat l1 with rfl | ⟨t1, c1, rfl⟩
    · rcases List.eq_nil_or_concat l2 with rfl | ⟨t2, c2, rfl⟩
      · rfl
      · rw [List.concat_eq_append, yPk_snoc] at e
        have := z2 c2 (by simp)
        have e0 : yPk [] = 0 := rfl
        omega
    · have hc1 := z1 c1 (by simp)
      rcases List.eq_nil_or_concat l2 with rfl | ⟨t2, c2, rfl⟩
      · rw [List.concat_eq_append, yPk_snoc] at e
        have e0 : yPk [] = 0 := rfl
        omega
      · have hc2 := z2 c2 (by simp)
        rw [List.concat_eq_append, List.concat_eq_append, yPk_snoc, yPk_snoc] at e
        have ec : c1 = c2 := by omega
        have et : t1 = t2 := ih t1 t2 (by simp at h1; omega) (fun c hc => z1 c (by simp [hc])) (fun c hc => z2 c (by simp [hc])) (by omega)
        rw [ec, et]
/-- the letters of a token -/
def yWl (B : Nat → Int32) (st nx : Nat) : List Nat := (List.range' st (nx - st)).map fun x => (B x).toNatClampNeg - 96
theorem yLet_is {c : Int32} (h : yLet c = true) : ∃ m, 1 ≤ m ∧ m ≤ 26 ∧ c = zi (96 + m) := by
  unfold yLet at h
  rw [Bool.and_eq_true] at h
  obtain ⟨h1, h2⟩ := h
  have h1' : ¬ c < zi 97 := by
    intro q
    rw [decide_eq_true q] at h1
    exact Bool.noConfusion h1
  have h2' : ¬ zi 122 < c := by
    intro q
    rw [decide_eq_true q] at h2
    exact Bool.noConfusion h2
  rw [Int32.lt_iff_toInt_lt, zi_toInt (by omega)] at h1' h2'
  refine ⟨c.toInt.toNat - 96, by omega, by omega, ?_⟩
  apply Int32.toInt.inj
  rw [zi_toInt (by omega)]
  omega
theorem yWl_cons {B : Nat → Int32} {st nx : Nat} (h : st < nx) : yWl B st nx = ((B st).toNatClampNeg - 96) :: yWl B (st + 1) nx := by
  unfold yWl
  rw [show nx - st = (nx - (st + 1)) + 1 by omega, List.range'_succ, List.map_cons]
theorem yWl_nil {B : Nat → Int32} {st nx : Nat} (h : nx ≤ st) : yWl B st nx = [] := by
  unfold yWl
  rw [show nx - st = 0 by omega]
  rfl
theorem yWl_len {B : Nat → Int32} {st nx : Nat} : (yWl B st nx).length = nx - st := by
  unfold yWl
  rw [List.length_map, List.length_range']
theorem yWl_lt {B : Nat → Int32} {st nx : Nat} (h : ∀ j, st ≤ j → j < nx → yLet (B j) = true) : zLt (yWl B st nx) := by
  intro c hc
  unfold yWl at hc
  rw [List.mem_map] at hc
  obtain ⟨x, hx, e⟩ := hc
  rw [List.mem_range'_1] at hx
  obtain ⟨m, m1, m2, em⟩ := yLet_is (h x hx.1 (by omega))
  rw [em, zi_toNat (by omega)] at e
  omega
theorem yWl_some {B : Nat → Int32} {st nx i : Nat} (hi : st + i < nx) : (yWl B st nx)[i]? = some ((B (st + i)).toNatClampNeg - 96) := by
  unfold yWl
  rw [List.getElem?_map, List.getElem?_range' (by omega)]
  simp
theorem yKl_some {l : List Int32} {i : Nat} (hi : i < l.length) : (l.map fun x => x.toNatClampNeg - 96)[i]? = some ((l.getD i 0).toNatClampNeg - 96) := by
  rw [List.getElem?_map, List.getElem?_eq_getElem hi, List.getD_eq_getElem?_getD, List.getElem?_eq_getElem hi]
  rfl
theorem yWl_get {B : Nat → Int32} {st nx i : Nat} (h : ∀ j, st ≤ j → j < nx → yLet (B j) = true) : (match (yWl B st nx)[i]? with | some c => zi (96 + c) | none => zi 0) = if st + i < nx then B (st + i) else zi 0 := by
  by_cases hi : st + i < nx
  · rw [if_pos hi]
    obtain ⟨m, m1, m2, em⟩ := yLet_is (h (st + i) (by omega) hi)
    have e : (yWl B st nx)[i]? = some ((B (st + i)).toNatClampNeg - 96) := by
      unfold yWl
      rw [List.getElem?_map, List.getElem?_range' (by omega)]
      simp
    rw [e, em, zi_toNat (by omega)]
    show zi (96 + (96 + m - 96)) = _
    congr 1
    omega
  · rw [if_neg hi]
    have e : (yWl B st nx)[i]? = none := by
      rw [List.getElem?_eq_none_iff, yWl_len]
      omega
    rw [e]
theorem yWth_zi {a m : Nat} (h1 : 1 ≤ m) (h2 : m ≤ 26) : yWth (zi a) (zi (96 + m)) = zi (32 * a + m) := by
  unfold yWth
  rw [zi_sub (by omega) (by omega), zi_mul, zi_add, zi_add]
  congr 1
  omega
theorem zgv_pk {B : Nat → Int32} {n : Nat} : ∀ f i a, i + f = n → zgv yWth yLet B n f i (zi a) = zi ((yWl B i (zgo yLet B n f i)).foldl (fun n c => 32 * n + c) a)
  | 0, i, a, h => by
    rw [zgv, zgo, yWl_nil (Nat.le_refl _)]
    rfl
  | f + 1, i, a, h => by
    rw [zgv, zgo]
    by_cases q : i < n ∧ yLet (B i) = true
    · rw [if_pos q, if_pos q]
      obtain ⟨m, m1, m2, em⟩ := yLet_is q.2
      have z := zgo_le yLet B n f (i + 1)
      rw [yWl_cons (by omega), List.foldl_cons, em, yWth_zi m1 m2, zgv_pk f (i + 1) _ (by omega), zi_toNat (by omega)]
      congr 2
      omega
    · rw [if_neg q, if_neg q, yWl_nil (Nat.le_refl _)]
      rfl
/-- a word's letters stand where the token is -/
def zWd (B : Nat → Int32) (P : ZPs) : Prop := P.kd = 1 → P.st < P.nx ∧ P.nx ≤ P.st + 6 ∧ (∀ j, P.st ≤ j → j < P.nx → yLet (B j) = true) ∧ P.va = zi (yPk (yWl B P.st P.nx))
theorem zWd_scan {B : Nat → Int32} {n : Nat} {P : ZPs} (h : P.nx ≤ n) : zWd B (yScan B n P) := by
  have hq : (yAft B n P).nx ≤ n := zgo_n _ _ _ _ _ h
  have hs : (yAft B n P).st = (yAft B n P).nx := rfl
  have hv : (yAft B n P).va = zi 0 := rfl
  unfold yScan
  generalize yAft B n P = Q at hq hs hv
  intro hk
  unfold yTok at hk ⊢
  by_cases h1 : n ≤ Q.nx
  · rw [if_pos h1] at hk
    exact absurd (show 0 = 1 from hk) (by omega)
  · rw [if_neg h1] at hk ⊢
    by_cases h2 : yLet (B Q.nx) = true
    · rw [if_pos h2] at hk ⊢
      have z1 := zgo_le yLet B n (n - Q.nx) Q.nx
      have zin := zgo_in yLet B n (n - Q.nx) Q.nx
      have zv := zgv_pk (B := B) (n := n) (n - Q.nx) Q.nx 0 (by omega)
      have z3 : Q.nx < zgo yLet B n (n - Q.nx) Q.nx := by
        rw [show n - Q.nx = (n - Q.nx - 1) + 1 by omega, zgo, if_pos ⟨by omega, h2⟩]
        have := zgo_le yLet B n (n - Q.nx - 1) (Q.nx + 1)
        omega
      have z6 : zgo yLet B n (n - Q.nx) Q.nx ≤ Q.nx + 6 := by
        have hk' : (if 6 < zgo yLet B n (n - Q.nx) Q.nx - Q.nx then 4 else 1) = 1 := hk
        split at hk' <;> omega
      show Q.st < zgo yLet B n (n - Q.nx) Q.nx ∧ zgo yLet B n (n - Q.nx) Q.nx ≤ Q.st + 6 ∧ (∀ j, Q.st ≤ j → j < zgo yLet B n (n - Q.nx) Q.nx → yLet (B j) = true) ∧ zgv yWth yLet B n (n - Q.nx) Q.nx Q.va = zi (yPk (yWl B Q.st (zgo yLet B n (n - Q.nx) Q.nx)))
      rw [hs, hv, zv]
      exact ⟨z3, z6, fun j a b => (zin j a b).2, rfl⟩
    · rw [if_neg h2] at hk
      exfalso
      by_cases h3 : yDig (B Q.nx) = true
      · rw [if_pos h3] at hk
        have hk' : (if 3 < zgo yDig B n (n - Q.nx) Q.nx - Q.nx then 4 else 2) = 1 := hk
        split at hk' <;> omega
      · rw [if_neg h3] at hk
        have hk' : (if B Q.nx = zi 59 then 3 else 4) = 1 := hk
        split at hk' <;> omega
/-- a keyword's letters -/
def yKl (l : List Int32) : List Nat := l.map fun x => x.toNatClampNeg - 96
theorem yKw_pk {l : List Int32} (h : ∀ x, x ∈ l → yLet x = true) : yKw l = zi (yPk (yKl l)) := by
  have g : ∀ (l : List Int32) (a : Nat), (∀ x, x ∈ l → yLet x = true) → l.foldl yWth (zi a) = zi ((yKl l).foldl (fun n c => 32 * n + c) a) := by
    intro l
    induction l with
    | nil => intro a _; rfl
    | cons x t ih =>
      intro a h
      obtain ⟨m, m1, m2, em⟩ := yLet_is (h x (List.mem_cons_self ..))
      have e : yKl (x :: t) = m :: yKl t := by
        show (x.toNatClampNeg - 96) :: yKl t = _
        rw [em, zi_toNat (by omega)]
        congr 1
        omega
      rw [e, List.foldl_cons, List.foldl_cons, em, yWth_zi m1 m2]
      exact ih _ fun y hy => h y (List.mem_cons_of_mem _ hy)
  exact g l 0 h
/-- the token is the word, letter by letter -/
theorem yIs_iff {B : Nat → Int32} {P : ZPs} {l : List Int32} (W : zWd B P) (hl : ∀ x, x ∈ l → yLet x = true) (h6 : l.length ≤ 6) : yIs P l = true ↔ P.kd = 1 ∧ P.nx - P.st = l.length ∧ ∀ i, i < l.length → B (P.st + i) = l.getD i 0 := by
  unfold yIs
  rw [Bool.and_eq_true, decide_eq_true_iff, decide_eq_true_iff]
  have zk : zLt (yKl l) := by
    intro c hc
    unfold yKl at hc
    rw [List.mem_map] at hc
    obtain ⟨x, hx, e⟩ := hc
    obtain ⟨m, m1, m2, em⟩ := yLet_is (hl x hx)
    rw [em, zi_toNat (by omega)] at e
    omega
  have lk : (yKl l).length = l.length := List.length_map _
  constructor
  · rintro ⟨hk, hv⟩
    obtain ⟨w1, w2, w3, w4⟩ := W hk
    have zw2 := yWl_lt w3
    have b1 := yPk_lt _ zk
    have b2 := yPk_lt _ zw2
    have p1 : 32 ^ (yKl l).length ≤ 32 ^ 6 := Nat.pow_le_pow_right (by omega) (by omega)
    have p2 : 32 ^ (yWl B P.st P.nx).length ≤ 32 ^ 6 := Nat.pow_le_pow_right (by omega) (by rw [yWl_len]; omega)
    rw [w4, yKw_pk hl, zi_inj (by omega) (by omega)] at hv
    have e := yPk_inj _ _ _ (Nat.le_refl _) zw2 zk hv
    have el : P.nx - P.st = l.length := by rw [← yWl_len (B := B), e, lk]
    refine ⟨hk, el, fun i hi => ?_⟩
    have g := yWl_get (i := i) w3
    rw [if_pos (by omega), e] at g
    have e2 : (yKl l)[i]? = some ((l.getD i 0).toNatClampNeg - 96) := by
      unfold yKl
      rw [List.getElem?_map, List.getElem?_eq_getElem hi, List.getD_eq_getElem?_getD, List.getElem?_eq_getElem hi]
      rfl
    rw [e2] at g
    obtain ⟨m, m1, m2, em⟩ := yLet_is (hl (l.getD i 0) (by rw [List.getD_eq_getElem?_getD, List.getElem?_eq_getElem hi]; exact List.getElem_mem hi))
    rw [← g, em, zi_toNat (by omega)]
    show zi (96 + (96 + m - 96)) = _
    congr 1
    omega
  · rintro ⟨hk, el, hb⟩
    obtain ⟨w1, w2, w3, w4⟩ := W hk
    refine ⟨hk, ?_⟩
    rw [w4, yKw_pk hl]
    congr 2
    apply List.ext_getElem?
    intro i
    by_cases hi : i < l.length
    · have e4 : (yKl l)[i]? = some ((l.getD i 0).toNatClampNeg - 96) := yKl_some hi
      rw [yWl_some (by omega), e4, hb i hi]
    · rw [List.getElem?_eq_none_iff.mpr (by rw [yWl_len]; omega), List.getElem?_eq_none_iff.mpr (by rw [lk]; omega)]
