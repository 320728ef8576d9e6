/-! The class's parser: its state, reading a token. -/
/-- next, start, kind, error, value, the error's place, the tables -/
def ZPs : Type := Nat × Nat × Nat × Nat × Int32 × Int32 × ZD2
def ZPs.nx (P : ZPs) : Nat := P.1
def ZPs.st (P : ZPs) : Nat := P.2.1
def ZPs.kd (P : ZPs) : Nat := P.2.2.1
def ZPs.er (P : ZPs) : Nat := P.2.2.2.1
def ZPs.va (P : ZPs) : Int32 := P.2.2.2.2.1
def ZPs.ep (P : ZPs) : Int32 := P.2.2.2.2.2.1
def ZPs.T (P : ZPs) : ZD2 := P.2.2.2.2.2.2
def ZPs.wnx (P : ZPs) (v : Nat) : ZPs := (v, P.st, P.kd, P.er, P.va, P.ep, P.T)
def ZPs.wst (P : ZPs) (v : Nat) : ZPs := (P.nx, v, P.kd, P.er, P.va, P.ep, P.T)
def ZPs.wkd (P : ZPs) (v : Nat) : ZPs := (P.nx, P.st, v, P.er, P.va, P.ep, P.T)
def ZPs.wer (P : ZPs) (v : Nat) : ZPs := (P.nx, P.st, P.kd, v, P.va, P.ep, P.T)
def ZPs.wva (P : ZPs) (v : Int32) : ZPs := (P.nx, P.st, P.kd, P.er, v, P.ep, P.T)
def ZPs.wep (P : ZPs) (v : Int32) : ZPs := (P.nx, P.st, P.kd, P.er, P.va, v, P.T)
def ZPs.wT (P : ZPs) (v : ZD2) : ZPs := (P.nx, P.st, P.kd, P.er, P.va, P.ep, v)
def yRow (d : Nat → Int32) (n : Nat) (P : ZPs) : Nat → Int32 := fun i => if i = 2 then zi n else if i = 3 then zi P.nx else if i = 4 then zi P.kd else if i = 5 then zi P.st else if i = 6 then P.va else if i = 7 then zi P.er else if i = 8 then P.ep else d i
/-- the class's parser stands at P -/
def zps (n : Nat) (D : ZD2) (P : ZPs) : ZD2 := zmt (zrow D 1 (yRow (D 1) n P)) 4 P.T
def ySp (w : Int32) : Bool := decide (w = zi 32)
def yLet (w : Int32) : Bool := !decide (w < zi 97) && !decide (zi 122 < w)
def yDig (w : Int32) : Bool := !decide (w < zi 48) && !decide (zi 57 < w)
def yWth (v w : Int32) : Int32 := v * zi 32 + ((w - zi 97) + zi 1)
def yTen (v w : Int32) : Int32 := v * zi 10 + (w - zi 48)
def zgo (p : Int32 → Bool) (B : Nat → Int32) (n : Nat) : Nat → Nat → Nat
  | 0, i => i
  | f + 1, i => if i < n ∧ p (B i) = true then zgo p B n f (i + 1) else i
def zgv (g : Int32 → Int32 → Int32) (p : Int32 → Bool) (B : Nat → Int32) (n : Nat) : Nat → Nat → Int32 → Int32
  | 0, _, v => v
  | f + 1, i, v => if i < n ∧ p (B i) = true then zgv g p B n f (i + 1) (g v (B i)) else v
theorem zgo_le (p : Int32 → Bool) (B : Nat → Int32) (n : Nat) : ∀ f i, i ≤ zgo p B n f i
  | 0, i => Nat.le_refl _
  | f + 1, i => by
    rw [zgo]
    split
    · exact Nat.le_trans (Nat.le_succ i) (zgo_le p B n f (i + 1))
    · exact Nat.le_refl _
theorem zgo_n (p : Int32 → Bool) (B : Nat → Int32) (n : Nat) : ∀ f i, i ≤ n → zgo p B n f i ≤ n
  | 0, i, h => h
  | f + 1, i, h => by
    rw [zgo]
    split
    · rename_i q
      exact zgo_n p B n f (i + 1) q.1
    · exact h
theorem zgo_in (p : Int32 → Bool) (B : Nat → Int32) (n : Nat) : ∀ f i j, i ≤ j → j < zgo p B n f i → j < n ∧ p (B j) = true
  | 0, i, j, h1, h2 => by rw [zgo] at h2; omega
  | f + 1, i, j, h1, h2 => by
    rw [zgo] at h2
    split at h2
    · rename_i q
      by_cases e : i = j
      · rw [← e]; exact q
      · exact zgo_in p B n f (i + 1) j (by omega) h2
    · omega
theorem zgo_end (p : Int32 → Bool) (B : Nat → Int32) (n : Nat) : ∀ f i, i + f = n → zgo p B n f i < n → p (B (zgo p B n f i)) = false
  | 0, i, h, h2 => by rw [zgo] at h2; omega
  | f + 1, i, h, h2 => by
    rw [zgo] at h2 ⊢
    split at h2
    · rename_i q
      rw [if_pos q]
      exact zgo_end p B n f (i + 1) (by omega) h2
    · rename_i q
      rw [if_neg q]
      cases hp : p (B i)
      · rfl
      · exact absurd ⟨h2, hp⟩ q
section
variable {X : ZX} {D : ZD2} {O : ZO2} {k : Nat × Nat × Nat} {n : Nat} {P : ZPs}
theorem zps_1 : zps n D P 1 = yRow (D 1) n P := (zmt_o (by omega)).trans (zrow_self _ _ _)
theorem zps_3 : zps n D P 3 = D 3 := (zmt_o (by omega)).trans (zrow_ne (by omega))
theorem zps_2 : zps n D P 2 = D 2 := (zmt_o (by omega)).trans (zrow_ne (by omega))
theorem zps12 : zps n D P 1 2 = zi n := congrFun zps_1 2
theorem zps13 : zps n D P 1 3 = zi P.nx := congrFun zps_1 3
theorem zps14 : zps n D P 1 4 = zi P.kd := congrFun zps_1 4
theorem zps15 : zps n D P 1 5 = zi P.st := congrFun zps_1 5
theorem zps16 : zps n D P 1 6 = P.va := congrFun zps_1 6
theorem zps17 : zps n D P 1 7 = zi P.er := congrFun zps_1 7
theorem zps18 : zps n D P 1 8 = P.ep := congrFun zps_1 8
theorem zps_mk {d : Nat → Int32} {j : Nat} {v : Int32} {Q : ZPs} (hT : Q.T = P.T) (h : upd (yRow d n P) j v = yRow d n Q) (hd : D 1 = d) : zw (zps n D P) 1 j v = zps n D Q := by
  unfold zps
  rw [zw_Mo (by omega), zw_zrow, zrow_zrow, zrow_self, hT]
  subst hd
  have e : (zw (zrow D 1 (yRow (D 1) n P)) 1 j v) 1 = yRow (D 1) n Q := by
    rw [zw_upd, zrow_self]
    exact h
  first
  | (rw [← h]; rfl)
  | (rw [← h])
theorem zps3w {v : Nat} : zw (zps n D P) 1 3 (zi v) = zps n D (P.wnx (v)) := zps_mk rfl (by funext i; unfold upd yRow; by_cases h : i = 3 <;> simp [h] <;> rfl) rfl
theorem zps4w {v : Nat} : zw (zps n D P) 1 4 (zi v) = zps n D (P.wkd (v)) := zps_mk rfl (by funext i; unfold upd yRow; by_cases h : i = 4 <;> simp [h] <;> rfl) rfl
theorem zps5w {v : Nat} : zw (zps n D P) 1 5 (zi v) = zps n D (P.wst (v)) := zps_mk rfl (by funext i; unfold upd yRow; by_cases h : i = 5 <;> simp [h] <;> rfl) rfl
theorem zps6w {v : Int32} : zw (zps n D P) 1 6 v = zps n D (P.wva (v)) := zps_mk rfl (by funext i; unfold upd yRow; by_cases h : i = 6 <;> simp [h] <;> rfl) rfl
theorem zps7w {v : Nat} : zw (zps n D P) 1 7 (zi v) = zps n D (P.wer (v)) := zps_mk rfl (by funext i; unfold upd yRow; by_cases h : i = 7 <;> simp [h] <;> rfl) rfl
theorem zps8w {v : Int32} : zw (zps n D P) 1 8 v = zps n D (P.wep (v)) := zps_mk rfl (by funext i; unfold upd yRow; by_cases h : i = 8 <;> simp [h] <;> rfl) rfl
theorem c5 {w : Int32} : zev X 5 0 [.int w] [] (zHP D O, k) = some (.inl (some (.int (zb (yLet w)))), (zHP D O, k)) := by
  rw [b5_0, zl_97, zl_122, zl_0, zl_1]
  unfold yLet
  by_cases h1 : w < zi 97
  · rw [if_pos h1, decide_eq_true h1]; rfl
  · rw [if_neg h1, decide_eq_false h1]
    by_cases h2 : zi 122 < w
    · rw [if_pos h2, decide_eq_true h2]; rfl
    · rw [if_neg h2, decide_eq_false h2]; rfl
theorem c7 {w : Int32} : zev X 7 0 [.int w] [] (zHP D O, k) = some (.inl (some (.int (zb (yDig w)))), (zHP D O, k)) := by
  rw [b7_0, zl_48, zl_57, zl_0, zl_1]
  unfold yDig
  by_cases h1 : w < zi 48
  · rw [if_pos h1, decide_eq_true h1]; rfl
  · rw [if_neg h1, decide_eq_false h1]
    by_cases h2 : zi 57 < w
    · rw [if_pos h2, decide_eq_true h2]; rfl
    · rw [if_neg h2, decide_eq_false h2]; rfl
theorem c6 {v w : Int32} : zev X 6 0 [.int v, .int w] [] (zHP D O, k) = some (.inl (some (.int (yWth v w))), (zHP D O, k)) := b6_0
theorem c4 {i : Nat} (h : i < 600) : zev X 4 0 [.ref 2, .int (zi i)] [] (zHP D O, k) = some (.inl (some (.int (D 3 i))), (zHP D O, k)) := by
  refine (b4_0 zisB_2).trans ?_
  have h1 : zi i < Int32.ofNat 600 := by
    show zi i < zi 600
    rw [zi_lt (by omega) (by omega)]; exact h
  have h2 : ¬ zi i < zi 0 := by rw [zi_lt (by omega) (by omega)]; omega
  rw [zl_0, if_neg h2, if_pos h1, zi_toNat (show i < 2147483648 by omega), if_neg (fun q => q.elim h2 (by omega))]
/-- the spaces before a token -/
theorem c76a (hn : n ≤ 600) : ∀ f (P : ZPs), P.nx + f = n → zev X 76 0 [.ref 1] [] (zHP (zps n D P) O, k) = zev X 76 40 [.ref 1] [] (zHP (zps n D (P.wnx (zgo ySp (D 3) n f P.nx))) O, k)
  | 0, P, h => by
    have h1 : ¬ P.nx < n := by omega
    refine b76_0.trans ?_
    simp (disch := first | assumption | omega) only [zps13, zps12, zi_lt, h1, if_false]
    rfl
  | f + 1, P, h => by
    have h1 : P.nx < n := by omega
    refine b76_0.trans ?_
    simp (disch := first | assumption | omega) only [zps13, zps12, zi_lt, h1, if_true, c4, ↓zn_l, zl_0, zl_1, zl_2, zl_3, zl_4, zl_5, zl_6, zl_7, zl_8, zl_9, zl_10, zl_11, zl_12, zl_13, zl_14, zl_15, zl_16, zl_17, zl_18, zl_19, zl_20, zl_21, zl_22, zl_23, zl_24, zl_25, zl_26, zl_27, zl_28, zl_29, zl_30, zl_31, zl_32, zl_36, zl_46, zl_48, zl_50, zl_57, zl_63, zl_64, zl_72, zl_97, zl_99, zl_100, zl_101, zl_122, zl_127, zl_200, zl_255, zl_406, zl_534, zl_540, zl_600, zl_9999, zl_33, zl_34, zl_35, zl_37, zl_38, zl_39, zl_40, zl_41, zl_42, zl_43, zl_44, zl_45, zl_47, zl_49, zl_52, zl_53, zl_54, zl_55, zl_58, zl_59, zl_60, zl_61, zl_62, zl_65, zl_70, zl_71, zl_98, zl_102, zl_103, zl_104, zl_105, zl_110, zl_111, zl_115, zl_120, zl_123, zl_126, zl_128, zl_256, zl_1000, zl_1024, zcon_inl, zcon_inr, Option.toList_some, Option.toList_none, List.cons_append, List.nil_append, List.append_nil, Nat.add_zero, zbind_some, zps_3]
    refine b76_22.trans ?_
    rw [zgo]
    by_cases h2 : D 3 P.nx = zi 32
    · have q : P.nx < n ∧ ySp (D 3 P.nx) = true := ⟨h1, decide_eq_true h2⟩
      rw [zl_32, if_pos h2, if_pos q, zps13, zl_1, zi_add, zps3w, c76a hn f (P.wnx (P.nx + 1)) (by show P.nx + 1 + f = n; omega)]
      rfl
    · have q : ¬ (P.nx < n ∧ ySp (D 3 P.nx) = true) := fun q => h2 (of_decide_eq_true q.2)
      rw [zl_32, if_neg h2, if_neg q]
      rfl
theorem c76b (hn : n ≤ 600) : ∀ f (P : ZPs), P.nx + f = n → zev X 76 89 [.ref 1] [] (zHP (zps n D P) O, k) = zev X 76 152 [.ref 1] [] (zHP (zps n D ((P.wnx (zgo yLet (D 3) n f P.nx)).wva (zgv yWth yLet (D 3) n f P.nx P.va))) O, k)
  | 0, P, h => by
    have h1 : ¬ P.nx < n := by omega
    refine b76_89.trans ?_
    simp (disch := first | assumption | omega) only [zps13, zps12, zi_lt, h1, if_false]
    rfl
  | f + 1, P, h => by
    have h1 : P.nx < n := by omega
    refine b76_89.trans ?_
    simp (disch := first | assumption | omega) only [zps13, zps12, zi_lt, h1, if_true, c4, ↓zn_l, zl_0, zl_1, zl_2, zl_3, zl_4, zl_5, zl_6, zl_7, zl_8, zl_9, zl_10, zl_11, zl_12, zl_13, zl_14, zl_15, zl_16, zl_17, zl_18, zl_19, zl_20, zl_21, zl_22, zl_23, zl_24, zl_25, zl_26, zl_27, zl_28, zl_29, zl_30, zl_31, zl_32, zl_36, zl_46, zl_48, zl_50, zl_57, zl_63, zl_64, zl_72, zl_97, zl_99, zl_100, zl_101, zl_122, zl_127, zl_200, zl_255, zl_406, zl_534, zl_540, zl_600, zl_9999, zl_33, zl_34, zl_35, zl_37, zl_38, zl_39, zl_40, zl_41, zl_42, zl_43, zl_44, zl_45, zl_47, zl_49, zl_52, zl_53, zl_54, zl_55, zl_58, zl_59, zl_60, zl_61, zl_62, zl_65, zl_70, zl_71, zl_98, zl_102, zl_103, zl_104, zl_105, zl_110, zl_111, zl_115, zl_120, zl_123, zl_126, zl_128, zl_256, zl_1000, zl_1024, zcon_inl, zcon_inr, Option.toList_some, Option.toList_none, List.cons_append, List.nil_append, List.append_nil, Nat.add_zero, zbind_some, zps_3]
    refine b76_111.trans ?_
    rw [c5, zcon_inl]
    refine b76_114.trans ?_
    rw [zgo, zgv]
    cases h2 : yLet (D 3 P.nx)
    · have q : ¬ (P.nx < n ∧ false = true) := fun q => Bool.noConfusion q.2
      rw [zl_0, if_pos zb_f, if_neg q, if_neg q]
      rfl
    · have q : P.nx < n ∧ true = true := ⟨h1, rfl⟩
      rw [if_pos q, if_pos q, zl_0, if_neg (by rw [zb_0]; exact Bool.noConfusion)]
      simp (disch := first | assumption | omega) only [zps13, zps16, c4, ↓zn_l, zl_0, zl_1, zl_2, zl_3, zl_4, zl_5, zl_6, zl_7, zl_8, zl_9, zl_10, zl_11, zl_12, zl_13, zl_14, zl_15, zl_16, zl_17, zl_18, zl_19, zl_20, zl_21, zl_22, zl_23, zl_24, zl_25, zl_26, zl_27, zl_28, zl_29, zl_30, zl_31, zl_32, zl_36, zl_46, zl_48, zl_50, zl_57, zl_63, zl_64, zl_72, zl_97, zl_99, zl_100, zl_101, zl_122, zl_127, zl_200, zl_255, zl_406, zl_534, zl_540, zl_600, zl_9999, zl_33, zl_34, zl_35, zl_37, zl_38, zl_39, zl_40, zl_41, zl_42, zl_43, zl_44, zl_45, zl_47, zl_49, zl_52, zl_53, zl_54, zl_55, zl_58, zl_59, zl_60, zl_61, zl_62, zl_65, zl_70, zl_71, zl_98, zl_102, zl_103, zl_104, zl_105, zl_110, zl_111, zl_115, zl_120, zl_123, zl_126, zl_128, zl_256, zl_1000, zl_1024, zcon_inl, zcon_inr, Option.toList_some, Option.toList_none, List.cons_append, List.nil_append, List.append_nil, Nat.add_zero, zbind_some, zps_3]
      refine b76_133.trans ?_
      rw [c6, zcon_inl]
      refine b76_136.trans ?_
      rw [zps6w, zps13, zl_1, zi_add, zps3w]
      exact c76b hn f ((P.wnx (P.nx + 1)).wva (yWth P.va (D 3 P.nx))) (by show P.nx + 1 + f = n; omega)
theorem c76c (hn : n ≤ 600) : ∀ f (P : ZPs), P.nx + f = n → zev X 76 195 [.ref 1] [] (zHP (zps n D P) O, k) = zev X 76 262 [.ref 1] [] (zHP (zps n D ((P.wnx (zgo yDig (D 3) n f P.nx)).wva (zgv yTen yDig (D 3) n f P.nx P.va))) O, k)
  | 0, P, h => by
    have h1 : ¬ P.nx < n := by omega
    refine b76_195.trans ?_
    simp (disch := first | assumption | omega) only [zps13, zps12, zi_lt, h1, if_false]
    rfl
  | f + 1, P, h => by
    have h1 : P.nx < n := by omega
    refine b76_195.trans ?_
    simp (disch := first | assumption | omega) only [zps13, zps12, zi_lt, h1, if_true, c4, ↓zn_l, zl_0, zl_1, zl_2, zl_3, zl_4, zl_5, zl_6, zl_7, zl_8, zl_9, zl_10, zl_11, zl_12, zl_13, zl_14, zl_15, zl_16, zl_17, zl_18, zl_19, zl_20, zl_21, zl_22, zl_23, zl_24, zl_25, zl_26, zl_27, zl_28, zl_29, zl_30, zl_31, zl_32, zl_36, zl_46, zl_48, zl_50, zl_57, zl_63, zl_64, zl_72, zl_97, zl_99, zl_100, zl_101, zl_122, zl_127, zl_200, zl_255, zl_406, zl_534, zl_540, zl_600, zl_9999, zl_33, zl_34, zl_35, zl_37, zl_38, zl_39, zl_40, zl_41, zl_42, zl_43, zl_44, zl_45, zl_47, zl_49, zl_52, zl_53, zl_54, zl_55, zl_58, zl_59, zl_60, zl_61, zl_62, zl_65, zl_70, zl_71, zl_98, zl_102, zl_103, zl_104, zl_105, zl_110, zl_111, zl_115, zl_120, zl_123, zl_126, zl_128, zl_256, zl_1000, zl_1024, zcon_inl, zcon_inr, Option.toList_some, Option.toList_none, List.cons_append, List.nil_append, List.append_nil, Nat.add_zero, zbind_some, zps_3]
    refine b76_217.trans ?_
    rw [c7, zcon_inl]
    refine b76_220.trans ?_
    rw [zgo, zgv]
    cases h2 : yDig (D 3 P.nx)
    · have q : ¬ (P.nx < n ∧ false = true) := fun q => Bool.noConfusion q.2
      rw [zl_0, if_pos zb_f, if_neg q, if_neg q]
      rfl
    · have q : P.nx < n ∧ true = true := ⟨h1, rfl⟩
      rw [if_pos q, if_pos q, zl_0, if_neg (by rw [zb_0]; exact Bool.noConfusion)]
      simp (disch := first | assumption | omega) only [zps13, zps16, c4, ↓zn_l, zl_0, zl_1, zl_2, zl_3, zl_4, zl_5, zl_6, zl_7, zl_8, zl_9, zl_10, zl_11, zl_12, zl_13, zl_14, zl_15, zl_16, zl_17, zl_18, zl_19, zl_20, zl_21, zl_22, zl_23, zl_24, zl_25, zl_26, zl_27, zl_28, zl_29, zl_30, zl_31, zl_32, zl_36, zl_46, zl_48, zl_50, zl_57, zl_63, zl_64, zl_72, zl_97, zl_99, zl_100, zl_101, zl_122, zl_127, zl_200, zl_255, zl_406, zl_534, zl_540, zl_600, zl_9999, zl_33, zl_34, zl_35, zl_37, zl_38, zl_39, zl_40, zl_41, zl_42, zl_43, zl_44, zl_45, zl_47, zl_49, zl_52, zl_53, zl_54, zl_55, zl_58, zl_59, zl_60, zl_61, zl_62, zl_65, zl_70, zl_71, zl_98, zl_102, zl_103, zl_104, zl_105, zl_110, zl_111, zl_115, zl_120, zl_123, zl_126, zl_128, zl_256, zl_1000, zl_1024, zcon_inl, zcon_inr, Option.toList_some, Option.toList_none, List.cons_append, List.nil_append, List.append_nil, Nat.add_zero, zbind_some, zps_3]
      refine b76_242.trans ?_
      rw [zps6w, zps13, zl_1, zi_add, zps3w]
      exact c76c hn f ((P.wnx (P.nx + 1)).wva (yTen P.va (D 3 P.nx))) (by show P.nx + 1 + f = n; omega)
/-- the next token -/
def yTok (B : Nat → Int32) (n : Nat) (P : ZPs) : ZPs :=
  if n ≤ P.nx then (P.wkd (0))
  else if yLet (B P.nx) = true then (((P.wnx (zgo yLet B n (n - P.nx) P.nx)).wva (zgv yWth yLet B n (n - P.nx) P.nx P.va)).wkd (if 6 < zgo yLet B n (n - P.nx) P.nx - P.nx then 4 else 1))
  else if yDig (B P.nx) = true then (((P.wnx (zgo yDig B n (n - P.nx) P.nx)).wva (zgv yTen yDig B n (n - P.nx) P.nx P.va)).wkd (if 3 < zgo yDig B n (n - P.nx) P.nx - P.nx then 4 else 2))
  else ((P.wnx (P.nx + 1)).wkd (if B P.nx = zi 59 then 3 else 4))
def yAft (B : Nat → Int32) (n : Nat) (P : ZPs) : ZPs := (((P.wnx (zgo ySp B n (n - P.nx) P.nx)).wst (zgo ySp B n (n - P.nx) P.nx)).wva (zi 0))
def yScan (B : Nat → Int32) (n : Nat) (P : ZPs) : ZPs := yTok B n (yAft B n P)
theorem c76 (hn : n ≤ 600) (h : P.nx ≤ n) : zev X 76 0 [.ref 1] [] (zHP (zps n D P) O, k) = some (.inl none, (zHP (zps n D (yScan (D 3) n P)) O, k)) := by
  rw [c76a hn (n - P.nx) P (by omega)]
  refine b76_40.trans ?_
  simp only [zps13, zps5w, zl_0, zps6w]
  have e : ((P.wnx (zgo ySp (D 3) n (n - P.nx) P.nx)).wst (P.wnx (zgo ySp (D 3) n (n - P.nx) P.nx)).nx).wva (zi 0) = yAft (D 3) n P := rfl
  rw [e]
  have hq : (yAft (D 3) n P).nx ≤ n := zgo_n _ _ _ _ _ h
  have hs : (yAft (D 3) n P).st = (yAft (D 3) n P).nx := rfl
  unfold yScan
  generalize yAft (D 3) n P = Q at hq hs
  rw [zps12]
  unfold yTok
  by_cases h1 : n ≤ Q.nx
  · have h2 : ¬ Q.nx < n := by omega
    simp (disch := first | assumption | omega) only [zi_lt, h1, h2, if_false, if_true, zps4w]
  · have h2 : Q.nx < n := by omega
    simp (disch := first | assumption | omega) only [zi_lt, h1, h2, if_false, if_true, c4, ↓zn_l, zl_0, zl_1, zl_2, zl_3, zl_4, zl_5, zl_6, zl_7, zl_8, zl_9, zl_10, zl_11, zl_12, zl_13, zl_14, zl_15, zl_16, zl_17, zl_18, zl_19, zl_20, zl_21, zl_22, zl_23, zl_24, zl_25, zl_26, zl_27, zl_28, zl_29, zl_30, zl_31, zl_32, zl_36, zl_46, zl_48, zl_50, zl_57, zl_63, zl_64, zl_72, zl_97, zl_99, zl_100, zl_101, zl_122, zl_127, zl_200, zl_255, zl_406, zl_534, zl_540, zl_600, zl_9999, zl_33, zl_34, zl_35, zl_37, zl_38, zl_39, zl_40, zl_41, zl_42, zl_43, zl_44, zl_45, zl_47, zl_49, zl_52, zl_53, zl_54, zl_55, zl_58, zl_59, zl_60, zl_61, zl_62, zl_65, zl_70, zl_71, zl_98, zl_102, zl_103, zl_104, zl_105, zl_110, zl_111, zl_115, zl_120, zl_123, zl_126, zl_128, zl_256, zl_1000, zl_1024, zcon_inl, zcon_inr, Option.toList_some, Option.toList_none, List.cons_append, List.nil_append, List.append_nil, Nat.add_zero, zbind_some, zps_3]
    refine b76_83.trans ?_
    rw [c5, zcon_inl]
    refine b76_86.trans ?_
    cases h3 : yLet (D 3 Q.nx)
    · rw [zl_0, if_pos zb_f, if_neg Bool.false_ne_true, zps13, c4 (by omega), zcon_inl, zps_3]
      refine b76_189.trans ?_
      rw [c7, zcon_inl]
      refine b76_192.trans ?_
      cases h4 : yDig (D 3 Q.nx)
      · rw [zl_0, if_pos zb_f, if_neg Bool.false_ne_true, zps13, c4 (by omega), zcon_inl, zps_3]
        refine b76_299.trans ?_
        rw [zl_59, zl_3, zl_4]
        by_cases h5 : D 3 Q.nx = zi 59
        · rw [if_pos h5, if_pos h5]
          refine b76_309.trans ?_
          rw [zps4w, zps13, zl_1, zi_add, zps3w]
          rfl
        · rw [if_neg h5, if_neg h5]
          refine b76_309.trans ?_
          rw [zps4w, zps13, zl_1, zi_add, zps3w]
          rfl
      · rw [zl_0, if_neg (by rw [zb_0]; exact Bool.noConfusion), if_pos rfl, c76c hn (n - Q.nx) Q (by omega)]
        refine b76_262.trans ?_
        have g1 := zgo_le yDig (D 3) n (n - Q.nx) Q.nx
        have g2 := zgo_n yDig (D 3) n (n - Q.nx) Q.nx hq
        generalize zgo yDig (D 3) n (n - Q.nx) Q.nx = z at g1 g2 ⊢
        generalize zgv yTen yDig (D 3) n (n - Q.nx) Q.nx Q.va = v
        simp only [zps13, zps15]
        rw [show ((Q.wnx z).wva v).nx = z from rfl, show ((Q.wnx z).wva v).st = Q.nx from hs, zi_sub g1 (by omega), zl_3, zl_4, zl_2, zps4w, zps4w]
        have e3 := zi_lt (a := 3) (b := z - Q.nx) (by omega) (by omega)
        simp only [e3]
        split <;> rfl
    · rw [zl_0, if_neg (by rw [zb_0]; exact Bool.noConfusion), if_pos rfl, c76b hn (n - Q.nx) Q (by omega)]
      refine b76_152.trans ?_
      have g1 := zgo_le yLet (D 3) n (n - Q.nx) Q.nx
      have g2 := zgo_n yLet (D 3) n (n - Q.nx) Q.nx hq
      generalize zgo yLet (D 3) n (n - Q.nx) Q.nx = z at g1 g2 ⊢
      generalize zgv yWth yLet (D 3) n (n - Q.nx) Q.nx Q.va = v
      simp only [zps13, zps15]
      rw [show ((Q.wnx z).wva v).nx = z from rfl, show ((Q.wnx z).wva v).st = Q.nx from hs, zi_sub g1 (by omega), zl_6, zl_4, zl_1, zps4w, zps4w]
      have e3 := zi_lt (a := 6) (b := z - Q.nx) (by omega) (by omega)
      simp only [e3]
      split <;> rfl
/-- the first error stays -/
def yFailAt (P : ZPs) (c : Nat) (q : Int32) : ZPs := if P.er = 0 then ((P.wer (c)).wep (q)) else P
theorem c80 {c : Nat} {q : Int32} (he : P.er < 2147483648) : zev X 80 0 [.ref 1, .int (zi c), .int q] [] (zHP (zps n D P) O, k) = some (.inl (some (.int zn)), (zHP (zps n D (yFailAt P c q)) O, k)) := by
  refine b80_0.trans ?_
  unfold yFailAt
  by_cases h : P.er = 0
  · have h' : zps n D P 1 7 = 0 := by rw [zps17, h]; rfl
    rw [if_pos h, if_pos h', zps7w, zps8w]
    rfl
  · have h' : ¬ zps n D P 1 7 = 0 := by rw [zps17, zl_0, zi_inj he (by omega)]; exact h
    rw [if_neg h, if_neg h']
    rfl
end
