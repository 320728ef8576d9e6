/-! Ways to run block rows: counts as ints, tables of a machine, loops. -/
/-- a count as an int -/
def zi (n : Nat) : Int32 := Int32.ofNat n
def zn : Int32 := -1
theorem zn_l : (-1 : Int32) = zn := rfl
theorem zl_0 : (0 : Int32) = zi 0 := rfl
theorem zl_1 : (1 : Int32) = zi 1 := rfl
theorem zl_2 : (2 : Int32) = zi 2 := rfl
theorem zl_3 : (3 : Int32) = zi 3 := rfl
theorem zl_4 : (4 : Int32) = zi 4 := rfl
theorem zl_5 : (5 : Int32) = zi 5 := rfl
theorem zl_6 : (6 : Int32) = zi 6 := rfl
theorem zl_7 : (7 : Int32) = zi 7 := rfl
theorem zl_8 : (8 : Int32) = zi 8 := rfl
theorem zl_9 : (9 : Int32) = zi 9 := rfl
theorem zl_10 : (10 : Int32) = zi 10 := rfl
theorem zl_11 : (11 : Int32) = zi 11 := rfl
theorem zl_12 : (12 : Int32) = zi 12 := rfl
theorem zl_13 : (13 : Int32) = zi 13 := rfl
theorem zl_14 : (14 : Int32) = zi 14 := rfl
theorem zl_15 : (15 : Int32) = zi 15 := rfl
theorem zl_16 : (16 : Int32) = zi 16 := rfl
theorem zl_17 : (17 : Int32) = zi 17 := rfl
theorem zl_18 : (18 : Int32) = zi 18 := rfl
theorem zl_19 : (19 : Int32) = zi 19 := rfl
theorem zl_20 : (20 : Int32) = zi 20 := rfl
theorem zl_21 : (21 : Int32) = zi 21 := rfl
theorem zl_22 : (22 : Int32) = zi 22 := rfl
theorem zl_23 : (23 : Int32) = zi 23 := rfl
theorem zl_24 : (24 : Int32) = zi 24 := rfl
theorem zl_25 : (25 : Int32) = zi 25 := rfl
theorem zl_26 : (26 : Int32) = zi 26 := rfl
theorem zl_27 : (27 : Int32) = zi 27 := rfl
theorem zl_28 : (28 : Int32) = zi 28 := rfl
theorem zl_29 : (29 : Int32) = zi 29 := rfl
theorem zl_30 : (30 : Int32) = zi 30 := rfl
theorem zl_31 : (31 : Int32) = zi 31 := rfl
theorem zl_32 : (32 : Int32) = zi 32 := rfl
theorem zl_36 : (36 : Int32) = zi 36 := rfl
theorem zl_46 : (46 : Int32) = zi 46 := rfl
theorem zl_48 : (48 : Int32) = zi 48 := rfl
theorem zl_50 : (50 : Int32) = zi 50 := rfl
theorem zl_57 : (57 : Int32) = zi 57 := rfl
theorem zl_63 : (63 : Int32) = zi 63 := rfl
theorem zl_64 : (64 : Int32) = zi 64 := rfl
theorem zl_72 : (72 : Int32) = zi 72 := rfl
theorem zl_97 : (97 : Int32) = zi 97 := rfl
theorem zl_99 : (99 : Int32) = zi 99 := rfl
theorem zl_100 : (100 : Int32) = zi 100 := rfl
theorem zl_101 : (101 : Int32) = zi 101 := rfl
theorem zl_122 : (122 : Int32) = zi 122 := rfl
theorem zl_127 : (127 : Int32) = zi 127 := rfl
theorem zl_200 : (200 : Int32) = zi 200 := rfl
theorem zl_255 : (255 : Int32) = zi 255 := rfl
theorem zl_406 : (406 : Int32) = zi 406 := rfl
theorem zl_534 : (534 : Int32) = zi 534 := rfl
theorem zl_540 : (540 : Int32) = zi 540 := rfl
theorem zl_600 : (600 : Int32) = zi 600 := rfl
theorem zl_9999 : (9999 : Int32) = zi 9999 := rfl
theorem zl_33 : (33 : Int32) = zi 33 := rfl
theorem zl_34 : (34 : Int32) = zi 34 := rfl
theorem zl_35 : (35 : Int32) = zi 35 := rfl
theorem zl_37 : (37 : Int32) = zi 37 := rfl
theorem zl_38 : (38 : Int32) = zi 38 := rfl
theorem zl_39 : (39 : Int32) = zi 39 := rfl
theorem zl_40 : (40 : Int32) = zi 40 := rfl
theorem zl_41 : (41 : Int32) = zi 41 := rfl
theorem zl_42 : (42 : Int32) = zi 42 := rfl
theorem zl_43 : (43 : Int32) = zi 43 := rfl
theorem zl_44 : (44 : Int32) = zi 44 := rfl
theorem zl_45 : (45 : Int32) = zi 45 := rfl
theorem zl_47 : (47 : Int32) = zi 47 := rfl
theorem zl_49 : (49 : Int32) = zi 49 := rfl
theorem zl_52 : (52 : Int32) = zi 52 := rfl
theorem zl_53 : (53 : Int32) = zi 53 := rfl
theorem zl_54 : (54 : Int32) = zi 54 := rfl
theorem zl_55 : (55 : Int32) = zi 55 := rfl
theorem zl_58 : (58 : Int32) = zi 58 := rfl
theorem zl_59 : (59 : Int32) = zi 59 := rfl
theorem zl_60 : (60 : Int32) = zi 60 := rfl
theorem zl_61 : (61 : Int32) = zi 61 := rfl
theorem zl_62 : (62 : Int32) = zi 62 := rfl
theorem zl_65 : (65 : Int32) = zi 65 := rfl
theorem zl_70 : (70 : Int32) = zi 70 := rfl
theorem zl_71 : (71 : Int32) = zi 71 := rfl
theorem zl_98 : (98 : Int32) = zi 98 := rfl
theorem zl_102 : (102 : Int32) = zi 102 := rfl
theorem zl_103 : (103 : Int32) = zi 103 := rfl
theorem zl_104 : (104 : Int32) = zi 104 := rfl
theorem zl_105 : (105 : Int32) = zi 105 := rfl
theorem zl_110 : (110 : Int32) = zi 110 := rfl
theorem zl_111 : (111 : Int32) = zi 111 := rfl
theorem zl_115 : (115 : Int32) = zi 115 := rfl
theorem zl_120 : (120 : Int32) = zi 120 := rfl
theorem zl_123 : (123 : Int32) = zi 123 := rfl
theorem zl_126 : (126 : Int32) = zi 126 := rfl
theorem zl_128 : (128 : Int32) = zi 128 := rfl
theorem zl_256 : (256 : Int32) = zi 256 := rfl
theorem zl_1000 : (1000 : Int32) = zi 1000 := rfl
theorem zl_1024 : (1024 : Int32) = zi 1024 := rfl
theorem zi_toNat {n : Nat} (h : n < 2147483648) : (zi n).toNatClampNeg = n := Int32.toNatClampNeg_ofNat_of_lt h
theorem zi_add (a b : Nat) : zi a + zi b = zi (a + b) := (Int32.ofNat_add a b).symm
theorem zi_mul (a b : Nat) : zi a * zi b = zi (a * b) := (Int32.ofNat_mul a b).symm
theorem zi_lt {a b : Nat} (ha : a < 2147483648) (hb : b < 2147483648) : (zi a < zi b) = (a < b) := propext (Int32.ofNat_lt_iff_lt ha hb)
theorem zi_toInt {n : Nat} (h : n < 2147483648) : (zi n).toInt = n := Int32.toInt_ofNat_of_lt h
theorem zi_inj {a b : Nat} (ha : a < 2147483648) (hb : b < 2147483648) : (zi a = zi b) = (a = b) := propext ⟨fun h => by
  have := congrArg Int32.toNatClampNeg h
  rwa [zi_toNat ha, zi_toNat hb] at this, fun h => by rw [h]⟩
theorem zn_toInt : zn.toInt = -1 := by decide
theorem zi_ne_zn {a : Nat} (ha : a < 2147483648) : (zi a = zn) = False := eq_false fun h => by
  have := congrArg Int32.toInt h
  rw [zi_toInt ha, zn_toInt] at this
  omega
theorem zn_ne_zi {a : Nat} (ha : a < 2147483648) : (zn = zi a) = False := eq_false fun h => by
  have := zi_ne_zn ha
  exact this ▸ h.symm
theorem zn_lt_zi {a : Nat} (ha : a < 2147483648) : (zn < zi a) = True := eq_true (Int32.lt_iff_toInt_lt.mpr (by rw [zi_toInt ha, zn_toInt]; omega))
theorem zi_lt_zn {a : Nat} (ha : a < 2147483648) : (zi a < zn) = False := eq_false fun h => by
  have := Int32.lt_iff_toInt_lt.mp h
  rw [zi_toInt ha, zn_toInt] at this
  omega
theorem zi_sub {a b : Nat} (h : b ≤ a) (ha : a < 2147483648) : zi a - zi b = zi (a - b) := by
  have e : zi a = zi (a - b) + zi b := by rw [zi_add]; congr 1; omega
  rw [e, Int32.add_sub_cancel]
/-- a truth as an int -/
def zb (b : Bool) : Int32 := if b then zi 1 else zi 0
theorem zb_0 (b : Bool) : (zb b = zi 0) = (b = false) := by cases b <;> simp [zb, zi_inj]
theorem zb_1 (b : Bool) : (zb b = zi 1) = (b = true) := by cases b <;> simp [zb, zi_inj]
theorem zb_t : zb true = zi 1 := rfl
theorem zb_f : zb false = zi 0 := rfl
theorem zb_01 (b : Bool) : (zb b = zi 0 ∨ zb b = zi 1) = True := by cases b <;> simp [zb]
/-- the machine at m has the tables T -/
def zmt (D : ZD2) (m : Nat) (T : ZD2) : ZD2 := fun a j => if a = m + 2 then T 0 j else if a = m + 4 then T 1 j else if a = m + 6 then T 2 j else if a = m + 8 then T 3 j else if a = m + 10 then T 4 j else if a = m + 12 then T 5 j else D a j
def zT (D : ZD2) (m : Nat) : ZD2 := fun t j => D (m + 2 + 2 * t) j
theorem zmt_0 (D : ZD2) (m : Nat) (T : ZD2) : zmt D m T (m + 2) = T 0 := by funext j; simp [zmt]
theorem zmt_1 (D : ZD2) (m : Nat) (T : ZD2) : zmt D m T (m + 4) = T 1 := by funext j; simp [zmt]
theorem zmt_2 (D : ZD2) (m : Nat) (T : ZD2) : zmt D m T (m + 6) = T 2 := by funext j; simp [zmt]
theorem zmt_3 (D : ZD2) (m : Nat) (T : ZD2) : zmt D m T (m + 8) = T 3 := by funext j; simp [zmt]
theorem zmt_4 (D : ZD2) (m : Nat) (T : ZD2) : zmt D m T (m + 10) = T 4 := by funext j; simp [zmt]
theorem zmt_5 (D : ZD2) (m : Nat) (T : ZD2) : zmt D m T (m + 12) = T 5 := by funext j; simp [zmt]
theorem zmt_o {D : ZD2} {m a : Nat} {T : ZD2} (h : ¬ (a = m + 2 ∨ a = m + 4 ∨ a = m + 6 ∨ a = m + 8 ∨ a = m + 10 ∨ a = m + 12)) : zmt D m T a = D a := by
  funext j
  simp only [not_or] at h
  simp [zmt, h]
theorem zmt_zT (D : ZD2) (m : Nat) : zmt D m (zT D m) = D := by
  funext a j
  unfold zmt zT
  repeat' split
  all_goals first | (rename_i h; subst h; rfl) | rfl
theorem zw_M0 (D : ZD2) (m : Nat) (T : ZD2) (j : Nat) (v : Int32) : zw (zmt D m T) (m + 2) j v = zmt D m (zw T 0 j v) := by
  funext a i; unfold zmt zw; (repeat' split) <;> first | rfl | (exfalso; omega) | simp_all
theorem zw_M1 (D : ZD2) (m : Nat) (T : ZD2) (j : Nat) (v : Int32) : zw (zmt D m T) (m + 4) j v = zmt D m (zw T 1 j v) := by
  funext a i; unfold zmt zw; (repeat' split) <;> first | rfl | (exfalso; omega) | simp_all
theorem zw_M2 (D : ZD2) (m : Nat) (T : ZD2) (j : Nat) (v : Int32) : zw (zmt D m T) (m + 6) j v = zmt D m (zw T 2 j v) := by
  funext a i; unfold zmt zw; (repeat' split) <;> first | rfl | (exfalso; omega) | simp_all
theorem zw_M3 (D : ZD2) (m : Nat) (T : ZD2) (j : Nat) (v : Int32) : zw (zmt D m T) (m + 8) j v = zmt D m (zw T 3 j v) := by
  funext a i; unfold zmt zw; (repeat' split) <;> first | rfl | (exfalso; omega) | simp_all
theorem zw_M4 (D : ZD2) (m : Nat) (T : ZD2) (j : Nat) (v : Int32) : zw (zmt D m T) (m + 10) j v = zmt D m (zw T 4 j v) := by
  funext a i; unfold zmt zw; (repeat' split) <;> first | rfl | (exfalso; omega) | simp_all
theorem zw_M5 (D : ZD2) (m : Nat) (T : ZD2) (j : Nat) (v : Int32) : zw (zmt D m T) (m + 12) j v = zmt D m (zw T 5 j v) := by
  funext a i; unfold zmt zw; (repeat' split) <;> first | rfl | (exfalso; omega) | simp_all
theorem zw_Mo {D : ZD2} {m a : Nat} {T : ZD2} {j : Nat} {v : Int32} (h : ¬ (a = m + 2 ∨ a = m + 4 ∨ a = m + 6 ∨ a = m + 8 ∨ a = m + 10 ∨ a = m + 12)) : zw (zmt D m T) a j v = zmt (zw D a j v) m T := by
  simp only [not_or] at h
  funext b i; unfold zmt zw; (repeat' split) <;> first | rfl | (exfalso; omega) | simp_all
/-- loops -/
def zfo {α : Type} (f : Nat → α → α) : Nat → Nat → α → α
  | 0, _, a => a
  | d + 1, i, a => zfo f d (i + 1) (f i a)
theorem zloop {α : Type} {P : Nat → α → Option ZR} {Q : α → Option ZR} {f : Nat → α → α} {n : Nat} (h1 : ∀ i a, i < n → P i a = P (i + 1) (f i a)) (h2 : ∀ a, P n a = Q a) : ∀ d i a, i + d = n → P i a = Q (zfo f d i a)
  | 0, i, a, h => by rw [show i = n by omega, h2]; rfl
  | d + 1, i, a, h => by rw [h1 i a (by omega), zloop h1 h2 d (i + 1) (f i a) (by omega)]; rfl
theorem zloopJ {α : Type} {P : Nat → α → Option ZR} {Q : α → Option ZR} {f : Nat → α → α} {n : Nat} {J : Nat → α → Prop} (h1 : ∀ i a, i < n → J i a → P i a = P (i + 1) (f i a) ∧ J (i + 1) (f i a)) (h2 : ∀ a, J n a → P n a = Q a) : ∀ d i a, i + d = n → J i a → P i a = Q (zfo f d i a) ∧ J n (zfo f d i a)
  | 0, i, a, h, hJ => by
    have e : i = n := by omega
    subst e
    exact ⟨h2 a hJ, hJ⟩
  | d + 1, i, a, h, hJ => by
    obtain ⟨e1, e2⟩ := h1 i a (by omega) hJ
    obtain ⟨e3, e4⟩ := zloopJ h1 h2 d (i + 1) (f i a) (by omega) e2
    exact ⟨e1.trans e3, e4⟩
/-- the first of the places from i on, d of them, that has p; else none -/
def zff (p : Nat → Bool) : Nat → Nat → Int32
  | 0, _ => zn
  | d + 1, i => if p i then zi i else zff p d (i + 1)
theorem zfind {P : Nat → Option ZR} {Q : Int32 → Option ZR} {p : Nat → Bool} {n : Nat} (h1 : ∀ i, i < n → P i = if p i then Q (zi i) else P (i + 1)) (h2 : P n = Q zn) : ∀ d i, i + d = n → P i = Q (zff p d i)
  | 0, i, h => by rw [show i = n by omega, h2]; rfl
  | d + 1, i, h => by
    rw [h1 i (by omega), zff]
    split
    · rfl
    · exact zfind h1 h2 d (i + 1) (by omega)
theorem zfo_congr {α : Type} {f g : Nat → α → α} : ∀ d i (a : α), (∀ j a, i ≤ j → j < i + d → f j a = g j a) → zfo f d i a = zfo g d i a
  | 0, _, _, _ => rfl
  | d + 1, i, a, h => by rw [zfo, zfo, h i a (Nat.le_refl _) (by omega), zfo_congr d (i + 1) _ fun j a h1 h2 => h j a (by omega) (by omega)]
theorem zff_congr {p q : Nat → Bool} : ∀ d i, (∀ j, i ≤ j → j < i + d → p j = q j) → zff p d i = zff q d i
  | 0, _, _ => rfl
  | d + 1, i, h => by rw [zff, zff, h i (Nat.le_refl _) (by omega), zff_congr d (i + 1) fun j h1 h2 => h j (by omega) (by omega)]
/-- what changes more than the answer's own part -/
theorem zfo_map {α β : Type} {f : Nat → α → α} {g : Nat → β → β} (π : α → β) (h : ∀ i a, π (f i a) = g i (π a)) : ∀ d i a, π (zfo f d i a) = zfo g d i (π a)
  | 0, _, _ => rfl
  | d + 1, i, a => by rw [zfo, zfo, zfo_map π h d (i + 1), h]
section
variable {X : ZX} {D T : ZD2} {O : ZO2} {k : Nat × Nat × Nat} {m t n : Nat}
theorem zgt {r c R C : Nat} (ht : zisT t (zi R) (zi C) n) (hc : c < C) (hn : n < 2147483648) (hC : C < 2147483648) (hr : r * C + c < n) : zev X 94 0 [.ref t, .int (zi r), .int (zi c), zJ] [] (zHP D O, k) = some (.inl (some (.int (D (t + 1) (r * C + c)))), (zHP D O, k)) := by
  have e : zi r * zi C + zi c = zi (r * C + c) := by rw [zi_mul, zi_add]
  rw [b94_0 ht, e, zi_toNat (by omega), show Int32.ofNat n = zi n from rfl, zl_0]
  simp (disch := omega) only [zi_lt]
  rw [if_neg (by omega), if_pos hc, if_neg (by omega), if_pos hr, if_neg (by omega)]
theorem zpt {r c R C : Nat} {v : Int32} (ht : zisT t (zi R) (zi C) n) (hc : c < C) (hn : n < 2147483648) (hC : C < 2147483648) (hr : r * C + c < n) : zev X 93 0 [.ref t, .int (zi r), .int (zi c), .int v, zJ] [] (zHP D O, k) = some (.inl none, (zHP (zw D (t + 1) (r * C + c) v) O, k)) := by
  have e : zi r * zi C + zi c = zi (r * C + c) := by rw [zi_mul, zi_add]
  rw [b93_0 ht, e, zi_toNat (by omega), show Int32.ofNat n = zi n from rfl, zl_0]
  simp (disch := omega) only [zi_lt]
  rw [if_neg (by omega), if_pos hc, if_neg (by omega), if_pos hr, if_neg (by omega)]
theorem zadt {r c R C : Nat} {v : Int32} (ht : zisT t (zi R) (zi C) n) (hc : c < C) (hn : n < 2147483648) (hC : C < 2147483648) (hr : r * C + c < n) : zev X 95 0 [.ref t, .int (zi r), .int (zi c), .int v] [] (zHP D O, k) = some (.inl none, (zHP (zw D (t + 1) (r * C + c) (D (t + 1) (r * C + c) + v)) O, k)) := by
  rw [b95_0 ht, zgt ht hc hn hC hr, zcon_inl]
  show zev X 95 9 _ [_, _, _, _] _ = _
  rw [b95_9 ht, zpt ht hc hn hC hr, zcon_inl]
  exact b95_14
theorem tg0 {c : Nat} (hm : zisM m) (hc : c < 5) : zev X 94 0 [.ref (m + 1), .int (zi 0), .int (zi c), zJ] [] (zHP (zmt D m T) O, k) = some (.inl (some (.int (T 0 c))), (zHP (zmt D m T) O, k)) := by
  have e : 0 * 5 + c = c := by omega
  have := zgt (X := X) (D := zmt D m T) (O := O) (k := k) (show zisT (m + 1) (zi 1) (zi 5) 5 from hm.2.1) (show c < 5 by omega) (by omega) (by omega) (show 0 * 5 + c < 5 by omega)
  rw [e, Nat.add_assoc, zmt_0] at this
  exact this
theorem tp0 {c : Nat} {v : Int32} (hm : zisM m) (hc : c < 5) : zev X 93 0 [.ref (m + 1), .int (zi 0), .int (zi c), .int v, zJ] [] (zHP (zmt D m T) O, k) = some (.inl none, (zHP (zmt D m (zw T 0 c v)) O, k)) := by
  have e : 0 * 5 + c = c := by omega
  have := zpt (X := X) (D := zmt D m T) (O := O) (k := k) (v := v) (show zisT (m + 1) (zi 1) (zi 5) 5 from hm.2.1) (show c < 5 by omega) (by omega) (by omega) (show 0 * 5 + c < 5 by omega)
  rw [e, Nat.add_assoc, zw_M0] at this
  exact this
theorem ta0 {c : Nat} {v : Int32} (hm : zisM m) (hc : c < 5) : zev X 95 0 [.ref (m + 1), .int (zi 0), .int (zi c), .int v] [] (zHP (zmt D m T) O, k) = some (.inl none, (zHP (zmt D m (zw T 0 c (T 0 c + v))) O, k)) := by
  have e : 0 * 5 + c = c := by omega
  have := zadt (X := X) (D := zmt D m T) (O := O) (k := k) (v := v) (show zisT (m + 1) (zi 1) (zi 5) 5 from hm.2.1) (show c < 5 by omega) (by omega) (by omega) (show 0 * 5 + c < 5 by omega)
  rw [e, Nat.add_assoc, zw_M0, zmt_0] at this
  exact this
theorem tg1 {c : Nat} (hm : zisM m) (hc : c < 15) : zev X 94 0 [.ref (m + 3), .int (zi 0), .int (zi c), zJ] [] (zHP (zmt D m T) O, k) = some (.inl (some (.int (T 1 c))), (zHP (zmt D m T) O, k)) := by
  have e : 0 * 15 + c = c := by omega
  have := zgt (X := X) (D := zmt D m T) (O := O) (k := k) (show zisT (m + 3) (zi 1) (zi 15) 15 from hm.2.2.1) (show c < 15 by omega) (by omega) (by omega) (show 0 * 15 + c < 15 by omega)
  rw [e, Nat.add_assoc, zmt_1] at this
  exact this
theorem tp1 {c : Nat} {v : Int32} (hm : zisM m) (hc : c < 15) : zev X 93 0 [.ref (m + 3), .int (zi 0), .int (zi c), .int v, zJ] [] (zHP (zmt D m T) O, k) = some (.inl none, (zHP (zmt D m (zw T 1 c v)) O, k)) := by
  have e : 0 * 15 + c = c := by omega
  have := zpt (X := X) (D := zmt D m T) (O := O) (k := k) (v := v) (show zisT (m + 3) (zi 1) (zi 15) 15 from hm.2.2.1) (show c < 15 by omega) (by omega) (by omega) (show 0 * 15 + c < 15 by omega)
  rw [e, Nat.add_assoc, zw_M1] at this
  exact this
theorem ta1 {c : Nat} {v : Int32} (hm : zisM m) (hc : c < 15) : zev X 95 0 [.ref (m + 3), .int (zi 0), .int (zi c), .int v] [] (zHP (zmt D m T) O, k) = some (.inl none, (zHP (zmt D m (zw T 1 c (T 1 c + v))) O, k)) := by
  have e : 0 * 15 + c = c := by omega
  have := zadt (X := X) (D := zmt D m T) (O := O) (k := k) (v := v) (show zisT (m + 3) (zi 1) (zi 15) 15 from hm.2.2.1) (show c < 15 by omega) (by omega) (by omega) (show 0 * 15 + c < 15 by omega)
  rw [e, Nat.add_assoc, zw_M1, zmt_1] at this
  exact this
theorem tg2 {r c : Nat} (hm : zisM m) (hr : r < 6) (hc : c < 12) : zev X 94 0 [.ref (m + 5), .int (zi r), .int (zi c), zJ] [] (zHP (zmt D m T) O, k) = some (.inl (some (.int (T 2 (12 * r + c)))), (zHP (zmt D m T) O, k)) := by
  have e : r * 12 + c = (12 * r + c) := by omega
  have := zgt (X := X) (D := zmt D m T) (O := O) (k := k) (show zisT (m + 5) (zi 6) (zi 12) 72 from hm.2.2.2.1) (show c < 12 by omega) (by omega) (by omega) (show r * 12 + c < 72 by omega)
  rw [e, Nat.add_assoc, zmt_2] at this
  exact this
theorem tp2 {r c : Nat} {v : Int32} (hm : zisM m) (hr : r < 6) (hc : c < 12) : zev X 93 0 [.ref (m + 5), .int (zi r), .int (zi c), .int v, zJ] [] (zHP (zmt D m T) O, k) = some (.inl none, (zHP (zmt D m (zw T 2 (12 * r + c) v)) O, k)) := by
  have e : r * 12 + c = (12 * r + c) := by omega
  have := zpt (X := X) (D := zmt D m T) (O := O) (k := k) (v := v) (show zisT (m + 5) (zi 6) (zi 12) 72 from hm.2.2.2.1) (show c < 12 by omega) (by omega) (by omega) (show r * 12 + c < 72 by omega)
  rw [e, Nat.add_assoc, zw_M2] at this
  exact this
theorem ta2 {r c : Nat} {v : Int32} (hm : zisM m) (hr : r < 6) (hc : c < 12) : zev X 95 0 [.ref (m + 5), .int (zi r), .int (zi c), .int v] [] (zHP (zmt D m T) O, k) = some (.inl none, (zHP (zmt D m (zw T 2 (12 * r + c) (T 2 (12 * r + c) + v))) O, k)) := by
  have e : r * 12 + c = (12 * r + c) := by omega
  have := zadt (X := X) (D := zmt D m T) (O := O) (k := k) (v := v) (show zisT (m + 5) (zi 6) (zi 12) 72 from hm.2.2.2.1) (show c < 12 by omega) (by omega) (by omega) (show r * 12 + c < 72 by omega)
  rw [e, Nat.add_assoc, zw_M2, zmt_2] at this
  exact this
theorem tg3 {r c : Nat} (hm : zisM m) (hr : r < 72) (hc : c < 5) : zev X 94 0 [.ref (m + 7), .int (zi r), .int (zi c), zJ] [] (zHP (zmt D m T) O, k) = some (.inl (some (.int (T 3 (5 * r + c)))), (zHP (zmt D m T) O, k)) := by
  have e : r * 5 + c = (5 * r + c) := by omega
  have := zgt (X := X) (D := zmt D m T) (O := O) (k := k) (show zisT (m + 7) (zi 72) (zi 5) 360 from hm.2.2.2.2.1) (show c < 5 by omega) (by omega) (by omega) (show r * 5 + c < 360 by omega)
  rw [e, Nat.add_assoc, zmt_3] at this
  exact this
theorem tp3 {r c : Nat} {v : Int32} (hm : zisM m) (hr : r < 72) (hc : c < 5) : zev X 93 0 [.ref (m + 7), .int (zi r), .int (zi c), .int v, zJ] [] (zHP (zmt D m T) O, k) = some (.inl none, (zHP (zmt D m (zw T 3 (5 * r + c) v)) O, k)) := by
  have e : r * 5 + c = (5 * r + c) := by omega
  have := zpt (X := X) (D := zmt D m T) (O := O) (k := k) (v := v) (show zisT (m + 7) (zi 72) (zi 5) 360 from hm.2.2.2.2.1) (show c < 5 by omega) (by omega) (by omega) (show r * 5 + c < 360 by omega)
  rw [e, Nat.add_assoc, zw_M3] at this
  exact this
theorem ta3 {r c : Nat} {v : Int32} (hm : zisM m) (hr : r < 72) (hc : c < 5) : zev X 95 0 [.ref (m + 7), .int (zi r), .int (zi c), .int v] [] (zHP (zmt D m T) O, k) = some (.inl none, (zHP (zmt D m (zw T 3 (5 * r + c) (T 3 (5 * r + c) + v))) O, k)) := by
  have e : r * 5 + c = (5 * r + c) := by omega
  have := zadt (X := X) (D := zmt D m T) (O := O) (k := k) (v := v) (show zisT (m + 7) (zi 72) (zi 5) 360 from hm.2.2.2.2.1) (show c < 5 by omega) (by omega) (by omega) (show r * 5 + c < 360 by omega)
  rw [e, Nat.add_assoc, zw_M3, zmt_3] at this
  exact this
theorem tg4 {r c : Nat} (hm : zisM m) (hr : r < 64) (hc : c < 3) : zev X 94 0 [.ref (m + 9), .int (zi r), .int (zi c), zJ] [] (zHP (zmt D m T) O, k) = some (.inl (some (.int (T 4 (3 * r + c)))), (zHP (zmt D m T) O, k)) := by
  have e : r * 3 + c = (3 * r + c) := by omega
  have := zgt (X := X) (D := zmt D m T) (O := O) (k := k) (show zisT (m + 9) (zi 64) (zi 3) 192 from hm.2.2.2.2.2.1) (show c < 3 by omega) (by omega) (by omega) (show r * 3 + c < 192 by omega)
  rw [e, Nat.add_assoc, zmt_4] at this
  exact this
theorem tp4 {r c : Nat} {v : Int32} (hm : zisM m) (hr : r < 64) (hc : c < 3) : zev X 93 0 [.ref (m + 9), .int (zi r), .int (zi c), .int v, zJ] [] (zHP (zmt D m T) O, k) = some (.inl none, (zHP (zmt D m (zw T 4 (3 * r + c) v)) O, k)) := by
  have e : r * 3 + c = (3 * r + c) := by omega
  have := zpt (X := X) (D := zmt D m T) (O := O) (k := k) (v := v) (show zisT (m + 9) (zi 64) (zi 3) 192 from hm.2.2.2.2.2.1) (show c < 3 by omega) (by omega) (by omega) (show r * 3 + c < 192 by omega)
  rw [e, Nat.add_assoc, zw_M4] at this
  exact this
theorem ta4 {r c : Nat} {v : Int32} (hm : zisM m) (hr : r < 64) (hc : c < 3) : zev X 95 0 [.ref (m + 9), .int (zi r), .int (zi c), .int v] [] (zHP (zmt D m T) O, k) = some (.inl none, (zHP (zmt D m (zw T 4 (3 * r + c) (T 4 (3 * r + c) + v))) O, k)) := by
  have e : r * 3 + c = (3 * r + c) := by omega
  have := zadt (X := X) (D := zmt D m T) (O := O) (k := k) (v := v) (show zisT (m + 9) (zi 64) (zi 3) 192 from hm.2.2.2.2.2.1) (show c < 3 by omega) (by omega) (by omega) (show r * 3 + c < 192 by omega)
  rw [e, Nat.add_assoc, zw_M4, zmt_4] at this
  exact this
theorem tg5 {r : Nat} (hm : zisM m) (hr : r < 6) : zev X 94 0 [.ref (m + 11), .int (zi r), .int (zi 0), zJ] [] (zHP (zmt D m T) O, k) = some (.inl (some (.int (T 5 r))), (zHP (zmt D m T) O, k)) := by
  have e : r * 1 + 0 = r := by omega
  have := zgt (X := X) (D := zmt D m T) (O := O) (k := k) (show zisT (m + 11) (zi 6) (zi 1) 6 from hm.2.2.2.2.2.2) (show 0 < 1 by omega) (by omega) (by omega) (show r * 1 + 0 < 6 by omega)
  rw [e, Nat.add_assoc, zmt_5] at this
  exact this
theorem tp5 {r : Nat} {v : Int32} (hm : zisM m) (hr : r < 6) : zev X 93 0 [.ref (m + 11), .int (zi r), .int (zi 0), .int v, zJ] [] (zHP (zmt D m T) O, k) = some (.inl none, (zHP (zmt D m (zw T 5 r v)) O, k)) := by
  have e : r * 1 + 0 = r := by omega
  have := zpt (X := X) (D := zmt D m T) (O := O) (k := k) (v := v) (show zisT (m + 11) (zi 6) (zi 1) 6 from hm.2.2.2.2.2.2) (show 0 < 1 by omega) (by omega) (by omega) (show r * 1 + 0 < 6 by omega)
  rw [e, Nat.add_assoc, zw_M5] at this
  exact this
theorem ta5 {r : Nat} {v : Int32} (hm : zisM m) (hr : r < 6) : zev X 95 0 [.ref (m + 11), .int (zi r), .int (zi 0), .int v] [] (zHP (zmt D m T) O, k) = some (.inl none, (zHP (zmt D m (zw T 5 r (T 5 r + v))) O, k)) := by
  have e : r * 1 + 0 = r := by omega
  have := zadt (X := X) (D := zmt D m T) (O := O) (k := k) (v := v) (show zisT (m + 11) (zi 6) (zi 1) 6 from hm.2.2.2.2.2.2) (show 0 < 1 by omega) (by omega) (by omega) (show r * 1 + 0 < 6 by omega)
  rw [e, Nat.add_assoc, zw_M5, zmt_5] at this
  exact this
theorem tg4n {c : Nat} (hm : zisM m) (hc : c < 3) : zev X 94 0 [.ref (m + 9), .int zn, .int (zi c), zJ] [] (zHP D O, k) = some (.inl (some (.int (zi 0))), (zHP D O, k)) := by
  have ht : zisT (m + 9) (zi 64) (zi 3) 192 := hm.2.2.2.2.2.1
  rw [b94_0 ht, zl_0, if_neg (by rw [zi_lt (by omega) (by omega)]; omega), if_pos (by rw [zi_lt (by omega) (by omega)]; exact hc), if_pos]
  rcases (by omega : c = 0 ∨ c = 1 ∨ c = 2) with rfl | rfl | rfl <;> decide
end
