/-! How many bits a long has. -/
def yM : Nat → Nat → Nat
  | 0, _ => 0
  | n + 1, c => c + 256 * yM n c
def y1 (n x : Nat) : Nat := x - (x / 2 &&& yM n 85)
def y2 (n x : Nat) : Nat := (x &&& yM n 51) + (x / 4 &&& yM n 51)
def y3 (n x : Nat) : Nat := (x + x / 16) &&& yM n 15
def yp1 (a : Nat) : Nat := a - (a / 2 &&& 85)
def yp2 (a : Nat) : Nat := (a &&& 51) + (a / 4 &&& 51)
def yp3 (a : Nat) : Nat := (a + a / 16) &&& 15
def yp8 (a : Nat) : Nat := yp3 (yp2 (yp1 a))
theorem yand {a b c d : Nat} (ha : a < 256) (hc : c < 256) : (a + 256 * b) &&& (c + 256 * d) = (a &&& c) + 256 * (b &&& d) := by
  have h1 : ((a + 256 * b) &&& (c + 256 * d)) % 2 ^ 8 = a &&& c := by
    rw [Nat.and_mod_two_pow]
    congr 1 <;> omega
  have h2 : ((a + 256 * b) &&& (c + 256 * d)) / 2 ^ 8 = b &&& d := by
    rw [Nat.and_div_two_pow]
    congr 1 <;> omega
  generalize (a + 256 * b) &&& (c + 256 * d) = X at *
  omega
theorem yf1 : ∀ a, a < 256 → ∀ e, e < 2 → ((a / 2 + 128 * e) &&& 85) = (a / 2 &&& 85) := by decide +kernel
theorem yf2 : ∀ a, a < 256 → ∀ e, e < 4 → ((a / 4 + 64 * e) &&& 51) = (a / 4 &&& 51) := by decide +kernel
theorem yf3 : ∀ a, a < 256 → ∀ e, e < 16 → ((a + a / 16 + 16 * e) &&& 15) = ((a + a / 16) &&& 15) := by decide +kernel
theorem yf4 : ∀ a, a < 256 → yp2 (yp1 a) ≤ 68 ∧ yp2 (yp1 a) % 16 ≤ 4 ∧ yp8 a ≤ 8 ∧ zct (fun i => a.testBit i) 8 0 0 = yp8 a := by decide +kernel
theorem yr1 {n a z : Nat} (ha : a < 256) : y1 (n + 1) (a + 256 * z) = yp1 a + 256 * y1 n z := by
  unfold y1 yp1
  have e : (a + 256 * z) / 2 = (a / 2 + 128 * (z % 2)) + 256 * (z / 2) := by omega
  have h1 : a / 2 &&& 85 ≤ a / 2 := Nat.and_le_left
  have h2 : z / 2 &&& yM n 85 ≤ z / 2 := Nat.and_le_left
  rw [e, yM, yand (by omega) (by omega), yf1 a ha _ (by omega)]
  generalize a / 2 &&& 85 = u at *
  generalize z / 2 &&& yM n 85 = v at *
  omega
theorem yr2 {n a z : Nat} (ha : a < 256) : y2 (n + 1) (a + 256 * z) = yp2 a + 256 * y2 n z := by
  unfold y2 yp2
  have e : (a + 256 * z) / 4 = (a / 4 + 64 * (z % 4)) + 256 * (z / 4) := by omega
  rw [e, yM, yand (by omega) (by omega), yand (by omega) (by omega), yf2 a ha _ (by omega)]
  generalize a / 4 &&& 51 = u
  generalize z / 4 &&& yM n 51 = v
  generalize a &&& 51 = u'
  generalize z &&& yM n 51 = v'
  omega
theorem yr3 {n a z : Nat} (ha : a ≤ 68) (hz : z % 16 ≤ 4) : y3 (n + 1) (a + 256 * z) = yp3 a + 256 * y3 n z := by
  unfold y3 yp3
  have e : (a + 256 * z) + (a + 256 * z) / 16 = (a + a / 16 + 16 * (z % 16)) + 256 * (z + z / 16) := by omega
  rw [e, yM, yand (by omega) (by omega), yf3 a (by omega) _ (by omega)]
theorem yp1_lt (a : Nat) (h : a < 256) : yp1 a < 256 := by unfold yp1; omega
theorem ylow (n z : Nat) : y2 n (y1 n z) % 16 ≤ 4 := by
  cases n with
  | zero =>
    unfold y2
    simp [yM]
  | succ n =>
    have e : z = z % 256 + 256 * (z / 256) := by omega
    have hb : z % 256 < 256 := by omega
    rw [e, yr1 hb, yr2 (yp1_lt _ hb)]
    have := (yf4 _ hb).2.1
    omega
def yall (n x : Nat) : Nat := y3 n (y2 n (y1 n x))
theorem yrec (n x : Nat) : yall (n + 1) x = yp8 (x % 256) + 256 * yall n (x / 256) := by
  unfold yall yp8
  have hb : x % 256 < 256 := by omega
  have e : y1 (n + 1) x = yp1 (x % 256) + 256 * y1 n (x / 256) := by
    rw [← yr1 hb, show x % 256 + 256 * (x / 256) = x by omega]
  rw [e, yr2 (yp1_lt _ hb), yr3 (yf4 _ hb).1 (ylow n _)]
theorem yct_acc (p : Nat → Bool) (d i c : Nat) : zct p d i c = c + zct p d i 0 := by
  induction c with
  | zero => omega
  | succ c ih => rw [zct_acc, ih]; omega
theorem ybits (x : Nat) : ∀ n, zct (fun i => x.testBit i) (8 * n + 8) 0 0 = zct (fun i => x.testBit i) (8 * n) 0 0 + yp8 (x / 256 ^ n % 256) := by
  intro n
  have e4 : zct (fun i => x.testBit i) (8 * n + 8) 0 0 = zct (fun i => x.testBit i) 8 (0 + 8 * n) (zct (fun i => x.testBit i) (8 * n) 0 0) := zfo_add _ _ _ _ _
  rw [e4, yct_acc]
  congr 1
  have hb : x / 256 ^ n % 256 < 256 := by omega
  rw [← (yf4 _ hb).2.2.2]
  have e5 : zct (fun i => (x / 256 ^ n % 256).testBit i) 8 0 0 = zct (fun i => x.testBit (8 * n + i)) 8 0 0 := zct_congr fun j _ h2 => by
    rw [show (256 : Nat) = 2 ^ 8 from rfl, Nat.testBit_mod_two_pow, ← Nat.pow_mul, Nat.testBit_div_two_pow, decide_eq_true (by omega), Bool.true_and]
    congr 1
    omega
  rw [e5, zct_shift (q := fun i => x.testBit i) (s := 8 * n) (fun j => rfl) 8 0 0]
  congr 1
  omega
def ysum (x : Nat) : Nat := zct (fun i => x.testBit i) 64 0 0
theorem ysum8 (x : Nat) : ysum x = yp8 (x % 256) + yp8 (x / 256 % 256) + yp8 (x / 65536 % 256) + yp8 (x / 16777216 % 256) + yp8 (x / 4294967296 % 256) + yp8 (x / 1099511627776 % 256) + yp8 (x / 281474976710656 % 256) + yp8 (x / 72057594037927936 % 256) := by
  have h0 := ybits x 0
  have h1 := ybits x 1
  have h2 := ybits x 2
  have h3 := ybits x 3
  have h4 := ybits x 4
  have h5 := ybits x 5
  have h6 := ybits x 6
  have h7 := ybits x 7
  simp only [Nat.reduceMul, Nat.reduceAdd, Nat.reducePow, Nat.div_one] at h0 h1 h2 h3 h4 h5 h6 h7
  have hz : zct (fun i => x.testBit i) 0 0 0 = 0 := rfl
  unfold ysum
  omega
theorem yall8 (x : Nat) : yall 8 x = yp8 (x % 256) + 256 * (yp8 (x / 256 % 256) + 256 * (yp8 (x / 65536 % 256) + 256 * (yp8 (x / 16777216 % 256) + 256 * (yp8 (x / 4294967296 % 256) + 256 * (yp8 (x / 1099511627776 % 256) + 256 * (yp8 (x / 281474976710656 % 256) + 256 * yp8 (x / 72057594037927936 % 256))))))) := by
  have h0 : ∀ x, yall 0 x = 0 := fun x => by unfold yall y3; simp [yM]
  rw [yrec, yrec, yrec, yrec, yrec, yrec, yrec, yrec, h0]
  simp only [Nat.div_div_eq_div_mul, Nat.reduceMul]
  omega
theorem yfb {w : Nat} (h : w ≤ 578721382704613384) : w + w / 256 < 18446744073709551616 ∧ (w + w / 256) + (w + w / 256) / 65536 < 18446744073709551616 ∧ ((w + w / 256) + (w + w / 256) / 65536) + ((w + w / 256) + (w + w / 256) / 65536) / 4294967296 < 18446744073709551616 := by
  obtain ⟨u, hu⟩ : ∃ u, u = w + w / 256 := ⟨_, rfl⟩
  have hu2 : u ≤ 1157442765409226768 := by omega
  rw [← hu]
  obtain ⟨t, ht⟩ : ∃ t, t = u + u / 65536 := ⟨_, rfl⟩
  have ht2 : t ≤ 2314885530818453536 := by omega
  rw [← ht]
  omega
theorem yfq {q0 q1 q2 q3 q4 q5 q6 u u2 u4 u5 u6 u7 : Nat} (h0 : q0 ≤ 16) (h1 : q1 ≤ 16) (h2 : q2 ≤ 16) (h3 : q3 ≤ 16) (h4 : q4 ≤ 16) (h5 : q5 ≤ 16) (h6 : q6 ≤ 16) (e0 : u = q0 + 256 * (q1 + 256 * u2)) (e2 : u2 = q2 + 256 * (q3 + 256 * u4)) (e4 : u4 = q4 + 256 * u5) (e4' : u5 = q5 + 256 * u6) (e6 : u6 = q6 + 256 * u7) : ((u + u / 65536) + (u + u / 65536) / 4294967296) % 128 = q0 + q2 + q4 + q6 := by
  have d1 : u / 65536 = u2 := by omega
  rw [d1]
  have d2 : u + u2 = ((q0 + q2) + 256 * (q1 + q3) + 65536 * (q2 + q4) + 16777216 * (q3 + q5)) + 4294967296 * (u4 + u6) := by omega
  have d3 : (q0 + q2) + 256 * (q1 + q3) + 65536 * (q2 + q4) + 16777216 * (q3 + q5) < 4294967296 := by omega
  have d4 : (u + u2) / 4294967296 = u4 + u6 := by
    rw [d2]
    generalize (q0 + q2) + 256 * (q1 + q3) + 65536 * (q2 + q4) + 16777216 * (q3 + q5) = l at d3 ⊢
    omega
  rw [d4, d2, e4, e6]
  clear d1 d2 d3 d4 e0 e2 e4' 
  omega
theorem yfold {p0 p1 p2 p3 p4 p5 p6 p7 w : Nat} (h0 : p0 ≤ 8) (h1 : p1 ≤ 8) (h2 : p2 ≤ 8) (h3 : p3 ≤ 8) (h4 : p4 ≤ 8) (h5 : p5 ≤ 8) (h6 : p6 ≤ 8) (h7 : p7 ≤ 8) (hw : w = p0 + 256 * (p1 + 256 * (p2 + 256 * (p3 + 256 * (p4 + 256 * (p5 + 256 * (p6 + 256 * p7))))))) : w + w / 256 < 18446744073709551616 ∧ (w + w / 256) + (w + w / 256) / 65536 < 18446744073709551616 ∧ ((w + w / 256) + (w + w / 256) / 65536) + ((w + w / 256) + (w + w / 256) / 65536) / 4294967296 < 18446744073709551616 ∧ (((w + w / 256) + (w + w / 256) / 65536) + ((w + w / 256) + (w + w / 256) / 65536) / 4294967296) % 128 = p0 + p1 + p2 + p3 + p4 + p5 + p6 + p7 := by
  have hb : w ≤ 578721382704613384 := by omega
  obtain ⟨b1, b2, b3⟩ := yfb hb
  refine ⟨b1, b2, b3, ?_⟩
  clear b1 b2 b3 hb
  obtain ⟨w7, g7⟩ : ∃ x, x = p7 := ⟨_, rfl⟩
  obtain ⟨w6, g6⟩ : ∃ x, x = p6 + 256 * w7 := ⟨_, rfl⟩
  obtain ⟨w5, g5⟩ : ∃ x, x = p5 + 256 * w6 := ⟨_, rfl⟩
  obtain ⟨w4, g4⟩ : ∃ x, x = p4 + 256 * w5 := ⟨_, rfl⟩
  obtain ⟨w3, g3⟩ : ∃ x, x = p3 + 256 * w4 := ⟨_, rfl⟩
  obtain ⟨w2, g2⟩ : ∃ x, x = p2 + 256 * w3 := ⟨_, rfl⟩
  obtain ⟨w1, g1⟩ : ∃ x, x = p1 + 256 * w2 := ⟨_, rfl⟩
  rw [← g7, ← g6, ← g5, ← g4, ← g3, ← g2, ← g1] at hw
  have d : w / 256 = w1 := by clear g1 g2 g3 g4 g5 g6 g7; omega
  rw [d]
  have := yfq (q0 := p0 + p1) (q1 := p1 + p2) (q2 := p2 + p3) (q3 := p3 + p4) (q4 := p4 + p5) (q5 := p5 + p6) (q6 := p6 + p7) (u := w + w1) (u2 := w2 + w3) (u4 := w4 + w5) (u5 := w5 + w6) (u6 := w6 + w7) (u7 := w7) (by omega) (by omega) (by omega) (by omega) (by omega) (by omega) (by omega) (by clear d g7 g6 g5 g4; omega) (by clear d hw g1 g7 g6; omega) (by clear d hw g1 g2 g3 g7 g6; omega) (by clear d hw g1 g2 g3 g4 g7; omega) (by clear d hw g1 g2 g3 g4 g5; omega)
  rw [this]
  omega
/-- a long's bits as a number -/
def yn (l : Int64) : Nat := l.toUInt64.toNat
def yS (l : Int64) (c : UInt64) : Int64 := (l.toUInt64 >>> c).toInt64
theorem yn_and (a b : Int64) : yn (a &&& b) = yn a &&& yn b := UInt64.toNat_and _ _
theorem yn_or (a b : Int64) : yn (a ||| b) = yn a ||| yn b := UInt64.toNat_or _ _
theorem yn_add (a b : Int64) (h : yn a + yn b < 18446744073709551616) : yn (a + b) = yn a + yn b := by
  have : yn (a + b) = (yn a + yn b) % 2 ^ 64 := UInt64.toNat_add _ _
  rw [this, Nat.mod_eq_of_lt (by omega)]
theorem yn_sub (a b : Int64) (h : yn b ≤ yn a) : yn (a - b) = yn a - yn b := UInt64.toNat_sub_of_le _ _ (UInt64.le_iff_toNat_le.mpr h)
theorem yn_S (a : Int64) (c : UInt64) (h : c.toNat < 64) : yn (yS a c) = yn a / 2 ^ c.toNat := by
  have : yn (yS a c) = yn a >>> (c.toNat % 64) := UInt64.toNat_shiftRight _ _
  rw [this, Nat.mod_eq_of_lt h, Nat.shiftRight_eq_div_pow]
theorem yn_lt (a : Int64) : yn a < 18446744073709551616 := UInt64.toNat_lt _
def yP1 (l : Int64) : Int64 := l - (yS l 1 &&& Int64.ofNat 6148914691236517205)
def yP2 (l : Int64) : Int64 := (l &&& Int64.ofNat 3689348814741910323) + (yS l 2 &&& Int64.ofNat 3689348814741910323)
def yP3 (l : Int64) : Int64 := (l + yS l 4) &&& Int64.ofNat 1085102592571150095
theorem zPop_eq (l : Int64) : zPop l = (((yP3 (yP2 (yP1 l)) + yS (yP3 (yP2 (yP1 l))) 8) + yS (yP3 (yP2 (yP1 l)) + yS (yP3 (yP2 (yP1 l))) 8) 16) + yS ((yP3 (yP2 (yP1 l)) + yS (yP3 (yP2 (yP1 l))) 8) + yS (yP3 (yP2 (yP1 l)) + yS (yP3 (yP2 (yP1 l))) 8) 16) 32).toInt32 &&& 127 := rfl
theorem yM85 : yM 8 85 = 6148914691236517205 := by decide
theorem yM51 : yM 8 51 = 3689348814741910323 := by decide
theorem yM15 : yM 8 15 = 1085102592571150095 := by decide
theorem yP1_n (l : Int64) : yn (yP1 l) = y1 8 (yn l) := by
  have e : yn (yS l 1 &&& Int64.ofNat 6148914691236517205) = yn l / 2 &&& yM 8 85 := by
    rw [yn_and, yn_S l 1 (by decide), yM85]
    rfl
  have h : yn l / 2 &&& yM 8 85 ≤ yn l / 2 := Nat.and_le_left
  unfold yP1 y1
  rw [yn_sub _ _ (by rw [e]; omega), e]
theorem yP2_n (l : Int64) : yn (yP2 l) = y2 8 (yn l) := by
  have e : yn (yS l 2 &&& Int64.ofNat 3689348814741910323) = yn l / 4 &&& yM 8 51 := by
    rw [yn_and, yn_S l 2 (by decide), yM51]
    rfl
  have e2 : yn (l &&& Int64.ofNat 3689348814741910323) = yn l &&& yM 8 51 := by
    rw [yn_and, yM51]
    rfl
  have h : yn l / 4 &&& yM 8 51 ≤ yM 8 51 := Nat.and_le_right
  have h2 : yn l &&& yM 8 51 ≤ yM 8 51 := Nat.and_le_right
  rw [yM51] at h h2
  unfold yP2 y2
  rw [yn_add _ _ (by rw [e, e2, yM51]; omega), e, e2]
theorem yP3_n (l : Int64) (h : yn l + yn l / 16 < 18446744073709551616) : yn (yP3 l) = y3 8 (yn l) := by
  unfold yP3 y3
  rw [yn_and, yn_add _ _ (by rw [yn_S l 4 (by decide)]; exact h), yn_S l 4 (by decide), yM15]
  rfl
theorem yto32 (x : Int64) : x.toInt32 &&& 127 = zi (yn x % 128) := by
  apply Int32.toBitVec_inj.1
  apply BitVec.eq_of_toNat_eq
  have e1 : (x.toInt32 &&& 127).toBitVec.toNat = (x.toBitVec.signExtend 32).toNat &&& 127 := rfl
  have e2 : (zi (yn x % 128)).toBitVec.toNat = (yn x % 128) % 2 ^ 32 := rfl
  rw [e1, e2, BitVec.signExtend_eq_setWidth_of_le _ (by omega), BitVec.toNat_setWidth]
  have e3 : x.toBitVec.toNat = yn x := rfl
  rw [e3, show (127 : Nat) = 2 ^ 7 - 1 from rfl, Nat.and_two_pow_sub_one_eq_mod]
  omega
theorem zPop_ct (l : Int64) : zPop l = zi (ysum (yn l)) := by
  have hx := yn_lt l
  have e2 : yn (yP2 (yP1 l)) = y2 8 (y1 8 (yn l)) := by rw [yP2_n, yP1_n]
  have hb2 : y2 8 (y1 8 (yn l)) ≤ 3689348814741910323 + 3689348814741910323 := by
    unfold y2
    rw [yM51]
    exact Nat.add_le_add Nat.and_le_right Nat.and_le_right
  have e3 : yn (yP3 (yP2 (yP1 l))) = yall 8 (yn l) := by
    rw [yP3_n _ (by rw [e2]; omega), e2]
    rfl
  have b : ∀ y, yp8 (y % 256) ≤ 8 := fun y => (yf4 _ (by omega)).2.2.1
  obtain ⟨f1, f2, f3, f4⟩ := yfold (b _) (b _) (b _) (b _) (b _) (b _) (b _) (b _) (yall8 (yn l))
  rw [zPop_eq, yto32]
  generalize yP3 (yP2 (yP1 l)) = a at *
  have g1 : yn (a + yS a 8) = yn a + yn a / 256 := by
    rw [yn_add _ _ (by rw [yn_S a 8 (by decide), e3]; exact f1), yn_S a 8 (by decide)]
    rfl
  have g2 : yn ((a + yS a 8) + yS (a + yS a 8) 16) = (yn a + yn a / 256) + (yn a + yn a / 256) / 65536 := by
    rw [yn_add _ _ (by rw [yn_S _ 16 (by decide), g1, e3]; exact f2), yn_S _ 16 (by decide), g1]
    rfl
  rw [yn_add _ _ (by rw [yn_S _ 32 (by decide), g2, e3]; exact f3), yn_S _ 32 (by decide), g2, e3]
  congr 1
  rw [ysum8]
  exact f4
