/-! Worths are numbers, and their order is one. -/
def yok (w : UInt32) : Bool := decide (w &&& 0x7fffffff ≤ 0x7f800000) && (match Jvm.FP.Core.decode Jvm.FP.Core.b32 w.toNat with | .fin _ _ q => decide ((-149 : Int) ≤ q) | _ => false)
theorem yworth : ∀ pr, pr < 102 → ∀ tr, tr < 101 → yok (sWorth (zi tr) (zi pr)) = true := by decide +kernel
theorem yok_g {w : UInt32} (h : yok w = true) : w &&& 0x7fffffff ≤ 0x7f800000 := by
  unfold yok at h
  simp only [Bool.and_eq_true, decide_eq_true_eq] at h
  exact h.1
theorem yok_f {w : UInt32} (h : yok w = true) : ∃ s c q, Jvm.FP.Core.decode Jvm.FP.Core.b32 w.toNat = .fin s c q ∧ (-149 : Int) ≤ q := by
  unfold yok at h
  simp only [Bool.and_eq_true] at h
  have h2 := h.2
  split at h2
  · rename_i s c q e
    exact ⟨s, c, q, e, of_decide_eq_true h2⟩
  · cases h2
/-- a worth as a whole number -/
def ykey (w : UInt32) : Int := match Jvm.FP.Core.decode Jvm.FP.Core.b32 w.toNat with | .fin s c q => Jvm.FP.Core.signed s (c * 2 ^ (q + 149).toNat) | _ => 0
theorem ysg (s : Bool) (c m : Nat) : Jvm.FP.Core.signed s (c * m) = Jvm.FP.Core.signed s c * (m : Int) := by
  unfold Jvm.FP.Core.signed
  cases s
  · simp
  · simp [Int.neg_mul]
theorem ycmp_mul {a b m : Int} (hm : 0 < m) : compare (a * m) (b * m) = compare a b := by
  rcases Int.lt_trichotomy a b with h | h | h
  · rw [Int.compare_eq_lt.mpr h, Int.compare_eq_lt.mpr (Int.mul_lt_mul_of_pos_right h hm)]
  · rw [h]
    rw [Int.compare_eq_eq.mpr rfl, Int.compare_eq_eq.mpr rfl]
  · rw [Int.compare_eq_gt.mpr h, Int.compare_eq_gt.mpr (Int.mul_lt_mul_of_pos_right h hm)]
theorem yfcmp {a b : UInt32} (ha : yok a = true) (hb : yok b = true) : FP.fcmp a b = some (compare (ykey a) (ykey b)) := by
  obtain ⟨s, c, q, e1, h1⟩ := yok_f ha
  obtain ⟨t, d, r, e2, h2⟩ := yok_f hb
  have e : FP.fcmp a b = Jvm.FP.Core.order (Jvm.FP.Core.decode Jvm.FP.Core.b32 a.toNat) (Jvm.FP.Core.decode Jvm.FP.Core.b32 b.toNat) := rfl
  unfold ykey
  rw [e, e1, e2]
  have k : ∀ (c : Nat) (q m : Int), (-149 : Int) ≤ m → m ≤ q → c * 2 ^ (q + 149).toNat = (c * 2 ^ (q - m).toNat) * 2 ^ (m + 149).toNat := by
    intro c q m hm hq
    rw [Nat.mul_assoc, ← Nat.pow_add]
    congr 2
    omega
  show some (compare (Jvm.FP.Core.signed s (c * 2 ^ (q - min q r).toNat)) (Jvm.FP.Core.signed t (d * 2 ^ (r - min q r).toNat))) = _
  congr 1
  show _ = compare (Jvm.FP.Core.signed s (c * 2 ^ (q + 149).toNat)) (Jvm.FP.Core.signed t (d * 2 ^ (r + 149).toNat))
  rw [k c q (min q r) (by omega) (by omega), k d r (min q r) (by omega) (by omega), ysg s (c * 2 ^ (q - min q r).toNat), ysg t (d * 2 ^ (r - min q r).toNat), ycmp_mul]
  exact Int.ofNat_lt.mpr (Nat.two_pow_pos _)
theorem ycv_l {a b : UInt32} (ha : yok a = true) (hb : yok b = true) : (Op.cmpValue (FP.fcmp a b) .l = zi 0) = (ykey a = ykey b) := by
  rw [yfcmp ha hb]
  unfold Op.cmpValue
  rcases Int.lt_trichotomy (ykey a) (ykey b) with h | h | h
  · rw [Int.compare_eq_lt.mpr h]
    exact propext ⟨fun q => absurd q (by decide), fun q => absurd q (by omega)⟩
  · rw [Int.compare_eq_eq.mpr h]
    exact propext ⟨fun _ => h, fun _ => rfl⟩
  · rw [Int.compare_eq_gt.mpr h]
    exact propext ⟨fun q => absurd q (by decide), fun q => absurd q (by omega)⟩
theorem ycv_g {a b : UInt32} (ha : yok a = true) (hb : yok b = true) : (Op.cmpValue (FP.fcmp a b) .g < zi 0) = (ykey a < ykey b) := by
  rw [yfcmp ha hb]
  unfold Op.cmpValue
  rcases Int.lt_trichotomy (ykey a) (ykey b) with h | h | h
  · rw [Int.compare_eq_lt.mpr h]
    exact propext ⟨fun _ => h, fun _ => by decide⟩
  · rw [Int.compare_eq_eq.mpr h]
    exact propext ⟨fun q => absurd q (by decide), fun q => absurd q (by omega)⟩
  · rw [Int.compare_eq_gt.mpr h]
    exact propext ⟨fun q => absurd q (by decide), fun q => absurd q (by omega)⟩
/-- the order of offers as a chain of keys -/
theorem sBef_key {T : ZD2} {r r2 : Nat} {w w2 : UInt32} (h1 : yok w = true) (h2 : yok w2 = true) : sBef T r w r2 w2 = decide (ykey w < ykey w2 ∨ (ykey w = ykey w2 ∧ (T 3 (5 * r + 1) < T 3 (5 * r2 + 1) ∨ (T 3 (5 * r + 1) = T 3 (5 * r2 + 1) ∧ r < r2)))) := by
  unfold sBef
  simp only [ycv_l h1 h2, ycv_g h1 h2]
  have nlt : ∀ {x : Int32}, ¬ x < x := fun {x} h => by
    have := Int32.lt_iff_toInt_lt.mp h
    omega
  by_cases a : ykey w = ykey w2
  · rw [if_pos a]
    by_cases b : T 3 (5 * r + 1) = T 3 (5 * r2 + 1)
    · rw [if_pos b]
      simp [a, b, nlt]
    · rw [if_neg b]
      simp [a, b]
  · rw [if_neg a]
    simp [a]
theorem yprice {T : ZD2} (I : zIv T) {r : Nat} (hr : r < 72) : ∃ pr, sPrice T r = zi pr ∧ pr < 102 := by
  obtain ⟨pr, tr, h1, h2, -⟩ := I.2.2.1.1 (r / 12) (by omega)
  unfold sPrice
  rw [h1]
  split
  · exact ⟨pr + 2, zi_add _ _, by omega⟩
  · exact ⟨pr, rfl, by omega⟩
theorem ytrust {T : ZD2} (I : zIv T) {p : Nat} (hp : p < 6) : ∃ tr, T 2 (12 * p + 4) = zi tr ∧ tr < 101 := by
  obtain ⟨pr, tr, -, -, h3, h4, -⟩ := I.2.2.1.1 p hp
  exact ⟨tr, h3, by omega⟩
theorem yWo {T : ZD2} (I : zIv T) {r : Nat} (hr : r < 72) : yok (sWo T r) = true := by
  obtain ⟨pr, e1, h1⟩ := yprice I hr
  obtain ⟨tr, e2, h2⟩ := ytrust I (p := r / 12) (by omega)
  unfold sWo
  rw [e1, e2]
  exact yworth pr h1 tr h2
theorem zIv_wok {T : ZD2} (I : zIv T) : zWok T := fun _ hr => yok_g (yWo I hr)
