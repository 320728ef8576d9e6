/-! Floats as doubles; a number equals itself. -/
theorem y64enc (s : Bool) (num den : Nat) (e : Int) : Jvm.FP.Core.encode Jvm.FP.Core.b64 (Jvm.FP.Core.roundRatio Jvm.FP.Core.b64 s num den e) % 9223372036854775808 ≤ 9218868437227405312 ∧ Jvm.FP.Core.encode Jvm.FP.Core.b64 (Jvm.FP.Core.roundRatio Jvm.FP.Core.b64 s num den e) < 18446744073709551616 := by
  have asm : ∀ (E t : Nat), E ≤ 2046 → t < 4503599627370496 → Jvm.FP.Core.assemble Jvm.FP.Core.b64 s E t % 9223372036854775808 ≤ 9218868437227405312 ∧ Jvm.FP.Core.assemble Jvm.FP.Core.b64 s E t < 18446744073709551616 := by
    intro E t hE ht
    have e1 : Jvm.FP.Core.assemble Jvm.FP.Core.b64 s E t = (s.toNat * 2048 + E) * 4503599627370496 + t := rfl
    have e2 : s.toNat ≤ 1 := Bool.toNat_le s
    rw [e1]
    omega
  have ainf : Jvm.FP.Core.encode Jvm.FP.Core.b64 (.inf s) % 9223372036854775808 ≤ 9218868437227405312 ∧ Jvm.FP.Core.encode Jvm.FP.Core.b64 (.inf s) < 18446744073709551616 := by
    cases s <;> decide
  have afin : ∀ (c : Nat) (q : Int), c < 9007199254740992 → q ≤ 971 → Jvm.FP.Core.encode Jvm.FP.Core.b64 (.fin s c q) % 9223372036854775808 ≤ 9218868437227405312 ∧ Jvm.FP.Core.encode Jvm.FP.Core.b64 (.fin s c q) < 18446744073709551616 := by
    intro c q hc hq
    have e1 : Jvm.FP.Core.encode Jvm.FP.Core.b64 (.fin s c q) = if c < 4503599627370496 then Jvm.FP.Core.assemble Jvm.FP.Core.b64 s 0 c else Jvm.FP.Core.assemble Jvm.FP.Core.b64 s ((q - (-1074 : Int)).toNat + 1) (c - 4503599627370496) := rfl
    rw [e1]
    split
    · exact asm _ _ (by omega) (by omega)
    · exact asm _ _ (by omega) (by omega)
  have abnd : ∀ (c : Nat) (q : Int), c < 9007199254740992 → Jvm.FP.Core.encode Jvm.FP.Core.b64 (Jvm.FP.Core.bound Jvm.FP.Core.b64 s c q) % 9223372036854775808 ≤ 9218868437227405312 ∧ Jvm.FP.Core.encode Jvm.FP.Core.b64 (Jvm.FP.Core.bound Jvm.FP.Core.b64 s c q) < 18446744073709551616 := by
    intro c q hc
    have e1 : Jvm.FP.Core.bound Jvm.FP.Core.b64 s c q = if q ≤ (971 : Int) then .fin s c q else .inf s := rfl
    rw [e1]
    split
    · rename_i hq
      exact afin c q hc hq
    · exact ainf
  unfold Jvm.FP.Core.roundRatio
  split
  · exact afin 0 _ (by omega) (by decide)
  · unfold Jvm.FP.Core.roundAt Jvm.FP.Core.settle
    split
    · rename_i hc
      exact abnd _ _ hc
    · exact abnd 4503599627370496 _ (by omega)
theorem y64le {n : Nat} (h1 : n % 9223372036854775808 ≤ 9218868437227405312) (h2 : n < 18446744073709551616) : UInt64.ofNat n &&& 0x7fffffffffffffff ≤ 0x7ff0000000000000 := by
  rw [UInt64.le_iff_toNat_le, UInt64.toNat_and]
  have e3 : (UInt64.ofNat n).toNat = n := UInt64.toNat_ofNat_of_lt h2
  have e4 : (0x7fffffffffffffff : UInt64).toNat = 2 ^ 63 - 1 := rfl
  have e5 : (0x7ff0000000000000 : UInt64).toNat = 9218868437227405312 := rfl
  rw [e3, e4, e5, Nat.and_two_pow_sub_one_eq_mod]
  exact h1
theorem y32num {w : UInt32} (h : w &&& 0x7fffffff ≤ 0x7f800000) : Jvm.FP.Core.decode Jvm.FP.Core.b32 w.toNat ≠ .nan := by
  rw [UInt32.le_iff_toNat_le, UInt32.toNat_and] at h
  have e4 : (0x7fffffff : UInt32).toNat = 2 ^ 31 - 1 := rfl
  have e5 : (0x7f800000 : UInt32).toNat = 2139095040 := rfl
  rw [e4, e5, Nat.and_two_pow_sub_one_eq_mod] at h
  generalize w.toNat = n at h
  have d : Jvm.FP.Core.decode Jvm.FP.Core.b32 n = if n / 8388608 % 256 = 255 then (if n % 8388608 = 0 then .inf (Jvm.FP.Core.fieldS Jvm.FP.Core.b32 n) else .nan) else if n / 8388608 % 256 = 0 then .fin (Jvm.FP.Core.fieldS Jvm.FP.Core.b32 n) (n % 8388608) Jvm.FP.Core.b32.qmin else .fin (Jvm.FP.Core.fieldS Jvm.FP.Core.b32 n) (8388608 + n % 8388608) (Jvm.FP.Core.b32.qmin + (((n / 8388608 % 256 : Nat) : Int) - 1)) := rfl
  rw [d]
  split
  · rename_i h1
    rw [if_pos (by omega)]
    exact fun q => Jvm.FP.Core.Datum.noConfusion q
  · split
    · exact fun q => Jvm.FP.Core.Datum.noConfusion q
    · exact fun q => Jvm.FP.Core.Datum.noConfusion q
theorem y64num {w : UInt64} (h : w &&& 0x7fffffffffffffff ≤ 0x7ff0000000000000) : Jvm.FP.Core.decode Jvm.FP.Core.b64 w.toNat ≠ .nan := by
  rw [UInt64.le_iff_toNat_le, UInt64.toNat_and] at h
  have e4 : (0x7fffffffffffffff : UInt64).toNat = 2 ^ 63 - 1 := rfl
  have e5 : (0x7ff0000000000000 : UInt64).toNat = 9218868437227405312 := rfl
  rw [e4, e5, Nat.and_two_pow_sub_one_eq_mod] at h
  generalize w.toNat = n at h
  have d : Jvm.FP.Core.decode Jvm.FP.Core.b64 n = if n / 4503599627370496 % 2048 = 2047 then (if n % 4503599627370496 = 0 then .inf (Jvm.FP.Core.fieldS Jvm.FP.Core.b64 n) else .nan) else if n / 4503599627370496 % 2048 = 0 then .fin (Jvm.FP.Core.fieldS Jvm.FP.Core.b64 n) (n % 4503599627370496) Jvm.FP.Core.b64.qmin else .fin (Jvm.FP.Core.fieldS Jvm.FP.Core.b64 n) (4503599627370496 + n % 4503599627370496) (Jvm.FP.Core.b64.qmin + (((n / 4503599627370496 % 2048 : Nat) : Int) - 1)) := rfl
  rw [d]
  split
  · rename_i h1
    rw [if_pos (by omega)]
    exact fun q => Jvm.FP.Core.Datum.noConfusion q
  · split
    · exact fun q => Jvm.FP.Core.Datum.noConfusion q
    · exact fun q => Jvm.FP.Core.Datum.noConfusion q
theorem yf2d {w : UInt32} (h : w &&& 0x7fffffff ≤ 0x7f800000) : FP.f2d w &&& 0x7fffffffffffffff ≤ 0x7ff0000000000000 := by
  have hn := y32num h
  have e : FP.f2d w = UInt64.ofNat (Jvm.FP.Core.encode Jvm.FP.Core.b64 (Jvm.FP.Core.round Jvm.FP.Core.b64 (Jvm.FP.Core.decode Jvm.FP.Core.b32 w.toNat))) := by
    show (if decide (Jvm.FP.Core.decode Jvm.FP.Core.b32 w.toNat = .nan) = true then _ else _ : UInt64) = _
    rw [decide_eq_false hn, if_neg Bool.false_ne_true]
    rfl
  rw [e]
  cases hd : Jvm.FP.Core.decode Jvm.FP.Core.b32 w.toNat with
  | nan => exact absurd hd hn
  | inf s => cases s <;> decide
  | fin s c q =>
    obtain ⟨h1, h2⟩ := y64enc s c 1 q
    exact y64le h1 h2
theorem ydself {w : UInt64} (h : w &&& 0x7fffffffffffffff ≤ 0x7ff0000000000000) (op : Jvm.ClassFile.CmpOp) : Op.cmpValue (FP.dcmp w w) op = 0 := by
  have hn := y64num h
  have e : FP.dcmp w w = some .eq := by
    show Jvm.FP.Core.order (Jvm.FP.Core.decode Jvm.FP.Core.b64 w.toNat) (Jvm.FP.Core.decode Jvm.FP.Core.b64 w.toNat) = _
    cases hd : Jvm.FP.Core.decode Jvm.FP.Core.b64 w.toNat with
    | nan => exact absurd hd hn
    | inf s => cases s <;> rfl
    | fin s c q =>
      show some (compare _ _) = _
      rw [Int.compare_eq_eq.mpr rfl]
  rw [e]
  rfl
/-- a float that is a number, a double -/
def okF (v : Value) : Prop := ∃ w, v = .float w ∧ w &&& 0x7fffffff ≤ 0x7f800000
def okD (v : Value) : Prop := ∃ w, v = .double w ∧ w &&& 0x7fffffffffffffff ≤ 0x7ff0000000000000
theorem okF_0 : okF (.float FP.fconst0) := ⟨_, rfl, by decide⟩
theorem okD_0 : okD (.double FP.dconst0) := ⟨_, rfl, by decide⟩
