/-! The model judges a page that comes back. -/
theorem zu_comm {s : Nat → Int32} {i j : Nat} {v w : Int32} (h : i ≠ j) : zu (zu s i v) j w = zu (zu s j w) i v := by
  funext q
  unfold zu
  by_cases h1 : q = j
  · subst h1
    rw [if_pos rfl, if_neg (fun e => h e.symm), if_pos rfl]
  · rw [if_neg h1, if_neg h1]
theorem zw_comm {T : ZD2} {a b i j : Nat} {v w : Int32} (h : a ≠ b ∨ i ≠ j) : zw (zw T a i v) b j w = zw (zw T b j w) a i v := by
  funext c q
  unfold zw
  by_cases h1 : c = b ∧ q = j
  · rw [if_pos h1, if_neg (by omega), if_pos h1]
  · rw [if_neg h1, if_neg h1]
section
variable {X : ZX} {D T : ZD2} {s : Nat → Int32} {O : ZO2} {k : Nat × Nat × Nat}
theorem zRd_tot {i : Nat} (R : zRd s T) (h1 : 1 ≤ i) (h9 : i ≤ 9) : zRd (zu s i (s i + zi 1)) (uTot T (i + 5)) := by
  have e := zRt_all.mp R.1 i h9
  unfold uTot
  rw [e]
  exact zRd_w1 R h1 h9
theorem zRd_np {T U : ZD2} (h : U 1 0 = T 1 0) : sNp U = sNp T := by unfold sNp; rw [h]
/-- credit back -/
def vBack (s : Nat → Int32) (p : Nat) (paid : Int32) : Nat → Int32 := zu (zu s (10 + 6 * p + 1) (s (10 + 6 * p + 1) + -paid)) 7 (s 7 + zi 1)
def vLied (s : Nat → Int32) (p : Nat) (t : Int32) : Nat → Int32 := zu (zu (zu s (10 + 6 * p + 2) t) (10 + 6 * p + 4) (s (10 + 6 * p + 4) + zi 1)) 8 (s 8 + zi 1)
theorem zRd_back {p : Nat} {paid : Int32} (R : zRd s T) (hp : p < sNp T) (h6 : sNp T ≤ 6) : zRd (vBack s p paid) (uBack T p paid) := by
  have e := (R.2.1 p hp).2.1
  have R1 := zRd_credit (v := s (10 + 6 * p + 1) + -paid) R (p := p) (by omega) h6
  have R2 := zRd_tot (i := 7) R1 (by omega) (by omega)
  rw [zu_ne (by omega)] at R2
  unfold vBack uBack
  rw [← e]
  exact R2
theorem zRd_lied {p : Nat} (R : zRd s T) (hp : p < sNp T) (h6 : sNp T ≤ 6) : zRd (vLied s p (zMx (zi 1) (zMn (T 2 (12 * p + 4) + -zi 10) (zi 100)))) (uLied T p) := by
  have e := (R.2.1 p hp).2.2.2.2.1
  have R1 := zRd_trust (v := zMx (zi 1) (zMn (T 2 (12 * p + 4) + -zi 10) (zi 100))) R (p := p) (by omega) h6
  have n1 : sNp (zw T 2 (12 * p + 4) (zMx (zi 1) (zMn (T 2 (12 * p + 4) + -zi 10) (zi 100)))) = sNp T := zRd_np (by rw [zw_row (by omega)])
  have R2 := zRd_lies (v := s (10 + 6 * p + 4) + zi 1) R1 (p := p) (by omega) (by omega)
  have R3 := zRd_tot (i := 8) R2 (by omega) (by omega)
  rw [zu_ne (by omega), zu_ne (by omega)] at R3
  unfold vLied uLied uTrust
  rw [← e]
  exact R3
def vForget (s : Nat → Int32) (r : Nat) : Nat → Int32 := zu (zu s (46 + 5 * r + 3) zn) (46 + 5 * r + 4) (zi 0)
theorem vForget_back {p r : Nat} {paid : Int32} (hp : p < 6) : vBack (vForget s r) p paid = vForget (vBack s p paid) r := by
  unfold vBack vForget
  funext q
  unfold zu
  (repeat' split) <;> first | rfl | (exfalso; omega)
theorem vForget_lied {p r : Nat} {t : Int32} (hp : p < 6) : vLied (vForget s r) p t = vForget (vLied s p t) r := by
  unfold vLied vForget
  funext q
  unfold zu
  (repeat' split) <;> first | rfl | (exfalso; omega)
theorem zTrUp {t : Nat} (h1 : 1 ≤ t) (h2 : t ≤ 100) : (if zi t + zi 1 < zi 100 then zi t + zi 1 else zi 100) = zMx (zi 1) (zMn (zi t + zi 1) (zi 100)) := by
  unfold zMx zMn
  rw [zi_add]
  by_cases h : t + 1 < 100
  · rw [if_pos (by rw [zi_lt (by omega) (by omega)]; exact h), if_pos (by rw [zi_lt (by omega) (by omega)]; omega)]
  · rw [if_neg (by rw [zi_lt (by omega) (by omega)]; exact h), if_pos (by rw [zi_lt (by omega) (by omega)]; omega)]
theorem zTrDn {t : Nat} (h1 : 1 ≤ t) (h2 : t ≤ 100) : (if zi 1 < zi t - zi 10 then zi t - zi 10 else zi 1) = zMx (zi 1) (zMn (zi t + -zi 10) (zi 100)) := by
  have e : zi t + -zi 10 = zi t - zi 10 := (Int32.sub_eq_add_neg _ _).symm
  have hlt : zi t - zi 10 < zi 100 := by
    by_cases h : 10 ≤ t
    · rw [zi_sub h (by omega), zi_lt (by omega) (by omega)]
      omega
    · have : zi t - zi 10 = -(zi (10 - t)) := by
        rcases (by omega : t = 1 ∨ t = 2 ∨ t = 3 ∨ t = 4 ∨ t = 5 ∨ t = 6 ∨ t = 7 ∨ t = 8 ∨ t = 9) with rfl | rfl | rfl | rfl | rfl | rfl | rfl | rfl | rfl <;> decide
      rw [this]
      rcases (by omega : t = 1 ∨ t = 2 ∨ t = 3 ∨ t = 4 ∨ t = 5 ∨ t = 6 ∨ t = 7 ∨ t = 8 ∨ t = 9) with rfl | rfl | rfl | rfl | rfl | rfl | rfl | rfl | rfl <;> decide
  unfold zMx zMn
  rw [e, if_pos hlt]
end
