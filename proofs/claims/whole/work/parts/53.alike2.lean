/-! Sales and entering keep the model's row and the tables alike. -/
section
variable {T : ZD2} {s : Nat → Int32}
theorem zRd_sale {r : Nat} {v w w' : Int32} (R : zRd s T) (hr : r < 72) (h6 : sNp T ≤ 6) (hw : v ≠ zn → w' = w) : zRd (zu (zu s (46 + 5 * r + 3) v) (46 + 5 * r + 4) w') (zw (zw T 3 (5 * r + 3) v) 3 (5 * r + 4) w) := by
  refine zRd_mk (T := T) (by rw [zw_ne (by omega), zw_ne (by omega)]) (by rw [zw_row (by omega), zw_row (by omega)]) ?_ ?_ ?_ ?_ ?_
  · intro i hi
    rw [zu_ne (by omega), zu_ne (by omega), zw_ne (by omega), zw_ne (by omega)]
    exact zRt_all.mp R.1 i hi
  · intro p hp
    have := R.2.1 p hp
    have e : ∀ j, j < 6 → zu (zu s (46 + 5 * r + 3) v) (46 + 5 * r + 4) w' (10 + 6 * p + j) = s (10 + 6 * p + j) := fun j hj => by rw [zu_ne (by omega), zu_ne (by omega)]
    have e0 := e 0 (by omega)
    rw [Nat.add_zero (10 + 6 * p)] at e0
    rw [e0, e 1 (by omega), e 2 (by omega), e 3 (by omega), e 4 (by omega), e 5 (by omega), zw_row (by omega), zw_row (by omega)]
    exact this
  · intro q hq
    obtain ⟨a1, a2, a3, a4, a5⟩ := R.2.2.1 q hq
    by_cases e : q = r
    · subst e
      rw [zw_self, zu_self]
      refine ⟨?_, ?_, ?_, ?_, ?_⟩
      · rw [zu_ne (by omega), zu_ne (by omega), zw_ne (by omega), zw_ne (by omega)]; exact a1
      · rw [zu_ne (by omega), zu_ne (by omega), zw_ne (by omega), zw_ne (by omega)]; exact a2
      · rw [zu_ne (by omega), zu_ne (by omega), zw_ne (by omega), zw_ne (by omega)]; exact a3
      · rw [zu_ne (by omega), zu_self, zw_ne (by omega), zw_self]
      · rw [zw_ne (by omega), zw_self]; exact hw
    · have f : ∀ j, j < 5 → zw (zw T 3 (5 * r + 3) v) 3 (5 * r + 4) w 3 (5 * q + j) = T 3 (5 * q + j) := fun j hj => by rw [zw_ne (by omega), zw_ne (by omega)]
      have g : ∀ j, j < 5 → zu (zu s (46 + 5 * r + 3) v) (46 + 5 * r + 4) w' (46 + 5 * q + j) = s (46 + 5 * q + j) := fun j hj => by rw [zu_ne (by omega), zu_ne (by omega)]
      have f0 := f 0 (by omega)
      have g0 := g 0 (by omega)
      rw [Nat.add_zero (5 * q)] at f0
      rw [Nat.add_zero (46 + 5 * q)] at g0
      rw [f0, f 1 (by omega), f 2 (by omega), f 3 (by omega), f 4 (by omega), g0, g 1 (by omega), g 2 (by omega), g 3 (by omega), g 4 (by omega)]
      exact ⟨a1, a2, a3, a4, a5⟩
  · intro f hf
    rw [zu_ne (by omega), zu_ne (by omega), zu_ne (by omega), zu_ne (by omega), zw_row (by omega), zw_row (by omega), zw_row (by omega), zw_row (by omega)]
    exact R.2.2.2.1 f hf
  · intro q hq
    rw [zu_ne (by omega), zu_ne (by omega), zw_row (by omega), zw_row (by omega)]
    exact R.2.2.2.2 q hq
theorem zRd_forget {r : Nat} (R : zRd s T) (hr : r < 72) (h6 : sNp T ≤ 6) : zRd (zu (zu s (46 + 5 * r + 3) zn) (46 + 5 * r + 4) (zi 0)) (uForget T r) := zRd_sale R hr h6 (fun h => absurd rfl h)
theorem zRd_enter {r f : Nat} (I : zIv T) (R : zRd s T) (hr : r < 72) (hf : f < 64) : zRd (zu s (46 + 5 * r) (zi f)) (uEnter T r f) := by
  have h6 := zIv_np6 I
  have hc := I.2.2.2.2.1.1 f hf
  have hle := sCnt_le T f
  unfold uEnter
  refine zRd_mk (T := T) (by rw [zw_ne (by omega), zw_ne (by omega)]) (by rw [zw_row (by omega), zw_row (by omega)]) ?_ ?_ ?_ ?_ ?_
  · intro i hi
    rw [zu_ne (by omega), zw_ne (by omega), zw_ne (by omega)]
    exact zRt_all.mp R.1 i hi
  · intro p hp
    have := R.2.1 p hp
    rw [zu_ne (by omega), zu_ne (by omega), zu_ne (by omega), zu_ne (by omega), zu_ne (by omega), zu_ne (by omega), zw_row (by omega), zw_row (by omega)]
    exact this
  · intro q hq
    obtain ⟨a1, a2, a3, a4, a5⟩ := R.2.2.1 q hq
    rw [zw_row (by omega)]
    have fj : ∀ j, 0 < j → j < 5 → zw T 3 (5 * r) (zi f) 3 (5 * q + j) = T 3 (5 * q + j) := fun j hj hj2 => zw_ne (by omega)
    have g : ∀ j, 0 < j → j < 5 → zu s (46 + 5 * r) (zi f) (46 + 5 * q + j) = s (46 + 5 * q + j) := fun j hj hj2 => zu_ne (by omega)
    rw [fj 1 (by omega) (by omega), fj 2 (by omega) (by omega), fj 3 (by omega) (by omega), fj 4 (by omega) (by omega), g 1 (by omega) (by omega), g 2 (by omega) (by omega), g 3 (by omega) (by omega), g 4 (by omega) (by omega)]
    refine ⟨?_, a2, a3, a4, a5⟩
    by_cases e : q = r
    · subst e
      rw [zu_self, zw_self]
    · rw [zu_ne (by omega), zw_ne (by omega)]
      exact a1
  · intro f' hf'
    obtain ⟨a1, a2⟩ := R.2.2.2.1 f' hf'
    rw [zu_ne (by omega), zu_ne (by omega), zw_ne (by omega), zw_row (by omega)]
    refine ⟨a1, fun h => ?_⟩
    by_cases e : f' = f
    · subst e
      rw [zw_self, hc, zi_add, zi_inj (by omega) (by omega)] at h
      omega
    · rw [zw_ne (by omega), zw_row (by omega)] at h
      rw [zw_ne (by omega), zw_row (by omega), zw_row (by omega), zw_row (by omega)]
      exact a2 h
  · intro q hq
    rw [zu_ne (by omega), zw_row (by omega), zw_row (by omega)]
    exact R.2.2.2.2 q hq
end
