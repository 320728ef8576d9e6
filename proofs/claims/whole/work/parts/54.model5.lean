/-! The model judges a page that comes back. -/
theorem zu_comm {s : Nat → Int32} {i j : Nat} {v w : Int32} (h : i ≠ j) : zu (zu s i v) j w = zu (zu s j w) i v := by
  funext q
  unfold zu
  by_cases h1 : q = j
  · subst h1
    rw [if_pos rfl, if_neg (fun e => h e.symm), if_pos rfl]
  · rw [if_neg h1, if_neg h1]
theorem zw_comm {T : ZD2} {a b i j : Nat} {v w : Int32} (h : a ≠ b ∨ i ≠ j) : zw (zw T a i v) b j w = zw (zw T b j w) a i v := by
  funext c q
  unfold zw
  by_cases h1 : c = b ∧ q = j
  · rw [if_pos h1, if_neg (by omega), if_pos h1]
  · rw [if_neg h1, if_neg h1]
section
variable {X : ZX} {D T : ZD2} {s : Nat → Int32} {O : ZO2} {k : Nat × Nat × Nat}
theorem zRd_tot {i : Nat} (R : zRd s T) (h1 : 1 ≤ i) (h9 : i ≤ 9) : zRd (zu s i (s i + zi 1)) (uTot T (i + 5)) := by
  have e := zRt_all.mp R.1 i h9
  unfold uTot
  rw [e]
  exact zRd_w1 R h1 h9
theorem zRd_np {T U : ZD2} (h : U 1 0 = T 1 0) : sNp U = sNp T := by unfold sNp; rw [h]
end
