/-! Single writes keep the model's row and the tables alike. -/
section
variable {T : ZD2} {s : Nat → Int32}
theorem zRt_all : zRt s T ↔ ∀ i, i ≤ 9 → s i = T 1 (i + 5) := by
  constructor
  · rintro ⟨⟨t0, t1, t2, t3, t4⟩, t5, t6, t7, t8, t9⟩ i hi
    rcases (by omega : i = 0 ∨ i = 1 ∨ i = 2 ∨ i = 3 ∨ i = 4 ∨ i = 5 ∨ i = 6 ∨ i = 7 ∨ i = 8 ∨ i = 9) with rfl | rfl | rfl | rfl | rfl | rfl | rfl | rfl | rfl | rfl
    · exact t0
    · exact t1
    · exact t2
    · exact t3
    · exact t4
    · exact t5
    · exact t6
    · exact t7
    · exact t8
    · exact t9
  · intro h
    exact ⟨⟨h 0 (by omega), h 1 (by omega), h 2 (by omega), h 3 (by omega), h 4 (by omega)⟩, h 5 (by omega), h 6 (by omega), h 7 (by omega), h 8 (by omega), h 9 (by omega)⟩
theorem zRd_mk {U : ZD2} {s' : Nat → Int32} (hnp : U 1 0 = T 1 0) (hnf : U 0 0 = T 0 0) (h1 : ∀ i, i ≤ 9 → s' i = U 1 (i + 5)) (h2 : ∀ p, p < sNp T → s' (10 + 6 * p) = U 2 (12 * p) ∧ s' (10 + 6 * p + 1) = U 2 (12 * p + 3) ∧ s' (10 + 6 * p + 2) = U 2 (12 * p + 4) ∧ s' (10 + 6 * p + 3) = U 2 (12 * p + 8) ∧ s' (10 + 6 * p + 4) = U 2 (12 * p + 9) ∧ s' (10 + 6 * p + 5) = U 2 (12 * p + 10)) (h3 : zRg2 s' U) (h4 : ∀ f, f < sNf T → s' (406 + 2 * f + 1) = U 4 (3 * f + 1) ∧ (U 4 (3 * f) = zi 0 → (U 4 (3 * f + 2) = zn ∧ ¬ U 1 5 < s' (406 + 2 * f)) ∨ (U 4 (3 * f + 2) = s' (406 + 2 * f) ∧ U 1 5 < s' (406 + 2 * f)))) (h5 : zRq s' U) : zRd s' U := by
  have e1 : sNp U = sNp T := by unfold sNp; rw [hnp]
  have e2 : sNf U = sNf T := by unfold sNf; rw [hnf]
  refine ⟨zRt_all.mpr h1, ?_, h3, ?_, h5⟩
  · intro p hp
    exact h2 p (by omega)
  · intro f hf
    exact h4 f (by omega)
theorem zRd_w1 {i : Nat} {v : Int32} (R : zRd s T) (h1 : 1 ≤ i) (h9 : i ≤ 9) : zRd (zu s i v) (zw T 1 (i + 5) v) :=
  zRd_mk (T := T) (zw_ne (by omega)) (by rw [zw_row (by omega)]) (fun i' hi' => by
    by_cases e : i' = i
    · subst e; rw [zu_self, zw_self]
    · rw [zu_ne e, zw_ne (by omega)]; exact zRt_all.mp R.1 i' hi') (fun p' hp' => by rw [zu_ne (by omega), zu_ne (by omega), zu_ne (by omega), zu_ne (by omega), zu_ne (by omega), zu_ne (by omega), zw_ne (by omega), zw_ne (by omega), zw_ne (by omega), zw_ne (by omega), zw_ne (by omega), zw_ne (by omega)]; exact R.2.1 p' hp') (fun r' hr' => by rw [zu_ne (by omega), zu_ne (by omega), zu_ne (by omega), zu_ne (by omega), zu_ne (by omega), zw_ne (by omega), zw_ne (by omega), zw_ne (by omega), zw_ne (by omega), zw_ne (by omega)]; exact R.2.2.1 r' hr') (fun f' hf' => by rw [zu_ne (by omega), zu_ne (by omega), zw_ne (by omega), zw_ne (by omega), zw_ne (by omega), zw_ne (by omega)]; exact R.2.2.2.1 f' hf') (fun q' hq' => by rw [zu_ne (by omega), zw_ne (by omega)]; exact R.2.2.2.2 q' hq')
theorem zRd_price {p : Nat} {v : Int32} (R : zRd s T) (hp : p < 6) (h6 : sNp T ≤ 6) : zRd (zu s (10 + 6 * p) v) (zw T 2 (12 * p) v) :=
  zRd_mk (T := T) (zw_ne (by omega)) (by rw [zw_row (by omega)]) (fun i hi => by rw [zu_ne (by omega), zw_ne (by omega)]; exact zRt_all.mp R.1 i hi) (fun p' hp' => by
    by_cases e : p' = p
    · subst e; exact ⟨by rw [zu_self, zw_self], by rw [zu_ne (by omega), zw_ne (by omega)]; exact (R.2.1 p' hp').2.1, by rw [zu_ne (by omega), zw_ne (by omega)]; exact (R.2.1 p' hp').2.2.1, by rw [zu_ne (by omega), zw_ne (by omega)]; exact (R.2.1 p' hp').2.2.2.1, by rw [zu_ne (by omega), zw_ne (by omega)]; exact (R.2.1 p' hp').2.2.2.2.1, by rw [zu_ne (by omega), zw_ne (by omega)]; exact (R.2.1 p' hp').2.2.2.2.2⟩
    · rw [zu_ne (by omega), zu_ne (by omega), zu_ne (by omega), zu_ne (by omega), zu_ne (by omega), zu_ne (by omega), zw_ne (by omega), zw_ne (by omega), zw_ne (by omega), zw_ne (by omega), zw_ne (by omega), zw_ne (by omega)]; exact R.2.1 p' hp') (fun r' hr' => by rw [zu_ne (by omega), zu_ne (by omega), zu_ne (by omega), zu_ne (by omega), zu_ne (by omega), zw_ne (by omega), zw_ne (by omega), zw_ne (by omega), zw_ne (by omega), zw_ne (by omega)]; exact R.2.2.1 r' hr') (fun f' hf' => by rw [zu_ne (by omega), zu_ne (by omega), zw_ne (by omega), zw_ne (by omega), zw_ne (by omega), zw_ne (by omega)]; exact R.2.2.2.1 f' hf') (fun q' hq' => by rw [zu_ne (by omega), zw_ne (by omega)]; exact R.2.2.2.2 q' hq')
theorem zRd_credit {p : Nat} {v : Int32} (R : zRd s T) (hp : p < 6) (h6 : sNp T ≤ 6) : zRd (zu s (10 + 6 * p + 1) v) (zw T 2 (12 * p + 3) v) :=
  zRd_mk (T := T) (zw_ne (by omega)) (by rw [zw_row (by omega)]) (fun i hi => by rw [zu_ne (by omega), zw_ne (by omega)]; exact zRt_all.mp R.1 i hi) (fun p' hp' => by
    by_cases e : p' = p
    · subst e; exact ⟨by rw [zu_ne (by omega), zw_ne (by omega)]; exact (R.2.1 p' hp').1, by rw [zu_self, zw_self], by rw [zu_ne (by omega), zw_ne (by omega)]; exact (R.2.1 p' hp').2.2.1, by rw [zu_ne (by omega), zw_ne (by omega)]; exact (R.2.1 p' hp').2.2.2.1, by rw [zu_ne (by omega), zw_ne (by omega)]; exact (R.2.1 p' hp').2.2.2.2.1, by rw [zu_ne (by omega), zw_ne (by omega)]; exact (R.2.1 p' hp').2.2.2.2.2⟩
    · rw [zu_ne (by omega), zu_ne (by omega), zu_ne (by omega), zu_ne (by omega), zu_ne (by omega), zu_ne (by omega), zw_ne (by omega), zw_ne (by omega), zw_ne (by omega), zw_ne (by omega), zw_ne (by omega), zw_ne (by omega)]; exact R.2.1 p' hp') (fun r' hr' => by rw [zu_ne (by omega), zu_ne (by omega), zu_ne (by omega), zu_ne (by omega), zu_ne (by omega), zw_ne (by omega), zw_ne (by omega), zw_ne (by omega), zw_ne (by omega), zw_ne (by omega)]; exact R.2.2.1 r' hr') (fun f' hf' => by rw [zu_ne (by omega), zu_ne (by omega), zw_ne (by omega), zw_ne (by omega), zw_ne (by omega), zw_ne (by omega)]; exact R.2.2.2.1 f' hf') (fun q' hq' => by rw [zu_ne (by omega), zw_ne (by omega)]; exact R.2.2.2.2 q' hq')
theorem zRd_trust {p : Nat} {v : Int32} (R : zRd s T) (hp : p < 6) (h6 : sNp T ≤ 6) : zRd (zu s (10 + 6 * p + 2) v) (zw T 2 (12 * p + 4) v) :=
  zRd_mk (T := T) (zw_ne (by omega)) (by rw [zw_row (by omega)]) (fun i hi => by rw [zu_ne (by omega), zw_ne (by omega)]; exact zRt_all.mp R.1 i hi) (fun p' hp' => by
    by_cases e : p' = p
    · subst e; exact ⟨by rw [zu_ne (by omega), zw_ne (by omega)]; exact (R.2.1 p' hp').1, by rw [zu_ne (by omega), zw_ne (by omega)]; exact (R.2.1 p' hp').2.1, by rw [zu_self, zw_self], by rw [zu_ne (by omega), zw_ne (by omega)]; exact (R.2.1 p' hp').2.2.2.1, by rw [zu_ne (by omega), zw_ne (by omega)]; exact (R.2.1 p' hp').2.2.2.2.1, by rw [zu_ne (by omega), zw_ne (by omega)]; exact (R.2.1 p' hp').2.2.2.2.2⟩
    · rw [zu_ne (by omega), zu_ne (by omega), zu_ne (by omega), zu_ne (by omega), zu_ne (by omega), zu_ne (by omega), zw_ne (by omega), zw_ne (by omega), zw_ne (by omega), zw_ne (by omega), zw_ne (by omega), zw_ne (by omega)]; exact R.2.1 p' hp') (fun r' hr' => by rw [zu_ne (by omega), zu_ne (by omega), zu_ne (by omega), zu_ne (by omega), zu_ne (by omega), zw_ne (by omega), zw_ne (by omega), zw_ne (by omega), zw_ne (by omega), zw_ne (by omega)]; exact R.2.2.1 r' hr') (fun f' hf' => by rw [zu_ne (by omega), zu_ne (by omega), zw_ne (by omega), zw_ne (by omega), zw_ne (by omega), zw_ne (by omega)]; exact R.2.2.2.1 f' hf') (fun q' hq' => by rw [zu_ne (by omega), zw_ne (by omega)]; exact R.2.2.2.2 q' hq')
theorem zRd_faults {p : Nat} {v : Int32} (R : zRd s T) (hp : p < 6) (h6 : sNp T ≤ 6) : zRd (zu s (10 + 6 * p + 3) v) (zw T 2 (12 * p + 8) v) :=
  zRd_mk (T := T) (zw_ne (by omega)) (by rw [zw_row (by omega)]) (fun i hi => by rw [zu_ne (by omega), zw_ne (by omega)]; exact zRt_all.mp R.1 i hi) (fun p' hp' => by
    by_cases e : p' = p
    · subst e; exact ⟨by rw [zu_ne (by omega), zw_ne (by omega)]; exact (R.2.1 p' hp').1, by rw [zu_ne (by omega), zw_ne (by omega)]; exact (R.2.1 p' hp').2.1, by rw [zu_ne (by omega), zw_ne (by omega)]; exact (R.2.1 p' hp').2.2.1, by rw [zu_self, zw_self], by rw [zu_ne (by omega), zw_ne (by omega)]; exact (R.2.1 p' hp').2.2.2.2.1, by rw [zu_ne (by omega), zw_ne (by omega)]; exact (R.2.1 p' hp').2.2.2.2.2⟩
    · rw [zu_ne (by omega), zu_ne (by omega), zu_ne (by omega), zu_ne (by omega), zu_ne (by omega), zu_ne (by omega), zw_ne (by omega), zw_ne (by omega), zw_ne (by omega), zw_ne (by omega), zw_ne (by omega), zw_ne (by omega)]; exact R.2.1 p' hp') (fun r' hr' => by rw [zu_ne (by omega), zu_ne (by omega), zu_ne (by omega), zu_ne (by omega), zu_ne (by omega), zw_ne (by omega), zw_ne (by omega), zw_ne (by omega), zw_ne (by omega), zw_ne (by omega)]; exact R.2.2.1 r' hr') (fun f' hf' => by rw [zu_ne (by omega), zu_ne (by omega), zw_ne (by omega), zw_ne (by omega), zw_ne (by omega), zw_ne (by omega)]; exact R.2.2.2.1 f' hf') (fun q' hq' => by rw [zu_ne (by omega), zw_ne (by omega)]; exact R.2.2.2.2 q' hq')
theorem zRd_lies {p : Nat} {v : Int32} (R : zRd s T) (hp : p < 6) (h6 : sNp T ≤ 6) : zRd (zu s (10 + 6 * p + 4) v) (zw T 2 (12 * p + 9) v) :=
  zRd_mk (T := T) (zw_ne (by omega)) (by rw [zw_row (by omega)]) (fun i hi => by rw [zu_ne (by omega), zw_ne (by omega)]; exact zRt_all.mp R.1 i hi) (fun p' hp' => by
    by_cases e : p' = p
    · subst e; exact ⟨by rw [zu_ne (by omega), zw_ne (by omega)]; exact (R.2.1 p' hp').1, by rw [zu_ne (by omega), zw_ne (by omega)]; exact (R.2.1 p' hp').2.1, by rw [zu_ne (by omega), zw_ne (by omega)]; exact (R.2.1 p' hp').2.2.1, by rw [zu_ne (by omega), zw_ne (by omega)]; exact (R.2.1 p' hp').2.2.2.1, by rw [zu_self, zw_self], by rw [zu_ne (by omega), zw_ne (by omega)]; exact (R.2.1 p' hp').2.2.2.2.2⟩
    · rw [zu_ne (by omega), zu_ne (by omega), zu_ne (by omega), zu_ne (by omega), zu_ne (by omega), zu_ne (by omega), zw_ne (by omega), zw_ne (by omega), zw_ne (by omega), zw_ne (by omega), zw_ne (by omega), zw_ne (by omega)]; exact R.2.1 p' hp') (fun r' hr' => by rw [zu_ne (by omega), zu_ne (by omega), zu_ne (by omega), zu_ne (by omega), zu_ne (by omega), zw_ne (by omega), zw_ne (by omega), zw_ne (by omega), zw_ne (by omega), zw_ne (by omega)]; exact R.2.2.1 r' hr') (fun f' hf' => by rw [zu_ne (by omega), zu_ne (by omega), zw_ne (by omega), zw_ne (by omega), zw_ne (by omega), zw_ne (by omega)]; exact R.2.2.2.1 f' hf') (fun q' hq' => by rw [zu_ne (by omega), zw_ne (by omega)]; exact R.2.2.2.2 q' hq')
theorem zRd_ended {p : Nat} {v : Int32} (R : zRd s T) (hp : p < 6) (h6 : sNp T ≤ 6) : zRd (zu s (10 + 6 * p + 5) v) (zw T 2 (12 * p + 10) v) :=
  zRd_mk (T := T) (zw_ne (by omega)) (by rw [zw_row (by omega)]) (fun i hi => by rw [zu_ne (by omega), zw_ne (by omega)]; exact zRt_all.mp R.1 i hi) (fun p' hp' => by
    by_cases e : p' = p
    · subst e; exact ⟨by rw [zu_ne (by omega), zw_ne (by omega)]; exact (R.2.1 p' hp').1, by rw [zu_ne (by omega), zw_ne (by omega)]; exact (R.2.1 p' hp').2.1, by rw [zu_ne (by omega), zw_ne (by omega)]; exact (R.2.1 p' hp').2.2.1, by rw [zu_ne (by omega), zw_ne (by omega)]; exact (R.2.1 p' hp').2.2.2.1, by rw [zu_ne (by omega), zw_ne (by omega)]; exact (R.2.1 p' hp').2.2.2.2.1, by rw [zu_self, zw_self]⟩
    · rw [zu_ne (by omega), zu_ne (by omega), zu_ne (by omega), zu_ne (by omega), zu_ne (by omega), zu_ne (by omega), zw_ne (by omega), zw_ne (by omega), zw_ne (by omega), zw_ne (by omega), zw_ne (by omega), zw_ne (by omega)]; exact R.2.1 p' hp') (fun r' hr' => by rw [zu_ne (by omega), zu_ne (by omega), zu_ne (by omega), zu_ne (by omega), zu_ne (by omega), zw_ne (by omega), zw_ne (by omega), zw_ne (by omega), zw_ne (by omega), zw_ne (by omega)]; exact R.2.2.1 r' hr') (fun f' hf' => by rw [zu_ne (by omega), zu_ne (by omega), zw_ne (by omega), zw_ne (by omega), zw_ne (by omega), zw_ne (by omega)]; exact R.2.2.2.1 f' hf') (fun q' hq' => by rw [zu_ne (by omega), zw_ne (by omega)]; exact R.2.2.2.2 q' hq')
theorem zRd_used {r : Nat} {v : Int32} (R : zRd s T) (hr : r < 72) (h6 : sNp T ≤ 6) : zRd (zu s (46 + 5 * r + 1) v) (zw T 3 (5 * r + 1) v) :=
  zRd_mk (T := T) (zw_ne (by omega)) (by rw [zw_row (by omega)]) (fun i hi => by rw [zu_ne (by omega), zw_ne (by omega)]; exact zRt_all.mp R.1 i hi) (fun p' hp' => by rw [zu_ne (by omega), zu_ne (by omega), zu_ne (by omega), zu_ne (by omega), zu_ne (by omega), zu_ne (by omega), zw_ne (by omega), zw_ne (by omega), zw_ne (by omega), zw_ne (by omega), zw_ne (by omega), zw_ne (by omega)]; exact R.2.1 p' hp') (fun r' hr' => by
    by_cases e : r' = r
    · subst e; exact ⟨by rw [zu_ne (by omega), zw_ne (by omega)]; exact (R.2.2.1 r' hr').1, by rw [zu_self, zw_self], by rw [zu_ne (by omega), zw_ne (by omega)]; exact (R.2.2.1 r' hr').2.2.1, by rw [zu_ne (by omega), zw_ne (by omega)]; exact (R.2.2.1 r' hr').2.2.2.1, by rw [zu_ne (by omega), zw_ne (by omega), zw_ne (by omega)]; exact (R.2.2.1 r' hr').2.2.2.2⟩
    · rw [zu_ne (by omega), zu_ne (by omega), zu_ne (by omega), zu_ne (by omega), zu_ne (by omega), zw_ne (by omega), zw_ne (by omega), zw_ne (by omega), zw_ne (by omega), zw_ne (by omega)]; exact R.2.2.1 r' hr') (fun f' hf' => by rw [zu_ne (by omega), zu_ne (by omega), zw_ne (by omega), zw_ne (by omega), zw_ne (by omega), zw_ne (by omega)]; exact R.2.2.2.1 f' hf') (fun q' hq' => by rw [zu_ne (by omega), zw_ne (by omega)]; exact R.2.2.2.2 q' hq')
theorem zRd_pin {r : Nat} {v : Int32} (R : zRd s T) (hr : r < 72) (h6 : sNp T ≤ 6) : zRd (zu s (46 + 5 * r + 2) v) (zw T 3 (5 * r + 2) v) :=
  zRd_mk (T := T) (zw_ne (by omega)) (by rw [zw_row (by omega)]) (fun i hi => by rw [zu_ne (by omega), zw_ne (by omega)]; exact zRt_all.mp R.1 i hi) (fun p' hp' => by rw [zu_ne (by omega), zu_ne (by omega), zu_ne (by omega), zu_ne (by omega), zu_ne (by omega), zu_ne (by omega), zw_ne (by omega), zw_ne (by omega), zw_ne (by omega), zw_ne (by omega), zw_ne (by omega), zw_ne (by omega)]; exact R.2.1 p' hp') (fun r' hr' => by
    by_cases e : r' = r
    · subst e; exact ⟨by rw [zu_ne (by omega), zw_ne (by omega)]; exact (R.2.2.1 r' hr').1, by rw [zu_ne (by omega), zw_ne (by omega)]; exact (R.2.2.1 r' hr').2.1, by rw [zu_self, zw_self], by rw [zu_ne (by omega), zw_ne (by omega)]; exact (R.2.2.1 r' hr').2.2.2.1, by rw [zu_ne (by omega), zw_ne (by omega), zw_ne (by omega)]; exact (R.2.2.1 r' hr').2.2.2.2⟩
    · rw [zu_ne (by omega), zu_ne (by omega), zu_ne (by omega), zu_ne (by omega), zu_ne (by omega), zw_ne (by omega), zw_ne (by omega), zw_ne (by omega), zw_ne (by omega), zw_ne (by omega)]; exact R.2.2.1 r' hr') (fun f' hf' => by rw [zu_ne (by omega), zu_ne (by omega), zw_ne (by omega), zw_ne (by omega), zw_ne (by omega), zw_ne (by omega)]; exact R.2.2.2.1 f' hf') (fun q' hq' => by rw [zu_ne (by omega), zw_ne (by omega)]; exact R.2.2.2.2 q' hq')
theorem zRd_place {q : Nat} {v : Int32} (R : zRd s T) (hq : q < 6) (h6 : sNp T ≤ 6) (h64 : sNf T ≤ 64) : zRd (zu s (534 + q) v) (zw T 5 q v) :=
  zRd_mk (T := T) (zw_ne (by omega)) (by rw [zw_row (by omega)]) (fun i hi => by rw [zu_ne (by omega), zw_ne (by omega)]; exact zRt_all.mp R.1 i hi) (fun p' hp' => by rw [zu_ne (by omega), zu_ne (by omega), zu_ne (by omega), zu_ne (by omega), zu_ne (by omega), zu_ne (by omega), zw_ne (by omega), zw_ne (by omega), zw_ne (by omega), zw_ne (by omega), zw_ne (by omega), zw_ne (by omega)]; exact R.2.1 p' hp') (fun r' hr' => by rw [zu_ne (by omega), zu_ne (by omega), zu_ne (by omega), zu_ne (by omega), zu_ne (by omega), zw_ne (by omega), zw_ne (by omega), zw_ne (by omega), zw_ne (by omega), zw_ne (by omega)]; exact R.2.2.1 r' hr') (fun f' hf' => by rw [zu_ne (by omega), zu_ne (by omega), zw_ne (by omega), zw_ne (by omega), zw_ne (by omega), zw_ne (by omega)]; exact R.2.2.2.1 f' hf') (fun q' hq' => by
    by_cases e : q' = q
    · subst e; rw [zu_self, zw_self]
    · rw [zu_ne (by omega), zw_ne (by omega)]; exact R.2.2.2.2 q' hq')
theorem zRd_dirty {f : Nat} {v : Int32} (R : zRd s T) (hf : f < 64) (h6 : sNp T ≤ 6) : zRd (zu s (406 + 2 * f + 1) v) (zw T 4 (3 * f + 1) v) :=
  zRd_mk (T := T) (zw_ne (by omega)) (by rw [zw_row (by omega)]) (fun i hi => by rw [zu_ne (by omega), zw_ne (by omega)]; exact zRt_all.mp R.1 i hi) (fun p' hp' => by rw [zu_ne (by omega), zu_ne (by omega), zu_ne (by omega), zu_ne (by omega), zu_ne (by omega), zu_ne (by omega), zw_ne (by omega), zw_ne (by omega), zw_ne (by omega), zw_ne (by omega), zw_ne (by omega), zw_ne (by omega)]; exact R.2.1 p' hp') (fun r' hr' => by rw [zu_ne (by omega), zu_ne (by omega), zu_ne (by omega), zu_ne (by omega), zu_ne (by omega), zw_ne (by omega), zw_ne (by omega), zw_ne (by omega), zw_ne (by omega), zw_ne (by omega)]; exact R.2.2.1 r' hr') (fun f' hf' => by
    by_cases e : f' = f
    · subst e; rw [zu_self, zw_self, zu_ne (by omega), zw_ne (by omega), zw_ne (by omega), zw_ne (by omega)]; exact ⟨rfl, (R.2.2.2.1 f' hf').2⟩
    · rw [zu_ne (by omega), zu_ne (by omega), zw_ne (by omega), zw_ne (by omega), zw_ne (by omega), zw_ne (by omega)]; exact R.2.2.2.1 f' hf') (fun q' hq' => by rw [zu_ne (by omega), zw_ne (by omega)]; exact R.2.2.2.2 q' hq')
end
