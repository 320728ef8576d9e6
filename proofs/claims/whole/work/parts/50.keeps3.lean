/-! Single writes keep what holds throughout. -/
section
variable {T : ZD2}
theorem zIv_w1 {c : Nat} {v : Int32} (I : zIv T) (h0 : c ≠ 0) (h5 : c ≠ 5) (hc : c < 15) : zIv (zw T 1 c v) :=
  zIv_gen I (zw_row (by omega)) (zw_ne (by omega)) (zw_ne (by omega)) (fun p' hp' => zw_ne (by omega)) (fun p' hp' => by rw [zw_ne (by omega), zw_ne (by omega)]; exact I.2.2.1.1 p' hp') (fun p' hp' => by rw [zw_ne (by omega)]; exact I.2.2.1.2 p' hp') (fun r' hr' => zw_ne (by omega)) (fun r' hr' => by rw [zw_ne (by omega)]; exact I.2.2.2.1.1 r' hr') (fun r' hr' => Or.inl (zw_ne (by omega))) (fun f' hf' => zw_ne (by omega)) (fun f' hf' => zw_ne (by omega)) (fun f' hf' => by rw [zw_ne (by omega)]; exact I.2.2.2.2.1.2.1 f' hf') (zFin_w (zIv_fin I) (fun _ => by simp only [zLn]; omega))
theorem zIv_w2 {p c : Nat} {v : Int32} (I : zIv T) (hp : p < 6) (hc : c < 12) (h : c ≠ 0 ∧ c ≠ 1 ∧ c ≠ 4 ∧ c ≠ 10) : zIv (zw T 2 (12 * p + c) v) :=
  zIv_gen I (zw_row (by omega)) (zw_ne (by omega)) (zw_ne (by omega)) (fun p' hp' => zw_ne (by omega)) (fun p' hp' => by rw [zw_ne (by omega), zw_ne (by omega)]; exact I.2.2.1.1 p' hp') (fun p' hp' => by rw [zw_ne (by omega)]; exact I.2.2.1.2 p' hp') (fun r' hr' => zw_ne (by omega)) (fun r' hr' => by rw [zw_ne (by omega)]; exact I.2.2.2.1.1 r' hr') (fun r' hr' => Or.inl (zw_ne (by omega))) (fun f' hf' => zw_ne (by omega)) (fun f' hf' => zw_ne (by omega)) (fun f' hf' => by rw [zw_ne (by omega)]; exact I.2.2.2.2.1.2.1 f' hf') (zFin_w (zIv_fin I) (fun _ => by simp only [zLn]; omega))
theorem zIv_used {r : Nat} {v : Int32} (I : zIv T) (hr : r < 72) : zIv (zw T 3 (5 * r + 1) v) :=
  zIv_gen I (zw_row (by omega)) (zw_ne (by omega)) (zw_ne (by omega)) (fun p' hp' => zw_ne (by omega)) (fun p' hp' => by rw [zw_ne (by omega), zw_ne (by omega)]; exact I.2.2.1.1 p' hp') (fun p' hp' => by rw [zw_ne (by omega)]; exact I.2.2.1.2 p' hp') (fun r' hr' => zw_ne (by omega)) (fun r' hr' => by rw [zw_ne (by omega)]; exact I.2.2.2.1.1 r' hr') (fun r' hr' => Or.inl (zw_ne (by omega))) (fun f' hf' => zw_ne (by omega)) (fun f' hf' => zw_ne (by omega)) (fun f' hf' => by rw [zw_ne (by omega)]; exact I.2.2.2.2.1.2.1 f' hf') (zFin_w (zIv_fin I) (fun _ => by simp only [zLn]; omega))
theorem zIv_paid {r : Nat} {v : Int32} (I : zIv T) (hr : r < 72) : zIv (zw T 3 (5 * r + 4) v) :=
  zIv_gen I (zw_row (by omega)) (zw_ne (by omega)) (zw_ne (by omega)) (fun p' hp' => zw_ne (by omega)) (fun p' hp' => by rw [zw_ne (by omega), zw_ne (by omega)]; exact I.2.2.1.1 p' hp') (fun p' hp' => by rw [zw_ne (by omega)]; exact I.2.2.1.2 p' hp') (fun r' hr' => zw_ne (by omega)) (fun r' hr' => by rw [zw_ne (by omega)]; exact I.2.2.2.1.1 r' hr') (fun r' hr' => Or.inl (zw_ne (by omega))) (fun f' hf' => zw_ne (by omega)) (fun f' hf' => zw_ne (by omega)) (fun f' hf' => by rw [zw_ne (by omega)]; exact I.2.2.2.2.1.2.1 f' hf') (zFin_w (zIv_fin I) (fun _ => by simp only [zLn]; omega))
theorem zIv_sold {r : Nat} {v : Int32} (I : zIv T) (hr : r < 72) (h : v = zn ∨ T 3 (5 * r) ≠ zn) : zIv (zw T 3 (5 * r + 3) v) :=
  zIv_gen I (zw_row (by omega)) (zw_ne (by omega)) (zw_ne (by omega)) (fun p' hp' => zw_ne (by omega)) (fun p' hp' => by rw [zw_ne (by omega), zw_ne (by omega)]; exact I.2.2.1.1 p' hp') (fun p' hp' => by rw [zw_ne (by omega)]; exact I.2.2.1.2 p' hp') (fun r' hr' => zw_ne (by omega)) (fun r' hr' => by rw [zw_ne (by omega)]; exact I.2.2.2.1.1 r' hr') (fun r' hr' => by
    by_cases e : r' = r
    · subst e; rw [zw_self]; exact Or.inr h
    · exact Or.inl (zw_ne (by omega))) (fun f' hf' => zw_ne (by omega)) (fun f' hf' => zw_ne (by omega)) (fun f' hf' => by rw [zw_ne (by omega)]; exact I.2.2.2.2.1.2.1 f' hf') (zFin_w (zIv_fin I) (fun _ => by simp only [zLn]; omega))
theorem zIv_pin {r : Nat} {w : Bool} (I : zIv T) (hr : r < 72) : zIv (zw T 3 (5 * r + 2) (zb w)) :=
  zIv_gen I (zw_row (by omega)) (zw_ne (by omega)) (zw_ne (by omega)) (fun p' hp' => zw_ne (by omega)) (fun p' hp' => by rw [zw_ne (by omega), zw_ne (by omega)]; exact I.2.2.1.1 p' hp') (fun p' hp' => by rw [zw_ne (by omega)]; exact I.2.2.1.2 p' hp') (fun r' hr' => zw_ne (by omega)) (fun r' hr' => by
    by_cases e : r' = r
    · subst e; rw [zw_self]; cases w; exact Or.inl rfl; exact Or.inr rfl
    · rw [zw_ne (by omega)]; exact I.2.2.2.1.1 r' hr') (fun r' hr' => Or.inl (zw_ne (by omega))) (fun f' hf' => zw_ne (by omega)) (fun f' hf' => zw_ne (by omega)) (fun f' hf' => by rw [zw_ne (by omega)]; exact I.2.2.2.2.1.2.1 f' hf') (zFin_w (zIv_fin I) (fun _ => by simp only [zLn]; omega))
theorem zIv_dirty {f : Nat} {w : Bool} (I : zIv T) (hf : f < 64) (h : 0 < sCnt T f) : zIv (zw T 4 (3 * f + 1) (zb w)) :=
  zIv_gen I (zw_row (by omega)) (zw_ne (by omega)) (zw_ne (by omega)) (fun p' hp' => zw_ne (by omega)) (fun p' hp' => by rw [zw_ne (by omega), zw_ne (by omega)]; exact I.2.2.1.1 p' hp') (fun p' hp' => by rw [zw_ne (by omega)]; exact I.2.2.1.2 p' hp') (fun r' hr' => zw_ne (by omega)) (fun r' hr' => by rw [zw_ne (by omega)]; exact I.2.2.2.1.1 r' hr') (fun r' hr' => Or.inl (zw_ne (by omega))) (fun f' hf' => zw_ne (by omega)) (fun f' hf' => zw_ne (by omega)) (fun f' hf' => by
    by_cases e : f' = f
    · subst e; rw [zw_self]; cases w; exact Or.inl rfl; exact Or.inr ⟨rfl, h⟩
    · rw [zw_ne (by omega)]; exact I.2.2.2.2.1.2.1 f' hf') (zFin_w (zIv_fin I) (fun _ => by simp only [zLn]; omega))
theorem zIv_trust {p t : Nat} (I : zIv T) (hp : p < 6) (h1 : 1 ≤ t) (h2 : t ≤ 100) : zIv (zw T 2 (12 * p + 4) (zi t)) :=
  zIv_gen I (zw_row (by omega)) (zw_ne (by omega)) (zw_ne (by omega)) (fun p' hp' => zw_ne (by omega)) (fun p' hp' => by
    obtain ⟨pr, tr, a1, a2, a3, a4, a5⟩ := I.2.2.1.1 p' hp'
    by_cases e : p' = p
    · subst e; exact ⟨pr, t, by rw [zw_ne (by omega)]; exact a1, a2, zw_self _ _ _ _, h2, fun _ => h1⟩
    · exact ⟨pr, tr, by rw [zw_ne (by omega)]; exact a1, a2, by rw [zw_ne (by omega)]; exact a3, a4, a5⟩) (fun p' hp' => by rw [zw_ne (by omega)]; exact I.2.2.1.2 p' hp') (fun r' hr' => zw_ne (by omega)) (fun r' hr' => by rw [zw_ne (by omega)]; exact I.2.2.2.1.1 r' hr') (fun r' hr' => Or.inl (zw_ne (by omega))) (fun f' hf' => zw_ne (by omega)) (fun f' hf' => zw_ne (by omega)) (fun f' hf' => by rw [zw_ne (by omega)]; exact I.2.2.2.2.1.2.1 f' hf') (zFin_w (zIv_fin I) (fun _ => by simp only [zLn]; omega))
theorem zIv_price {p t : Nat} (I : zIv T) (hp : p < 6) (h2 : t ≤ 99) : zIv (zw T 2 (12 * p) (zi t)) :=
  zIv_gen I (zw_row (by omega)) (zw_ne (by omega)) (zw_ne (by omega)) (fun p' hp' => zw_ne (by omega)) (fun p' hp' => by
    obtain ⟨pr, tr, a1, a2, a3, a4, a5⟩ := I.2.2.1.1 p' hp'
    by_cases e : p' = p
    · subst e; exact ⟨t, tr, zw_self _ _ _ _, h2, by rw [zw_ne (by omega)]; exact a3, a4, a5⟩
    · exact ⟨pr, tr, by rw [zw_ne (by omega)]; exact a1, a2, by rw [zw_ne (by omega)]; exact a3, a4, a5⟩) (fun p' hp' => by rw [zw_ne (by omega)]; exact I.2.2.1.2 p' hp') (fun r' hr' => zw_ne (by omega)) (fun r' hr' => by rw [zw_ne (by omega)]; exact I.2.2.2.1.1 r' hr') (fun r' hr' => Or.inl (zw_ne (by omega))) (fun f' hf' => zw_ne (by omega)) (fun f' hf' => zw_ne (by omega)) (fun f' hf' => by rw [zw_ne (by omega)]; exact I.2.2.2.2.1.2.1 f' hf') (zFin_w (zIv_fin I) (fun _ => by simp only [zLn]; omega))
theorem zIv_ended {p : Nat} (I : zIv T) (hp : p < 6) : zIv (zw T 2 (12 * p + 10) (zi 1)) :=
  zIv_gen I (zw_row (by omega)) (zw_ne (by omega)) (zw_ne (by omega)) (fun p' hp' => zw_ne (by omega)) (fun p' hp' => by rw [zw_ne (by omega), zw_ne (by omega)]; exact I.2.2.1.1 p' hp') (fun p' hp' => by
    by_cases e : p' = p
    · subst e; rw [zw_self]; exact Or.inr rfl
    · rw [zw_ne (by omega)]; exact I.2.2.1.2 p' hp') (fun r' hr' => zw_ne (by omega)) (fun r' hr' => by rw [zw_ne (by omega)]; exact I.2.2.2.1.1 r' hr') (fun r' hr' => Or.inl (zw_ne (by omega))) (fun f' hf' => zw_ne (by omega)) (fun f' hf' => zw_ne (by omega)) (fun f' hf' => by rw [zw_ne (by omega)]; exact I.2.2.2.2.1.2.1 f' hf') (zFin_w (zIv_fin I) (fun _ => by simp only [zLn]; omega))
theorem zIv_place {q : Nat} {v : Int32} (I : zIv T) (hq : q < 6) : zIv (zw T 5 q v) :=
  zIv_gen I (zw_row (by omega)) (zw_ne (by omega)) (zw_ne (by omega)) (fun p' hp' => zw_ne (by omega)) (fun p' hp' => by rw [zw_ne (by omega), zw_ne (by omega)]; exact I.2.2.1.1 p' hp') (fun p' hp' => by rw [zw_ne (by omega)]; exact I.2.2.1.2 p' hp') (fun r' hr' => zw_ne (by omega)) (fun r' hr' => by rw [zw_ne (by omega)]; exact I.2.2.2.1.1 r' hr') (fun r' hr' => Or.inl (zw_ne (by omega))) (fun f' hf' => zw_ne (by omega)) (fun f' hf' => zw_ne (by omega)) (fun f' hf' => by rw [zw_ne (by omega)]; exact I.2.2.2.2.1.2.1 f' hf') (zFin_w (zIv_fin I) (fun _ => by simp only [zLn]; omega))
theorem zIv_tot {c : Nat} (I : zIv T) (h0 : c ≠ 0) (h5 : c ≠ 5) (hc : c < 15) : zIv (uTot T c) := zIv_w1 I h0 h5 hc
theorem zIv_forget {r : Nat} (I : zIv T) (hr : r < 72) : zIv (uForget T r) := zIv_paid (zIv_sold I hr (Or.inl rfl)) hr
theorem zIv_usedt {r : Nat} (I : zIv T) (hr : r < 72) : zIv (uUsed T r) := zIv_w1 (zIv_used I hr) (by omega) (by omega) (by omega)
theorem sCnt_o {U : ZD2} {f : Nat} (h : ∀ r, r < 72 → U 3 (5 * r) = T 3 (5 * r)) : sCnt U f = sCnt T f := zct_congr fun j _ hj => by rw [h j (by omega)]
theorem zIv_use {r f : Nat} {w : Bool} (I : zIv T) (hr : r < 72) (hf : f < 64) (h : 0 < sCnt T f) : zIv (uUse T r f w) := by
  unfold uUse
  have I2 := zIv_usedt I hr
  split
  · refine zIv_dirty (w := true) I2 hf ?_
    rw [sCnt_o (T := T)]
    · exact h
    · intro q hq
      unfold uUsed
      rw [zw_row (by omega), zw_ne (by omega)]
  · exact I2
theorem zMM {t y : Int32} : ∃ q, 1 ≤ q ∧ q ≤ 100 ∧ zMx (zi 1) (zMn (t + y) (zi 100)) = zi q := by
  unfold zMx zMn
  generalize t + y = a
  by_cases h1 : a < zi 100
  · rw [if_pos h1]
    by_cases h2 : zi 1 < a
    · rw [if_pos h2]
      have h0 : ¬ a < zi 0 := fun h => by
        have := Int32.lt_trans h2 h
        rw [zi_lt (by omega) (by omega)] at this
        omega
      have e := zi_of h0
      have h3 := zi_lt_of (by omega) h0 h1
      refine ⟨a.toNatClampNeg, ?_, by omega, e⟩
      rw [e, zi_lt (by omega) (by omega)] at h2
      omega
    · rw [if_neg h2]
      exact ⟨1, by omega, by omega, rfl⟩
  · rw [if_neg h1]
    exact ⟨100, by omega, by omega, by rw [if_pos (by rw [zi_lt (by omega) (by omega)]; omega)]⟩
theorem zIv_uTrust {p : Nat} {y : Int32} (I : zIv T) (hp : p < 6) : zIv (uTrust T p y) := by
  obtain ⟨q, h1, h2, e⟩ := zMM (t := T 2 (12 * p + 4)) (y := y)
  unfold uTrust
  rw [e]
  exact zIv_trust I hp h1 h2
end
