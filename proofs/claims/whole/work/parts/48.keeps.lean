/-! What holds throughout is kept by each change. -/
theorem zct_acc (p : Nat → Bool) : ∀ d i c, zct p d i (c + 1) = zct p d i c + 1
  | 0, _, _ => rfl
  | d + 1, i, c => by
    show zct p d (i + 1) (if p i = true then c + 1 + 1 else c + 1) = zct p d (i + 1) (if p i = true then c + 1 else c) + 1
    split
    · exact zct_acc p d (i + 1) (c + 1)
    · exact zct_acc p d (i + 1) c
theorem zct_one {p q : Nat → Bool} {r : Nat} (hp : p r = true) (hq : q r = false) (h : ∀ j, j ≠ r → p j = q j) : ∀ d i c, i ≤ r → r < i + d → zct p d i c = zct q d i c + 1
  | 0, i, c, h1, h2 => by omega
  | d + 1, i, c, h1, h2 => by
    show zct p d (i + 1) (if p i = true then c + 1 else c) = zct q d (i + 1) (if q i = true then c + 1 else c) + 1
    by_cases e : i = r
    · subst e
      rw [if_pos hp, if_neg (by rw [hq]; simp), zct_acc]
      congr 1
      exact zct_congr fun j h3 h4 => h j (by omega)
    · rw [h i e]
      exact zct_one hp hq h d (i + 1) _ (by omega) (by omega)
theorem sCnt_out {T U : ZD2} {r f : Nat} (hr : r < 72) (hf : f < 64) (ha : T 3 (5 * r) = zi f) (hU : U 3 (5 * r) = zn) (ho : ∀ q, q ≠ r → U 3 (5 * q) = T 3 (5 * q)) : sCnt T f = sCnt U f + 1 ∧ ∀ f', f' < 64 → f' ≠ f → sCnt U f' = sCnt T f' := by
  constructor
  · refine zct_one (r := r) (by rw [ha]; simp) (decide_eq_false fun q => ?_) (fun j hj => by rw [ho j hj]) 72 0 0 (by omega) (by omega)
    rw [hU] at q
    exact (zn_ne_zi (by omega)).mp q
  · intro f' hf' hne
    refine zct_congr fun j _ _ => ?_
    by_cases e : j = r
    · subst e
      rw [hU, ha, decide_eq_false (fun q => (zn_ne_zi (by omega)).mp q), decide_eq_false (fun q => hne ((zi_inj (by omega) (by omega)).mp q).symm)]
    · rw [ho j e]
theorem sCnt_in {T U : ZD2} {r f : Nat} (hr : r < 72) (hf : f < 64) (ha : T 3 (5 * r) = zn) (hU : U 3 (5 * r) = zi f) (ho : ∀ q, q ≠ r → U 3 (5 * q) = T 3 (5 * q)) : sCnt U f = sCnt T f + 1 ∧ ∀ f', f' < 64 → f' ≠ f → sCnt U f' = sCnt T f' := by
  obtain ⟨h1, h2⟩ := sCnt_out hr hf hU ha (fun q hq => (ho q hq).symm)
  exact ⟨h1, fun f' a b => (h2 f' a b).symm⟩
theorem zi_pred {n : Nat} (h : 0 < n) : zi n + zn = zi (n - 1) := by
  obtain ⟨q, rfl⟩ : ∃ q, n = q + 1 := ⟨n - 1, by omega⟩
  rw [zi_dec]
  congr 1
theorem zIv_tm {T : ZD2} (I : zIv T) : ∃ tm, T 1 5 = zi tm ∧ tm ≤ 10300 := I.2.2.2.2.2.1
/-- the frames' cells after a page left -/
theorem uLeave_4 {T : ZD2} {r f : Nat} {w : Bool} (I : zIv T) (hr : r < 72) (hf : f < 64) (ha : T 3 (5 * r) = zi f) :
    (∀ j, uLeave T r f w 4 j = if j = 3 * f then zi (sCnt T f - 1) else if 1 < sCnt T f then T 4 j else if j = 3 * f + 1 then zi 0 else if j = 3 * f + 2 ∧ w = true ∧ sDirty T f = true ∧ zi 0 < T 0 2 then T 1 5 + T 0 2 else T 4 j) ∧ 0 < sCnt T f := by
  have hc := I.2.2.2.2.1.1 f hf
  have hpos : 0 < sCnt T f := by
    have := zct_one (p := fun r' => decide (T 3 (5 * r') = zi f)) (q := fun r' => decide (T 3 (5 * r') = zi f) && !decide (r' = r)) (r := r) (by rw [ha]; simp) (by simp) (fun j hj => by simp [hj]) 72 0 0 (by omega) (by omega)
    unfold sCnt
    omega
  have hle := sCnt_le T f
  refine ⟨fun j => ?_, hpos⟩
  have e1 : T 4 (3 * f) + zn = zi (sCnt T f - 1) := by rw [hc, zi_pred hpos]
  have e2 : sDirty (uLeft T r f) f = sDirty T f := by unfold sDirty uLeft; rw [zw_ne (by omega), zw_row (by omega)]
  have e3 : uLeft T r f 0 2 = T 0 2 := by unfold uLeft; rw [zw_row (by omega), zw_row (by omega)]
  have e4 : uLeft T r f 1 5 = T 1 5 := by unfold uLeft; rw [zw_row (by omega), zw_row (by omega)]
  have e5 : ∀ j, uLeft T r f 4 j = if j = 3 * f then zi (sCnt T f - 1) else T 4 j := by
    intro j
    unfold uLeft
    by_cases q : j = 3 * f
    · subst q
      rw [zw_self, if_pos rfl, e1]
    · rw [zw_ne (by omega), zw_row (by omega), if_neg q]
  unfold uLeave
  by_cases h1 : 1 < sCnt T f
  · rw [if_pos (by rw [e1, zi_lt (by omega) (by omega)]; omega), e5, if_pos h1]
  · rw [if_neg (by rw [e1, zi_lt (by omega) (by omega)]; omega), if_neg h1]
    unfold uFly
    rw [e2, e3, e4]
    by_cases q0 : j = 3 * f
    · subst q0
      rw [zw_ne (by omega), if_pos rfl]
      split
      · rw [zw_ne (by omega), e5, if_pos rfl]
      · rw [e5, if_pos rfl]
    · rw [if_neg q0]
      by_cases q1 : j = 3 * f + 1
      · subst q1
        rw [zw_self, if_pos rfl]
      · rw [zw_ne (by omega), if_neg q1]
        by_cases q2 : j = 3 * f + 2
        · subst q2
          by_cases qc : w = true ∧ sDirty T f = true ∧ zi 0 < T 0 2
          · rw [if_pos (by simp [qc.1, qc.2.1, qc.2.2]), if_pos ⟨rfl, qc⟩, zw_self]
          · rw [if_neg (fun h => qc (by simpa using h)), if_neg (fun h => qc h.2), e5, if_neg q0]
        · rw [if_neg (fun (h : j = 3 * f + 2 ∧ w = true ∧ sDirty T f = true ∧ zi 0 < T 0 2) => q2 h.1)]
          split
          · rw [zw_ne (by omega), e5, if_neg q0]
          · rw [e5, if_neg q0]
theorem zIv_leave {T : ZD2} {r f : Nat} {w : Bool} (I : zIv T) (hr : r < 72) (hf : f < 64) (ha : T 3 (5 * r) = zi f) : zIv (uLeave T r f w) := by
  obtain ⟨h4, hpos⟩ := uLeave_4 (w := w) I hr hf ha
  have h3 := uLeave_3 T r f w
  have h0 : uLeave T r f w 0 = T 0 := uLeave_o (by omega) (by omega)
  have h1 : uLeave T r f w 1 = T 1 := uLeave_o (by omega) (by omega)
  have h2 : uLeave T r f w 2 = T 2 := uLeave_o (by omega) (by omega)
  have h5 : uLeave T r f w 5 = T 5 := uLeave_o (by omega) (by omega)
  have hat : ∀ q, q ≠ r → uLeave T r f w 3 (5 * q) = T 3 (5 * q) := fun q hq => by rw [h3, zw_ne (by omega)]
  have hatr : uLeave T r f w 3 (5 * r) = zn := by rw [h3, zw_self]
  have hoth : ∀ q j, 0 < j → j < 5 → uLeave T r f w 3 (5 * q + j) = T 3 (5 * q + j) := fun q j a b => by rw [h3, zw_ne (by omega)]
  obtain ⟨c1, c2⟩ := sCnt_out hr hf ha hatr hat
  have np : sNp (uLeave T r f w) = sNp T := by unfold sNp; rw [h1]
  have nf : sNf (uLeave T r f w) = sNf T := by unfold sNf; rw [h0]
  have pg : ∀ p, sPgs (uLeave T r f w) p = sPgs T p := fun p => by unfold sPgs; rw [h2]
  generalize uLeave T r f w = U at *
  obtain ⟨Ia, ⟨Ib, Ib2⟩, ⟨Ic, Ic2⟩, ⟨Id, Id2⟩, ⟨Ie1, Ie2, Ie3⟩, If1, If2, If3, If4⟩ := I
  refine ⟨?_, ⟨?_, ?_⟩, ⟨?_, ?_⟩, ⟨?_, ?_⟩, ⟨?_, ?_, ?_⟩, ?_, ?_, ?_, ?_⟩
  · unfold zIa; rw [h0, h1, np, nf]; exact Ia
  · intro q hq
    by_cases e : q = r
    · exact Or.inl (by rw [e]; exact hatr)
    · rw [hat q e, nf]; exact Ib q hq
  · intro p hp; rw [h2, pg]; exact Ib2 p hp
  · intro p hp; rw [h2, np]; exact Ic p hp
  · intro p hp; rw [h2]; exact Ic2 p hp
  · intro q hq; rw [hoth q 2 (by omega) (by omega)]; exact Id q hq
  · intro p g hp hg hb
    rw [np, pg] at hb
    obtain ⟨a1, a2⟩ := Id2 p g hp hg hb
    refine ⟨?_, by rw [hoth _ 3 (by omega) (by omega)]; exact a2⟩
    by_cases e : 12 * p + g = r
    · rw [e]; exact hatr
    · rw [hat _ e]; exact a1
  · intro f' hf'
    rw [h4]
    by_cases e : f' = f
    · subst e
      rw [if_pos rfl]
      congr 1
      omega
    · rw [if_neg (by omega), c2 f' hf' e, ← Ie1 f' hf', if_neg (by omega : ¬ 3 * f' = 3 * f + 1), if_neg (by omega : ¬ (3 * f' = 3 * f + 2 ∧ _))]
      split <;> rfl
  · intro f' hf'
    rw [h4, if_neg (by omega)]
    by_cases e : f' = f
    · subst e
      by_cases hc : 1 < sCnt T f'
      · rw [if_pos hc]
        rcases Ie2 f' hf' with a | ⟨a, b⟩
        · exact Or.inl a
        · exact Or.inr ⟨a, by omega⟩
      · rw [if_neg hc, if_pos rfl]
        exact Or.inl rfl
    · rw [if_neg (by omega : ¬ 3 * f' + 1 = 3 * f + 1), if_neg (by omega : ¬ (3 * f' + 1 = 3 * f + 2 ∧ _)), c2 f' hf' e]
      split <;> exact Ie2 f' hf'
  · intro f' hf'
    rw [h4, if_neg (by omega), h1]
    by_cases e : f' = f
    · subst e
      have hz : T 4 (3 * f' + 2) = zn := by
        rcases Ie3 f' hf' with a | ⟨a, -⟩
        · exact a
        · omega
      by_cases hc : 1 < sCnt T f'
      · rw [if_pos hc]; exact Or.inl hz
      · rw [if_neg hc, if_neg (by omega)]
        split
        · rename_i hq
          right
          obtain ⟨tm, t1, t2⟩ := If1
          obtain ⟨fl, t3, t4⟩ := If2
          refine ⟨by omega, tm + fl, tm, ?_, t1, ?_, by omega⟩
          · rw [t1, t3, zi_add]
          · have := hq.2.2.2
            rw [t3, zi_lt (by omega) (by omega)] at this
            omega
        · exact Or.inl hz
    · rw [if_neg (by omega : ¬ 3 * f' + 2 = 3 * f + 1), if_neg (by omega : ¬ (3 * f' + 2 = 3 * f + 2 ∧ _)), c2 f' hf' e]
      split <;> exact Ie3 f' hf'
  · rw [h1]; exact If1
  · rw [h0]; exact If2
  · rw [h0]; exact If3
  · intro t ht j hj
    rcases (by omega : t = 0 ∨ t = 1 ∨ t = 2 ∨ t = 3 ∨ t = 4 ∨ t = 5) with rfl | rfl | rfl | rfl | rfl | rfl
    · rw [h0]; exact If4 0 ht j hj
    · rw [h1]; exact If4 1 ht j hj
    · rw [h2]; exact If4 2 ht j hj
    · have : 360 ≤ j := hj
      rw [h3, zw_ne (by omega)]; exact If4 3 ht j hj
    · have : 192 ≤ j := hj
      rw [h4, if_neg (by omega), if_neg (by omega : ¬ j = 3 * f + 1), if_neg (by omega : ¬ (j = 3 * f + 2 ∧ _))]
      split <;> exact If4 4 ht j hj
    · rw [h5]; exact If4 5 ht j hj
