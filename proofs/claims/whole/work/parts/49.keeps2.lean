/-! What holds throughout is kept by entering, and by writes elsewhere. -/
theorem zFin_w {T : ZD2} {t j : Nat} {v : Int32} (h : zFin T) (hj : t < 6 → j < zLn t) : zFin (zw T t j v) := by
  intro t' ht j' hj'
  by_cases e : t' = t ∧ j' = j
  · obtain ⟨rfl, rfl⟩ := e
    have := hj ht
    omega
  · rw [zw_ne e]
    exact h t' ht j' hj'
theorem zIv_gen {T U : ZD2} (I : zIv T) (h0 : U 0 = T 0) (h1 : U 1 0 = T 1 0) (h15 : U 1 5 = T 1 5) (hp1 : ∀ p, p < 6 → U 2 (12 * p + 1) = T 2 (12 * p + 1)) (hc : ∀ p, p < 6 → ∃ pr tr, U 2 (12 * p) = zi pr ∧ pr ≤ 99 ∧ U 2 (12 * p + 4) = zi tr ∧ tr ≤ 100 ∧ (p < sNp T → 1 ≤ tr)) (he : ∀ p, p < 6 → U 2 (12 * p + 10) = zi 0 ∨ U 2 (12 * p + 10) = zi 1) (hat : ∀ r, r < 72 → U 3 (5 * r) = T 3 (5 * r)) (hpin : ∀ r, r < 72 → U 3 (5 * r + 2) = zi 0 ∨ U 3 (5 * r + 2) = zi 1) (hs : ∀ r, r < 72 → U 3 (5 * r + 3) = T 3 (5 * r + 3) ∨ U 3 (5 * r + 3) = zn ∨ T 3 (5 * r) ≠ zn) (hf0 : ∀ f, f < 64 → U 4 (3 * f) = T 4 (3 * f)) (hf2 : ∀ f, f < 64 → U 4 (3 * f + 2) = T 4 (3 * f + 2)) (hf1 : ∀ f, f < 64 → U 4 (3 * f + 1) = zi 0 ∨ (U 4 (3 * f + 1) = zi 1 ∧ 0 < sCnt T f)) (hF : zFin U) : zIv U := by
  have np : sNp U = sNp T := by unfold sNp; rw [h1]
  have nf : sNf U = sNf T := by unfold sNf; rw [h0]
  have pg : ∀ p, p < 6 → sPgs U p = sPgs T p := fun p hp => by unfold sPgs; rw [hp1 p hp]
  have cn : ∀ f, sCnt U f = sCnt T f := fun f => zct_congr fun j _ hj => by rw [hat j (by omega)]
  obtain ⟨Ia, ⟨Ib, Ib2⟩, -, ⟨-, Id2⟩, ⟨Ie1, -, Ie3⟩, If1, If2, If3, -⟩ := I
  refine ⟨?_, ⟨?_, ?_⟩, ⟨?_, he⟩, ⟨hpin, ?_⟩, ⟨?_, ?_, ?_⟩, ?_, ?_, ?_, hF⟩
  · unfold zIa; rw [h0, h1, np, nf]; exact Ia
  · intro q hq; rw [hat q hq, nf]; exact Ib q hq
  · intro p hp; rw [hp1 p hp, pg p hp]; exact Ib2 p hp
  · intro p hp; rw [np]; exact hc p hp
  · intro p g hp hg hb
    rw [np, pg p hp] at hb
    obtain ⟨a1, a2⟩ := Id2 p g hp hg hb
    refine ⟨by rw [hat _ (by omega)]; exact a1, ?_⟩
    rcases hs (12 * p + g) (by omega) with q | q | q
    · rw [q]; exact a2
    · exact q
    · exact absurd a1 q
  · intro f hf; rw [hf0 f hf, cn]; exact Ie1 f hf
  · intro f hf; rw [cn]; exact hf1 f hf
  · intro f hf; rw [hf2 f hf, cn, h15]; exact Ie3 f hf
  · rw [h15]; exact If1
  · rw [h0]; exact If2
  · rw [h0]; exact If3
theorem zIv_enter {T : ZD2} {r f : Nat} (I : zIv T) (hr : r < 72) (hf : f < sNf T) (ha : T 3 (5 * r) = zn) (hv : r / 12 < sNp T ∧ r - r / 12 * 12 < sPgs T (r / 12)) (hu : T 4 (3 * f + 2) = zn) : zIv (uEnter T r f) := by
  have n4 := zIv_nf64 I
  have hf64 : f < 64 := by omega
  have h0 : uEnter T r f 0 = T 0 := by unfold uEnter; rw [zw_row (by omega), zw_row (by omega)]
  have h1 : uEnter T r f 1 = T 1 := by unfold uEnter; rw [zw_row (by omega), zw_row (by omega)]
  have h2 : uEnter T r f 2 = T 2 := by unfold uEnter; rw [zw_row (by omega), zw_row (by omega)]
  have h5 : uEnter T r f 5 = T 5 := by unfold uEnter; rw [zw_row (by omega), zw_row (by omega)]
  have h3 : uEnter T r f 3 = zw T 3 (5 * r) (zi f) 3 := by unfold uEnter; rw [zw_row (by omega)]
  have hle := sCnt_le T f
  have h4 : ∀ j, uEnter T r f 4 j = if j = 3 * f then zi (sCnt T f + 1) else T 4 j := by
    intro j
    unfold uEnter
    by_cases q : j = 3 * f
    · subst q
      rw [zw_self, if_pos rfl, I.2.2.2.2.1.1 f hf64, zi_add]
    · rw [zw_ne (by omega), zw_row (by omega), if_neg q]
  have hat : ∀ q, q ≠ r → uEnter T r f 3 (5 * q) = T 3 (5 * q) := fun q hq => by rw [h3, zw_ne (by omega)]
  have hatr : uEnter T r f 3 (5 * r) = zi f := by rw [h3, zw_self]
  have hoth : ∀ q j, 0 < j → j < 5 → uEnter T r f 3 (5 * q + j) = T 3 (5 * q + j) := fun q j a b => by rw [h3, zw_ne (by omega)]
  obtain ⟨c1, c2⟩ := sCnt_in hr hf64 ha hatr hat
  have np : sNp (uEnter T r f) = sNp T := by unfold sNp; rw [h1]
  have nf : sNf (uEnter T r f) = sNf T := by unfold sNf; rw [h0]
  have pg : ∀ p, sPgs (uEnter T r f) p = sPgs T p := fun p => by unfold sPgs; rw [h2]
  generalize uEnter T r f = U at *
  obtain ⟨Ia, ⟨Ib, Ib2⟩, ⟨Ic, Ic2⟩, ⟨Id, Id2⟩, ⟨Ie1, Ie2, Ie3⟩, If1, If2, If3, If4⟩ := I
  refine ⟨?_, ⟨?_, ?_⟩, ⟨?_, ?_⟩, ⟨?_, ?_⟩, ⟨?_, ?_, ?_⟩, ?_, ?_, ?_, ?_⟩
  · unfold zIa; rw [h0, h1, np, nf]; exact Ia
  · intro q hq
    by_cases e : q = r
    · exact Or.inr ⟨f, by rw [nf]; exact hf, by rw [e]; exact hatr⟩
    · rw [hat q e, nf]; exact Ib q hq
  · intro p hp; rw [h2, pg]; exact Ib2 p hp
  · intro p hp; rw [h2, np]; exact Ic p hp
  · intro p hp; rw [h2]; exact Ic2 p hp
  · intro q hq; rw [hoth q 2 (by omega) (by omega)]; exact Id q hq
  · intro p g hp hg hb
    rw [np, pg] at hb
    obtain ⟨a1, a2⟩ := Id2 p g hp hg hb
    refine ⟨?_, by rw [hoth _ 3 (by omega) (by omega)]; exact a2⟩
    by_cases e : 12 * p + g = r
    · exfalso
      have e1 : r / 12 = p := by omega
      rw [e1] at hv
      omega
    · rw [hat _ e]; exact a1
  · intro f' hf'
    rw [h4]
    by_cases e : f' = f
    · subst e
      rw [if_pos rfl, c1]
    · rw [if_neg (by omega), c2 f' hf' e]
      exact Ie1 f' hf'
  · intro f' hf'
    rw [h4, if_neg (by omega)]
    by_cases e : f' = f
    · subst e
      rcases Ie2 f' hf' with a | ⟨a, b⟩
      · exact Or.inl a
      · exact Or.inr ⟨a, by omega⟩
    · rw [c2 f' hf' e]; exact Ie2 f' hf'
  · intro f' hf'
    rw [h4, if_neg (by omega), h1]
    by_cases e : f' = f
    · subst e
      exact Or.inl hu
    · rw [c2 f' hf' e]; exact Ie3 f' hf'
  · rw [h1]; exact If1
  · rw [h0]; exact If2
  · rw [h0]; exact If3
  · intro t ht j hj
    rcases (by omega : t = 0 ∨ t = 1 ∨ t = 2 ∨ t = 3 ∨ t = 4 ∨ t = 5) with rfl | rfl | rfl | rfl | rfl | rfl
    · rw [h0]; exact If4 0 ht j hj
    · rw [h1]; exact If4 1 ht j hj
    · rw [h2]; exact If4 2 ht j hj
    · have : 360 ≤ j := hj
      rw [h3, zw_ne (by omega)]; exact If4 3 ht j hj
    · have : 192 ≤ j := hj
      rw [h4, if_neg (by omega)]; exact If4 4 ht j hj
    · rw [h5]; exact If4 5 ht j hj
