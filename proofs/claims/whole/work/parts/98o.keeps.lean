/-! Touches and time behind a change. -/
/-- time and touches stay -/
def zQn (T U : ZD2) : Prop := U 1 5 = T 1 5 ∧ U 1 6 = T 1 6 ∧ U 1 14 = T 1 14
theorem zQn_rfl {T : ZD2} : zQn T T := ⟨rfl, rfl, rfl⟩
theorem zQn_tr {T U V : ZD2} (h1 : zQn T U) (h2 : zQn U V) : zQn T V := ⟨h2.1.trans h1.1, h2.2.1.trans h1.2.1, h2.2.2.trans h1.2.2⟩
theorem zQn_w {T U : ZD2} {t j : Nat} {v : Int32} (h : zQn T U) (h3 : t = 1 → j ≠ 5 ∧ j ≠ 6 ∧ j ≠ 14) : zQn T (zw U t j v) := zQn_tr h ⟨zw_ne (by omega), zw_ne (by omega), zw_ne (by omega)⟩
theorem zQn_leave {T U : ZD2} {r f : Nat} {w : Bool} (h : zQn T U) : zQn T (uLeave U r f w) := zQn_tr h ⟨by rw [uLeave_o (by omega) (by omega)], by rw [uLeave_o (by omega) (by omega)], by rw [uLeave_o (by omega) (by omega)]⟩
theorem zQn_enter {T U : ZD2} {r f : Nat} (h : zQn T U) : zQn T (uEnter U r f) := zQn_w (zQn_w h (by omega)) (by omega)
theorem zQn_forget {T U : ZD2} {r : Nat} (h : zQn T U) : zQn T (uForget U r) := zQn_w (zQn_w h (by omega)) (by omega)
theorem zQn_judge {T U : ZD2} {p r : Nat} (h : zQn T U) : zQn T (rJudge U p r).2 := by
  have h1 := zQn_forget (r := r) h
  unfold rJudge
  split
  · split
    · exact zQn_w (zQn_w (zQn_w (zQn_w (zQn_w h1 (by omega)) (by omega)) (by omega)) (by omega)) (by omega)
    · exact zQn_w (zQn_w h1 (by omega)) (by omega)
  · exact zQn_w h1 (by omega)
theorem zQn_buy {T U : ZD2} {r f : Nat} (h : zQn T U) : zQn T (uBuy U r f) := zQn_w (zQn_leave (zQn_w (zQn_w (zQn_w h (by omega)) (by omega)) (by omega))) (by omega)
theorem zQn_buys {T : ZD2} (l : List Nat) : ∀ d i U, zQn T U → zQn T (zfo (sBuyF l) d i U)
  | 0, _, _, h => h
  | d + 1, i, U, h => by
    rw [zfo]
    refine zQn_buys l d (i + 1) _ ?_
    unfold sBuyF
    exact zQn_buy h
theorem zQn_ask {T : ZD2} {n : Nat} : zQn T (rAsk T n) := by
  unfold rAsk
  exact zQn_buys _ _ _ _ zQn_rfl
theorem zQn_takes {T : ZD2} : ∀ d U, zQn T U → zQn T (rTakes d U).2
  | 0, U, h => by rw [rTakes]; exact h
  | d + 1, U, h => by
    rw [rTakes]
    cases ht : sTaken U with
    | none => exact h
    | some r =>
      refine zQn_takes d _ ?_
      unfold rTake
      rw [ht]
      exact zQn_w (zQn_w (zQn_leave h) (by omega)) (by omega)
theorem zQn_ends {T : ZD2} {p : Nat} : ∀ d i U, zQn T U → zQn T (zfo (uEndRow p) d i U)
  | 0, _, _, h => h
  | d + 1, i, U, h => by
    rw [zfo]
    exact zQn_ends d (i + 1) _ (zQn_tr h ⟨by rw [uEndRow_1], by rw [uEndRow_1], by rw [uEndRow_1]⟩)
theorem zQn_end {T : ZD2} {p : Nat} : zQn T (uEnd T p) := by
  unfold uEnd
  exact zQn_w (zQn_ends _ _ _ zQn_rfl) (by omega)
/-- time stays, a touch more at most, a fetch more with it at most -/
def zTj (T U : ZD2) : Prop := (U 1 5 = T 1 5 ∨ ∃ tm, U 1 5 = zi tm ∧ tm ≤ 9999) ∧ ((U 1 6 = T 1 6 ∧ U 1 14 = T 1 14) ∨ (U 1 6 = T 1 6 + zi 1 ∧ (U 1 14 = T 1 14 ∨ U 1 14 = T 1 14 + zi 1)))
theorem zTj_q {T U : ZD2} (h : zQn T U) : zTj T U := ⟨Or.inl h.1, Or.inl h.2⟩
theorem zTj_tr {T U V : ZD2} (h1 : zTj T U) (h2 : zQn U V) : zTj T V := by
  unfold zTj
  rw [h2.1, h2.2.1, h2.2.2]
  exact h1
theorem zTj_ask {T : ZD2} {n : Nat} : zTj T (rAsk T n) := zTj_q zQn_ask
theorem zTj_use {T U : ZD2} {r f : Nat} {w : Bool} (h5 : U 1 5 = T 1 5) (h6 : U 1 6 = T 1 6) (h14 : U 1 14 = T 1 14 ∨ U 1 14 = T 1 14 + zi 1) : zTj T (uUse U r f w) := by
  have k : zTj T (uUsed U r) := by
    have e5 : uUsed U r 1 5 = T 1 5 := (zw_ne (by omega)).trans ((zw_nea (by omega)).trans h5)
    have e6 : uUsed U r 1 6 = T 1 6 + zi 1 := by rw [← h6]; exact zw_self _ _ _ _
    have e14 : uUsed U r 1 14 = U 1 14 := (zw_ne (by omega)).trans (zw_nea (by omega))
    exact ⟨Or.inl e5, Or.inr ⟨e6, by rw [e14]; exact h14⟩⟩
  unfold uUse
  split
  · exact zTj_tr k (zQn_w zQn_rfl (by omega))
  · exact k
theorem zTj_touch {T : ZD2} {p g : Nat} {w : Bool} : zTj T (rTouch T p g w).2 := by
  unfold rTouch
  split
  · split
    · unfold rCopy
      cases sFree T with
      | none => exact zTj_q (zQn_w zQn_rfl (by omega))
      | some f' =>
        have q : zQn T (uEnter (uLeave T (12 * p + g) (sFr T (12 * p + g)) true) (12 * p + g) f') := zQn_enter (zQn_leave zQn_rfl)
        exact zTj_tr (zTj_use q.1 q.2.1 (Or.inl q.2.2)) (zQn_w zQn_rfl (by omega))
    · exact zTj_use rfl rfl (Or.inl rfl)
  · unfold rFetch
    have E1 : zQn T (uFault T p) := zQn_w (zQn_w zQn_rfl (by omega)) (by omega)
    cases sFree T with
    | none => exact zTj_q (zQn_w E1 (by omega))
    | some f =>
      have e5 : uEnter (uTot (uFault T p) 14) (12 * p + g) f 1 5 = T 1 5 := ((zw_nea (by omega)).trans ((zw_nea (by omega)).trans (zw_ne (by omega)))).trans E1.1
      have e6 : uEnter (uTot (uFault T p) 14) (12 * p + g) f 1 6 = T 1 6 := ((zw_nea (by omega)).trans ((zw_nea (by omega)).trans (zw_ne (by omega)))).trans E1.2.1
      have e14 : uEnter (uTot (uFault T p) 14) (12 * p + g) f 1 14 = T 1 14 + zi 1 := ((zw_nea (by omega)).trans ((zw_nea (by omega)).trans (zw_self _ _ _ _))).trans (by rw [E1.2.2])
      have E2 : zTj T (uFetch (uFault T p) (12 * p + g) f w) := zTj_use e5 e6 (Or.inr e14)
      show zTj T (if sSold T (12 * p + g) = true then _ else _ : Int32 × ZD2).2
      split
      · exact zTj_tr E2 (zQn_judge zQn_rfl)
      · exact E2
theorem ygOk_of {n : Nat} {T U : ZD2} (K : ygOk n T) (I : zIv U) (E : zEx U) (Z : zPz U) (J : zTj T U) : ygOk (n + 1) U := by
  obtain ⟨_, _, _, ⟨t, f, d1, d2, d3, d4⟩, tm, t1, t2⟩ := K
  refine ⟨I, E, Z, ?_, ?_⟩
  · rcases J.2 with ⟨j1, j2⟩ | ⟨j1, j2 | j2⟩
    · exact ⟨t, f, j1.trans d1, j2.trans d2, d3, by omega⟩
    · exact ⟨t + 1, f, by rw [j1, d1, zi_add], j2.trans d2, by omega, by omega⟩
    · exact ⟨t + 1, f + 1, by rw [j1, d1, zi_add], by rw [j2, d2, zi_add], by omega, by omega⟩
  · rcases J.1 with j | j
    · exact ⟨tm, j.trans t1, t2⟩
    · exact j
theorem zPz_pin {T : ZD2} {p g : Nat} {w : Bool} (Z : zPz T) (hp : p < sNp T) (hg : g < sPgs T p) (h12 : sPgs T p ≤ 12) : zPz (rPin T (12 * p + g) w) := by
  intro p' g' hp' hg' hb
  have e1 : sNp (rPin T (12 * p + g) w) = sNp T := zRd_np (zw_nea (by omega))
  have e2 : sPgs (rPin T (12 * p + g) w) p' = sPgs T p' := by unfold sPgs rPin; rw [zw_nea (by omega)]
  rw [e1, e2] at hb
  unfold rPin
  rw [zw_ne]
  · exact Z p' g' hp' hg' hb
  · rintro ⟨_, q⟩
    have q1 : p' = p := by omega
    have q2 : g' = g := by omega
    subst q1 q2
    omega
