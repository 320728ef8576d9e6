/-! Time passes; what holds besides. -/
theorem zif_congr {α : Type} {p q : Prop} [Decidable p] [Decidable q] {a b : α} (h : p ↔ q) : (if p then a else b) = if q then a else b := by
  by_cases hp : p
  · rw [if_pos hp, if_pos (h.mp hp)]
  · rw [if_neg hp, if_neg (fun hq => hp (h.mpr hq))]
theorem zu_same {s : Nat → Int32} {j : Nat} {v : Int32} (h : s j = v) : zu s j v = s := by
  funext i
  unfold zu
  split
  · rename_i e
    rw [e, h]
  · rfl
/-- frames that are not there fly never -/
def zNfl (T : ZD2) : Prop := ∀ f, sNf T ≤ f → f < 64 → T 4 (3 * f + 2) = zn
def zEx (T : ZD2) : Prop := zPd T ∧ zNfl T
theorem sNf_eq {T U : ZD2} (h : U 0 = T 0) : sNf U = sNf T := by unfold sNf; rw [h]
theorem zEx_gen {T U : ZD2} (E : zEx T) (h0 : U 0 = T 0) (h3 : ∀ r, r < 72 → (U 3 (5 * r + 3) = T 3 (5 * r + 3) ∧ U 3 (5 * r + 4) = T 3 (5 * r + 4)) ∨ U 3 (5 * r + 3) ≠ zn ∨ U 3 (5 * r + 4) = zn) (h4 : ∀ f, sNf T ≤ f → f < 64 → U 4 (3 * f + 2) = T 4 (3 * f + 2)) : zEx U := by
  refine ⟨fun r hr h => ?_, fun f h1 h2 => ?_⟩
  · rcases h3 r hr with ⟨a, b⟩ | a | a
    · rw [b]
      exact E.1 r hr (by rw [← a]; exact h)
    · exact absurd h a
    · exact a
  · rw [sNf_eq h0] at h1
    rw [h4 f h1 h2]
    exact E.2 f h1 h2
theorem zEx_w {T U : ZD2} {t j : Nat} {v : Int32} (E : zEx U) (h0 : t ≠ 0) (h3 : t = 3 → j % 5 ≠ 3 ∧ j % 5 ≠ 4) (h4 : t = 4 → j % 3 ≠ 2) : zEx (zw U t j v) := by
  refine zEx_gen E (zw_row (fun e => h0 e.symm)) (fun r _ => Or.inl ⟨zw_ne ?_, zw_ne ?_⟩) (fun f _ _ => zw_ne ?_)
  · rintro ⟨e1, e2⟩
    have := h3 e1.symm
    omega
  · rintro ⟨e1, e2⟩
    have := h3 e1.symm
    omega
  · rintro ⟨e1, e2⟩
    have := h4 e1.symm
    omega
theorem zEx_w2 {U : ZD2} {j : Nat} {v : Int32} (E : zEx U) : zEx (zw U 2 j v) := zEx_w (T := U) E (by omega) (by omega) (by omega)
theorem zEx_w1 {U : ZD2} {j : Nat} {v : Int32} (E : zEx U) : zEx (zw U 1 j v) := zEx_w (T := U) E (by omega) (by omega) (by omega)
theorem zEx_w5 {U : ZD2} {j : Nat} {v : Int32} (E : zEx U) : zEx (zw U 5 j v) := zEx_w (T := U) E (by omega) (by omega) (by omega)
theorem zEx_w3 {U : ZD2} {r c : Nat} {v : Int32} (E : zEx U) (hc : c < 3) : zEx (zw U 3 (5 * r + c) v) := zEx_w (T := U) E (by omega) (fun _ => by omega) (by omega)
theorem zEx_w4 {U : ZD2} {f c : Nat} {v : Int32} (E : zEx U) (hc : c < 2) : zEx (zw U 4 (3 * f + c) v) := zEx_w (T := U) E (by omega) (by omega) (fun _ => by omega)
theorem zEx_sale {U : ZD2} {r : Nat} {v w : Int32} (E : zEx U) (h : v ≠ zn ∨ w = zn) : zEx (zw (zw U 3 (5 * r + 3) v) 3 (5 * r + 4) w) := by
  refine zEx_gen E (by rw [zw_row (by omega), zw_row (by omega)]) (fun q _ => ?_) (fun f _ _ => by rw [zw_ne (by omega), zw_ne (by omega)])
  by_cases e : q = r
  · subst e
    right
    rw [zw_self, zw_ne (by omega), zw_self]
    exact h
  · left
    rw [zw_ne (by omega), zw_ne (by omega), zw_ne (by omega), zw_ne (by omega)]
    exact ⟨rfl, rfl⟩
theorem zEx_forget {U : ZD2} {r : Nat} (E : zEx U) : zEx (uForget U r) := zEx_sale E (Or.inr rfl)
theorem zEx_enter {U : ZD2} {r f : Nat} (E : zEx U) : zEx (uEnter U r f) := by
  have h1 := zEx_w3 (r := r) (c := 0) (v := zi f) E (by omega)
  have h2 := zEx_w4 (f := f) (c := 0) (v := U 4 (3 * f) + zi 1) h1 (by omega)
  rw [Nat.add_zero] at h2
  exact h2
theorem zEx_leave {U : ZD2} {r f : Nat} {w : Bool} (I : zIv U) (E : zEx U) (hr : r < 72) (hf : f < 64) (ha : U 3 (5 * r) = zi f) : zEx (uLeave U r f w) := by
  have hlt := zIv_lt I hr ha hf
  obtain ⟨h4, -⟩ := uLeave_4 (w := w) I hr hf ha
  refine zEx_gen E (uLeave_o (by omega) (by omega)) (fun q _ => Or.inl ?_) (fun q h1 h2 => ?_)
  · rw [uLeave_3, zw_ne (by omega), zw_ne (by omega)]
    exact ⟨rfl, rfl⟩
  · rw [h4, if_neg (by omega), if_neg (by omega : ¬ 3 * q + 2 = 3 * f + 1), if_neg (by omega : ¬ (3 * q + 2 = 3 * f + 2 ∧ _))]
    split <;> rfl
theorem zEx_use {U : ZD2} {r f : Nat} {w : Bool} (E : zEx U) : zEx (uUse U r f w) := by
  have h2 : zEx (uUsed U r) := zEx_w1 (zEx_w3 E (by omega))
  unfold uUse
  split
  · exact zEx_w4 h2 (by omega)
  · exact h2
theorem zEx_judge {U : ZD2} {p r : Nat} (E : zEx U) : zEx (rJudge U p r).2 := by
  have h1 := zEx_forget (r := r) E
  unfold rJudge
  split
  · split
    · exact zEx_w1 (zEx_w2 (zEx_w2 (zEx_w1 (zEx_w2 h1))))
    · exact zEx_w1 (zEx_w2 h1)
  · exact zEx_w2 h1
theorem zEx_touch {T : ZD2} {p g : Nat} {w : Bool} (I : zIv T) (E : zEx T) (hp : p < sNp T) (hg : g < 12) : zEx (rTouch T p g w).2 := by
  have n2 := zIv_np6 I
  have hr : 12 * p + g < 72 := by omega
  unfold rTouch
  cases hi : sIn T (12 * p + g)
  · simp only [Bool.false_eq_true, if_false]
    unfold rFetch
    have E1 : zEx (uFault T p) := zEx_w2 (zEx_w1 E)
    cases sFree T with
    | none => exact zEx_w1 E1
    | some f =>
      have E2 : zEx (uFetch (uFault T p) (12 * p + g) f w) := zEx_use (zEx_enter (zEx_w1 E1))
      show zEx (if sSold T (12 * p + g) = true then _ else _ : Int32 × ZD2).2
      split
      · exact zEx_judge E2
      · exact E2
  · simp only [if_true]
    obtain ⟨f1, f2⟩ := sFr_of (zIv_at I _ hr) hi
    split
    · unfold rCopy
      cases sFree T with
      | none => exact zEx_w1 E
      | some f' => exact zEx_w1 (zEx_use (zEx_enter (zEx_leave I E hr f1 f2)))
    · exact zEx_use E
/-- whether a frame lands as time comes to v -/
def sPs (T : ZD2) (v : Int32) (f : Nat) : Bool := !decide (T 4 (3 * f + 2) = zn) && !decide (v < T 4 (3 * f + 2))
def yPass (A : ZD2) (v : Int32) (i d : Nat) : ZD2 := fun t j => if t = 4 ∧ j % 3 = 2 ∧ i ≤ j / 3 ∧ j / 3 < i + d ∧ A 4 j ≠ zn ∧ ¬ v < A 4 j then zn else A t j
theorem yPass_eq (v : Int32) : ∀ d i A c, A 1 5 = v → zfo uPassF d i (A, c) = (yPass A v i d, zct (sPs A v) d i c)
  | 0, i, A, c, h => by
    have e : yPass A v i 0 = A := by
      funext t j
      unfold yPass
      rw [if_neg (by omega)]
    rw [e]
    rfl
  | d + 1, i, A, c, h => by
    show zfo uPassF d (i + 1) (uPassF i (A, c)) = (yPass A v i (d + 1), zct (sPs A v) d (i + 1) (if sPs A v i = true then c + 1 else c))
    have eu : uPassF i (A, c) = if sPs A v i = true then (zw A 4 (3 * i + 2) zn, c + 1) else (A, c) := by
      subst h
      rfl
    rw [eu]
    by_cases hs : sPs A v i = true
    · rw [if_pos hs, if_pos hs, yPass_eq v d (i + 1) _ _ (by rw [zw_ne (by omega)]; exact h)]
      congr 1
      · funext t j
        have hs2 := hs
        unfold sPs at hs2
        simp only [Bool.and_eq_true, Bool.not_eq_true', decide_eq_false_iff_not] at hs2
        unfold yPass
        by_cases e : t = 4 ∧ j = 3 * i + 2
        · obtain ⟨rfl, rfl⟩ := e
          rw [if_neg (by omega), zw_self, if_pos ⟨rfl, by omega, by omega, by omega, hs2.1, hs2.2⟩]
        · by_cases e4 : t = 4
          · subst e4
            have hj : j ≠ 3 * i + 2 := fun q => e ⟨rfl, q⟩
            have ez : zw A 4 (3 * i + 2) zn 4 j = A 4 j := zw_ne e
            simp only [ez]
            exact zif_congr ⟨fun ⟨a, b, c, d', e', f'⟩ => ⟨a, b, by omega, by omega, e', f'⟩, fun ⟨a, b, c, d', e', f'⟩ => ⟨a, b, by omega, by omega, e', f'⟩⟩
          · rw [if_neg (fun q => e4 q.1), if_neg (fun q => e4 q.1), zw_ne e]
      · refine zct_congr fun j h1 h2 => ?_
        unfold sPs
        rw [zw_ne (by omega)]
    · rw [if_neg hs, if_neg hs, yPass_eq v d (i + 1) _ _ h]
      congr 1
      funext t j
      have hs2 := hs
      unfold sPs at hs2
      simp only [Bool.and_eq_true, Bool.not_eq_true', decide_eq_false_iff_not] at hs2
      unfold yPass
      by_cases e : t = 4 ∧ j = 3 * i + 2
      · obtain ⟨rfl, rfl⟩ := e
        rw [if_neg (by omega), if_neg]
        rintro ⟨-, -, -, -, a, b⟩
        exact hs2 ⟨a, b⟩
      · exact zif_congr ⟨fun ⟨a, b, c, d', e', f'⟩ => ⟨a, b, by omega, by omega, e', f'⟩, fun ⟨a, b, c, d', e', f'⟩ => ⟨a, b, by omega, by omega, e', f'⟩⟩
section
variable {T : ZD2} {s : Nat → Int32}
/-- the tables once time has come to v -/
def uTime (T : ZD2) (v : Int32) : ZD2 := yPass (zw T 1 5 v) v 0 (sNf T)
theorem rPass_eq (a : Int32) : rPass T a = (uTime T (T 1 5 + a), zct (sPs T (T 1 5 + a)) (sNf T) 0 0) := by
  unfold rPass
  rw [yPass_eq (T 1 5 + a) _ _ _ _ (zw_self _ _ _ _)]
  have e : sPs (zw T 1 5 (T 1 5 + a)) (T 1 5 + a) = sPs T (T 1 5 + a) := by
    funext f
    unfold sPs
    rw [zw_row (by omega)]
  rw [e]
  rfl
theorem uTime_0 {v : Int32} {t : Nat} (h1 : t ≠ 1) (h4 : t ≠ 4) : uTime T v t = T t := by
  funext j
  unfold uTime yPass
  rw [if_neg (fun q => h4 q.1), zw_row h1]
theorem uTime_1 {v : Int32} {j : Nat} : uTime T v 1 j = if j = 5 then v else T 1 j := by
  unfold uTime yPass
  rw [if_neg (fun q => absurd q.1 (by omega))]
  unfold zw
  by_cases h : j = 5
  · rw [if_pos ⟨rfl, h⟩, if_pos h]
  · rw [if_neg (fun q => h q.2), if_neg h]
theorem uTime_4 {v : Int32} {f c : Nat} (hc : c < 2) : uTime T v 4 (3 * f + c) = T 4 (3 * f + c) := by
  unfold uTime yPass
  rw [if_neg (by omega), zw_row (by omega)]
theorem uTime_42 {v : Int32} {f : Nat} (hf : f < sNf T) : uTime T v 4 (3 * f + 2) = if sPs T v f = true then zn else T 4 (3 * f + 2) := by
  unfold uTime yPass sPs
  rw [zw_row (by omega)]
  by_cases h : T 4 (3 * f + 2) = zn
  · simp [h]
  · by_cases h2 : v < T 4 (3 * f + 2)
    · simp [h, h2]
    · rw [if_pos ⟨rfl, by omega, by omega, by omega, h, h2⟩]
      simp [h, h2]
theorem uTime_42o {v : Int32} {f : Nat} (hf : sNf T ≤ f) : uTime T v 4 (3 * f + 2) = T 4 (3 * f + 2) := by
  unfold uTime yPass
  rw [if_neg (by omega), zw_row (by omega)]
theorem uTime_im {v : Int32} : zIm T (uTime T v) := ⟨uTime_0 (by omega) (by omega), by rw [uTime_1, if_neg (by omega)], fun p hp => by rw [uTime_0 (by omega) (by omega)]; exact ⟨rfl, rfl, rfl⟩⟩
theorem uTime_ex {v : Int32} (E : zEx T) : zEx (uTime T v) := zEx_gen E (uTime_0 (by omega) (by omega)) (fun r _ => Or.inl (by rw [uTime_0 (by omega) (by omega)]; exact ⟨rfl, rfl⟩)) (fun f h _ => uTime_42o h)
theorem uTime_iv {tm a : Nat} (I : zIv T) (E : zEx T) (h5 : T 1 5 = zi tm) (hb : tm + a ≤ 10300) : zIv (uTime T (zi (tm + a))) := by
  have h0 : uTime T (zi (tm + a)) 0 = T 0 := uTime_0 (by omega) (by omega)
  have h2 : uTime T (zi (tm + a)) 2 = T 2 := uTime_0 (by omega) (by omega)
  have h3 : uTime T (zi (tm + a)) 3 = T 3 := uTime_0 (by omega) (by omega)
  have h5' : uTime T (zi (tm + a)) 5 = T 5 := uTime_0 (by omega) (by omega)
  have h10 : uTime T (zi (tm + a)) 1 0 = T 1 0 := by rw [uTime_1, if_neg (by omega)]
  have h15 : uTime T (zi (tm + a)) 1 5 = zi (tm + a) := by rw [uTime_1, if_pos rfl]
  have hU1 : ∀ j, j ≠ 5 → uTime T (zi (tm + a)) 1 j = T 1 j := fun j hj => by rw [uTime_1, if_neg hj]
  have h40 : ∀ f, uTime T (zi (tm + a)) 4 (3 * f) = T 4 (3 * f) := fun f => uTime_4 (c := 0) (by omega)
  have h41 : ∀ f, uTime T (zi (tm + a)) 4 (3 * f + 1) = T 4 (3 * f + 1) := fun f => uTime_4 (c := 1) (by omega)
  have np : sNp (uTime T (zi (tm + a))) = sNp T := zRd_np h10
  have nf : sNf (uTime T (zi (tm + a))) = sNf T := sNf_eq h0
  have pg : ∀ p, sPgs (uTime T (zi (tm + a))) p = sPgs T p := fun p => by unfold sPgs; rw [h2]
  have cn : ∀ f, sCnt (uTime T (zi (tm + a))) f = sCnt T f := fun f => by unfold sCnt; rw [h3]
  obtain ⟨Ia, ⟨Ib, Ib2⟩, ⟨Ic, Ic2⟩, ⟨Id, Id2⟩, ⟨Ie1, Ie2, Ie3⟩, If1, If2, If3, If4⟩ := I
  refine ⟨?_, ⟨?_, ?_⟩, ⟨?_, ?_⟩, ⟨?_, ?_⟩, ⟨?_, ?_, ?_⟩, ?_, ?_, ?_, ?_⟩
  · unfold zIa; rw [h0, h10, np, nf]; exact Ia
  · intro q hq; rw [h3, nf]; exact Ib q hq
  · intro p hp; rw [h2, pg]; exact Ib2 p hp
  · intro p hp; rw [h2, np]; exact Ic p hp
  · intro p hp; rw [h2]; exact Ic2 p hp
  · intro q hq; rw [h3]; exact Id q hq
  · intro p g hp hg hb'
    rw [np, pg] at hb'
    rw [h3]
    exact Id2 p g hp hg hb'
  · intro f hf; rw [h40, cn]; exact Ie1 f hf
  · intro f hf; rw [h41, cn]; exact Ie2 f hf
  · intro f hf
    rw [cn]
    by_cases hlt : f < sNf T
    · rw [uTime_42 hlt]
      by_cases hs : sPs T (zi (tm + a)) f = true
      · rw [if_pos hs]; exact Or.inl rfl
      · rw [if_neg hs]
        rcases Ie3 f hf with q | ⟨q1, u, tm', q2, q3, q4, q5⟩
        · exact Or.inl q
        · right
          refine ⟨q1, u, tm + a, q2, h15, ?_, q5⟩
          unfold sPs at hs
          rw [q2, decide_eq_false (by rw [zi_ne_zn (by omega)]; simp)] at hs
          simp only [Bool.not_false, Bool.true_and, Bool.not_eq_true', decide_eq_false_iff_not, Decidable.not_not] at hs
          rw [zi_lt (by omega) (by omega)] at hs
          exact hs
    · rw [uTime_42o (by omega)]
      exact Or.inl (E.2 f (by omega) hf)
  · exact ⟨tm + a, h15, hb⟩
  · rw [h0]; exact If2
  · rw [h0]; exact If3
  · intro t ht j hj
    rcases (by omega : t = 0 ∨ t = 1 ∨ t = 2 ∨ t = 3 ∨ t = 4 ∨ t = 5) with rfl | rfl | rfl | rfl | rfl | rfl
    · rw [h0]; exact If4 0 ht j hj
    · have : 15 ≤ j := hj
      rw [hU1 j (by omega)]; exact If4 1 ht j hj
    · rw [h2]; exact If4 2 ht j hj
    · rw [h3]; exact If4 3 ht j hj
    · have : 192 ≤ j := hj
      have h64 := Ia.2.2
      unfold uTime yPass
      rw [if_neg (by omega), zw_row (by omega)]
      exact If4 4 ht j hj
    · rw [h5']; exact If4 5 ht j hj
theorem zlt_mono {tm a : Nat} {x : Int32} (hb : tm + a < 2147483648) (h : ¬ zi tm < x) : ¬ zi (tm + a) < x := fun q => h (Int32.lt_iff_toInt_lt.mpr (by
  have := Int32.lt_iff_toInt_lt.mp q
  rw [zi_toInt (by omega)] at this ⊢
  omega))
theorem uTime_rd {tm a : Nat} (I : zIv T) (R : zRd s T) (h5 : T 1 5 = zi tm) (hb : tm + a ≤ 10300) : zRd (zu s 0 (s 0 + zi a)) (uTime T (zi (tm + a))) := by
  have n2 := zIv_np6 I
  have n4 := zIv_nf64 I
  have e0 : s 0 + zi a = zi (tm + a) := by rw [R.1.1.1, h5, zi_add]
  have h0 : uTime T (zi (tm + a)) 0 = T 0 := uTime_0 (by omega) (by omega)
  have h2 : uTime T (zi (tm + a)) 2 = T 2 := uTime_0 (by omega) (by omega)
  have h3 : uTime T (zi (tm + a)) 3 = T 3 := uTime_0 (by omega) (by omega)
  have h5' : uTime T (zi (tm + a)) 5 = T 5 := uTime_0 (by omega) (by omega)
  have h40 : ∀ f, uTime T (zi (tm + a)) 4 (3 * f) = T 4 (3 * f) := fun f => uTime_4 (c := 0) (by omega)
  have h41 : ∀ f, uTime T (zi (tm + a)) 4 (3 * f + 1) = T 4 (3 * f + 1) := fun f => uTime_4 (c := 1) (by omega)
  rw [e0]
  refine zRd_mk (T := T) (by rw [uTime_1, if_neg (by omega)]) (by rw [h0]) ?_ ?_ ?_ ?_ ?_
  · intro i hi
    by_cases e : i = 0
    · subst e
      rw [zu_self, uTime_1, if_pos rfl]
    · rw [zu_ne e, uTime_1, if_neg (by omega)]
      exact zRt_all.mp R.1 i hi
  · intro p hp
    rw [h2, zu_ne (by omega), zu_ne (by omega), zu_ne (by omega), zu_ne (by omega), zu_ne (by omega), zu_ne (by omega)]
    exact R.2.1 p hp
  · intro r hr
    rw [h3, zu_ne (by omega), zu_ne (by omega), zu_ne (by omega), zu_ne (by omega), zu_ne (by omega)]
    exact R.2.2.1 r hr
  · intro f hf
    obtain ⟨a1, a2⟩ := R.2.2.2.1 f hf
    rw [zu_ne (by omega), zu_ne (by omega), h41, h40, uTime_42 hf, uTime_1, if_pos rfl]
    refine ⟨a1, fun q => ?_⟩
    rw [h5] at a2
    rcases a2 q with ⟨b1, b2⟩ | ⟨b1, b2⟩
    · left
      unfold sPs
      simp only [b1, decide_true, Bool.not_true, Bool.false_and, Bool.false_eq_true, if_false]
      exact ⟨trivial, zlt_mono (by omega) b2⟩
    · have hne : ¬ T 4 (3 * f + 2) = zn := by
        intro q2
        rw [← b1, q2, zi_lt_zn (by omega)] at b2
        exact b2
      by_cases hl : zi (tm + a) < T 4 (3 * f + 2)
      · right
        unfold sPs
        simp only [hl, decide_true, Bool.not_true, Bool.and_false, Bool.false_eq_true, if_false]
        exact ⟨b1, by rw [← b1]; exact hl⟩
      · left
        unfold sPs
        simp only [hl, hne, decide_false, Bool.not_false, Bool.and_self, if_true]
        exact ⟨trivial, by rw [← b1]; exact hl⟩
  · intro q hq
    rw [zu_ne (by omega), h5']
    exact R.2.2.2.2 q hq
theorem uTime_free {tm a f : Nat} (I : zIv T) (hf : f < sNf T) (hb : tm + a < 2147483648) : decide (sState (uTime T (zi (tm + a))) f = zi 0) = sFreeAt T (zi (tm + a)) f := by
  have n4 := zIv_nf64 I
  have hc := I.2.2.2.2.1.1 f (by omega)
  have hle := sCnt_le T f
  have h40 : uTime T (zi (tm + a)) 4 (3 * f) = T 4 (3 * f) := uTime_4 (c := 0) (by omega)
  unfold sFreeAt
  by_cases h0 : 0 < sCnt T f
  · have e1 : sState (uTime T (zi (tm + a))) f = zi 1 := by
      unfold sState
      rw [h40, hc, if_pos (by rw [zi_lt (by omega) (by omega)]; exact h0)]
    have e2 : ¬ T 4 (3 * f) = zi 0 := by rw [hc, zi_inj (by omega) (by omega)]; omega
    have e3 : ¬ zi 1 = zi 0 := by rw [zi_inj (by omega) (by omega)]; omega
    simp [e1, e2, e3]
  · have e1 : sState (uTime T (zi (tm + a))) f = if (if sPs T (zi (tm + a)) f = true then zn else T 4 (3 * f + 2)) = zn then zi 0 else zi 2 := by
      unfold sState
      rw [h40, hc, if_neg (by rw [zi_lt (by omega) (by omega)]; exact h0), uTime_42 hf]
    have e2 : T 4 (3 * f) = zi 0 := by rw [hc]; congr 1; omega
    have e3 : ¬ zi 2 = zi 0 := by rw [zi_inj (by omega) (by omega)]; omega
    rw [e1, e2]
    unfold sPs
    by_cases h1 : T 4 (3 * f + 2) = zn
    · have h2 : ¬ zi (tm + a) < zn := by rw [zi_lt_zn hb]; simp
      simp [h1, h2]
    · by_cases h2 : zi (tm + a) < T 4 (3 * f + 2)
      · simp [h1, h2, e3]
      · simp [h1, h2]
theorem uTime_off {v t : Int32} {r : Nat} : sOff (uTime T v) r t = sOff T r t := by
  have h0 : uTime T v 0 = T 0 := uTime_0 (by omega) (by omega)
  have h2 : uTime T v 2 = T 2 := uTime_0 (by omega) (by omega)
  have h3 : uTime T v 3 = T 3 := uTime_0 (by omega) (by omega)
  have h40 : ∀ f, uTime T v 4 (3 * f) = T 4 (3 * f) := fun f => uTime_4 (c := 0) (by omega)
  unfold sOff sLoose sSh sIn sPin sEnd sFr
  rw [h0, h2, h3, h40]
end
