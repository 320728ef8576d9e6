/-! A change: what holds behind it. -/
theorem uKeep_o {D T : ZD2} {x h a : Nat} (h1 : a ≠ 59) (h2 : a < zRg x ∨ zRg x + 12 < a) : uKeep D T x h a = D a := by
  unfold uKeep
  rw [zw_row h1, zw_row h1, zmt_o (by omega), zw_row (by omega)]
theorem uKeep_x {D T : ZD2} {x h : Nat} : ygA (uKeep D T x h) (zRg x) T := fun t ht => by
  have e : zRg x + 2 + 2 * t ≠ 59 := by unfold zRg; omega
  unfold uKeep
  rw [zw_row e, zw_row e]
  exact ygA_zmt t ht
theorem uKeep_6 {D T : ZD2} {x h : Nat} : uKeep D T x h (zRg x) 6 = D 20 6 := by
  have e : zRg x ≠ 59 := by unfold zRg; omega
  unfold uKeep
  rw [zw_nea e, zw_nea e]
  exact (congrFun (zmt_o (by omega)) 6).trans (zw_self _ _ _ _)
theorem yg_change {n x h : Nat} {D E D' T U : ZD2} {s' : Nat → Int32} (G : ygL n D T x h) (f : zFrO (uKeep D T x h) E) (K : zCh (zmt E 20 U) (zmt E 20 U 172) T h D' s' U) (OK : ygOk (n + 1) U) : ygG (n + 1) (zrow D' 172 s') := by
  obtain ⟨⟨gi, gt, ge⟩, ⟨f4, f20, fs⟩, ⟨a1, a2, a3, a4, a5, a6, a7⟩, sv, ⟨r1, r2, r3⟩⟩ := G
  obtain ⟨⟨⟨k1, k2⟩, k3, k4, k5⟩, RU, IU, EU, M⟩ := K
  obtain ⟨hx1, hx8, hx2, hh8, hxf⟩ := r1
  have h6 := zIv_np6 a4.1
  -- what the class leaves
  have c1 : ∀ a, a ≠ 59 → (a < zRg x ∨ zRg x + 12 < a) → (a < 165 ∨ 167 < a) → (a < 20 ∨ 32 < a) → zmt E 20 U a = D a := fun a h1 h2 h3 h4 => by
    rw [zmt_o (by omega), f a (by omega) (by omega) (by omega), uKeep_o h1 h2]
  have rx : 61 ≤ zRg x ∧ zRg x + 12 < 165 := by unfold zRg; omega
  have o : ∀ a, a ≠ 59 → (a < zRg x ∨ zRg x + 12 < a) → (a < 165 ∨ 167 < a) → (a < 20 ∨ 32 < a) → a ≠ 168 → a ≠ 172 → a ≠ 174 → a ≠ 181 → zrow D' 172 s' a = D a := fun a h1 h2 h3 h4 h5 h7 h8 h9 => by
    rw [zrow_ne h7, k1 a h5 h8 h9, c1 a h1 h2 h3 h4]
  have hi : ∀ a, 168 < a → a ≠ 172 → a ≠ 174 → a ≠ 181 → zrow D' 172 s' a = D a := fun a h1 h2 h3 h4 => o a (by omega) (by omega) (by omega) (by omega) (by omega) h2 h3 h4
  have c168 : ∀ j, zmt E 20 U 168 j = D 168 j := fun j => congrFun (c1 168 (by omega) (by omega) (by omega) (by omega)) j
  have o168 : ∀ j, j ≠ 0 → j ≠ 14 → j ≠ 39 → j ≠ 40 → zrow D' 172 s' 168 j = D 168 j := fun j h1 h2 h3 h4 => by
    rw [zrow_ne (by omega), k2 j h1 h2 h3 h4, c168 j]
  have c172 : zmt E 20 U 172 = D 172 := c1 172 (by omega) (by omega) (by omega) (by omega)
  have c174 : zmt E 20 U 174 = D 174 := c1 174 (by omega) (by omega) (by omega) (by omega)
  have o174 : ∀ j, zrow D' 172 s' 174 j = zShf (zmt E 20 U) (D 172) h j := fun j => by
    rw [zrow_ne (by omega), k5 j, c172]
  have lo : ∀ a, a < 165 → zrow D' 172 s' a = zmt E 20 U a := fun a ha => by rw [zrow_ne (by omega), k1 a (by omega) (by omega) (by omega)]
  have A20 : ygA (zrow D' 172 s') 20 U := ygA_fr (D := zmt E 20 U) ygA_zmt fun a _ h2 => lo a (by omega)
  have e206 : zrow D' 172 s' 20 6 = zi 1 := by
    rw [lo 20 (by omega), zmt_o (by omega), f 20 (by omega) (by omega) (by omega), uKeep_o (by omega) (by omega)]
    exact a2
  have lox : ∀ a, zRg x ≤ a → a ≤ zRg x + 12 → zrow D' 172 s' a = uKeep D T x h a := fun a h1 h2 => by
    rw [lo a (by omega), zmt_o (by omega), f a (by omega) (by omega) (by omega)]
  have Ax : ygA (zrow D' 172 s') (zRg x) T := ygA_fr (uKeep_x (D := D) (T := T) (x := x) (h := h)) fun a h1 h2 => lox a (by omega) h2
  have ex6 : zrow D' 172 s' (zRg x) 6 = zi 1 := by
    rw [lox (zRg x) (Nat.le_refl _) (by omega), uKeep_6]
    exact a2
  have e59 : zrow D' 172 s' 59 = uKeep D T x h 59 := by
    rw [lo 59 (by omega), zmt_o (by omega), f 59 (by omega) (by omega) (by omega)]
  have e591 : zrow D' 172 s' 59 1 = zi ((x + 1) % 8) := by
    rw [e59]
    unfold uKeep
    rw [zw_ne (by omega), zw_self]
  have e592 : zrow D' 172 s' 59 2 = zi (min 8 (h + 1)) := by
    rw [e59]
    unfold uKeep
    rw [zw_self]
  have hy8 := Nat.mod_lt (x + 1) (show 8 > 0 by omega)
  -- a state kept before
  have keep : ∀ y st st', y < 8 → y ≠ x → ygSt n D T (zRg y) st → (∀ j, j < 540 → zrow D' 172 s' 174 (540 * st' + j) = D 174 (540 * st + j)) → ygSt (n + 1) (zrow D' 172 s') U (zRg y) st' := fun y st st' hy hne q g => by
    refine ygSt_im (T := T) (ygSt_mono (ygSt_fr q (fun a h1 h2 => ?_) g)) M
    unfold zRg at h1 h2
    refine o a (by omega) ?_ (by omega) (by omega) (by omega) (by omega) (by omega) (by omega)
    unfold zRg
    omega
  -- the state kept now
  have now : ∀ st, (∀ j, j < 540 → zrow D' 172 s' 174 (540 * st + j) = D 172 j) → ygSt (n + 1) (zrow D' 172 s') U (zRg x) st := fun st g =>
    ⟨T, Ax, ex6, ygOk_mono a4, zIm_sym M, zRd_cg a6 h6 a4.1.1.2.2 g⟩
  refine Or.inl ⟨U, (x + 1) % 8, min 8 (h + 1), ⟨?_, ?_, ?_⟩, ⟨?_, ?_, fun s hs => ?_⟩, ⟨A20, e206, ?_, OK, ?_, ?_, ?_⟩, fun s hs => ?_, ⟨⟨e591, hy8, e592, by omega, fun i hi => ?_⟩, ?_, fun i hi => ?_⟩⟩
  · obtain ⟨⟨l, q1, q2, q3⟩, q4, q5⟩ := gi
    have e2 := o 2 (by omega) (by omega) (by omega) (by omega) (by omega) (by omega) (by omega) (by omega)
    have e3 := o 3 (by omega) (by omega) (by omega) (by omega) (by omega) (by omega) (by omega) (by omega)
    have e176 := hi 176 (by omega) (by omega) (by omega) (by omega)
    exact ⟨⟨l, by rw [e2]; exact q1, by rw [o168 17 (by omega) (by omega) (by omega) (by omega)]; exact q2, q3⟩, by rw [e3, e176]; exact q4, by rw [e176]; exact q5⟩
  · obtain ⟨t, ⟨q1, q2⟩, ⟨q3, q4⟩, q5⟩ := gt
    have e18 := o 18 (by omega) (by omega) (by omega) (by omega) (by omega) (by omega) (by omega) (by omega)
    have e19 := o 19 (by omega) (by omega) (by omega) (by omega) (by omega) (by omega) (by omega) (by omega)
    have e182 := hi 182 (by omega) (by omega) (by omega) (by omega)
    exact ⟨t, ⟨by rw [e18]; exact q1, by rw [e19]; exact q2⟩, ⟨by rw [o168 42 (by omega) (by omega) (by omega) (by omega)]; exact q3, by rw [e182]; exact q4⟩, q5⟩
  · have e0 := o 0 (by omega) (by omega) (by omega) (by omega) (by omega) (by omega) (by omega) (by omega)
    exact ⟨by rw [e0, o168 18 (by omega) (by omega) (by omega) (by omega)]; exact ge.1, by rw [e0, o168 19 (by omega) (by omega) (by omega) (by omega)]; exact ge.2⟩
  · exact zFin_fr (fun a h1 h2 => o a (by omega) (by omega) (by omega) (by omega) (by omega) (by omega) (by omega) (by omega)) f4
  · exact ygA_fin A20 (zIv_fin IU)
  · exact zFin_fr (fun a h1 h2 => by unfold zSv at h1 h2; exact o a (by omega) (by omega) (by omega) (by omega) (by omega) (by omega) (by omega) (by omega)) (fs s hs)
  · rw [o168 1 (by omega) (by omega) (by omega) (by omega)]; exact a3
  · exact zRs_cg (zRs_im a5 M h6) (fun j h1 h2 => o168 j (by omega) (by omega) (by omega) (by omega)) (hi 170 (by omega) (by omega) (by omega) (by omega)) (hi 171 (by omega) (by omega) (by omega) (by omega))
  · rw [zrow_self]; exact RU
  · exact zRn_frD (zRn_im a7 M h6) (hi 169 (by omega) (by omega) (by omega) (by omega))
  · have em : ∀ a, zSv s ≤ a → a ≤ zSv s + 12 → zrow D' 172 s' a = D a := fun a h1 h2 => by
      unfold zSv at h1 h2
      exact o a (by omega) (by omega) (by omega) (by omega) (by omega) (by omega) (by omega) (by omega)
    rw [hi 175 (by omega) (by omega) (by omega) (by omega), em (zSv s) (Nat.le_refl _) (by omega)]
    rcases sv s hs with q | ⟨q1, q2⟩
    · exact Or.inl q
    · refine Or.inr ⟨q1, ygSt_im (T := T) (ygSt_mono (ygSt_fr q2 em fun j hj => ?_)) M⟩
      rw [o174]
      unfold zShf
      by_cases c : h < 8
      · rw [if_pos c, if_neg (by omega), c174]
      · rw [if_neg c, if_neg (by omega), if_neg (by omega), c174]
  · by_cases e : i = x
    · rw [e]
      exact ygA_fin Ax (zIv_fin a4.1)
    · refine zFin_fr (fun a h1 h2 => ?_) (hxf i hi)
      unfold zRg at h1 h2
      refine o a (by omega) ?_ (by omega) (by omega) (by omega) (by omega) (by omega) (by omega)
      unfold zRg
      omega
  · rw [zrow_ne (by omega)]; exact k4
  · by_cases c : h < 8
    · have em : min 8 (h + 1) = h + 1 := by omega
      rw [em] at hi ⊢
      by_cases ci : i < h
      · have ey : ((x + 1) % 8 + 8 - (h + 1) + i) % 8 = (x + 8 - h + i) % 8 := by omega
        rw [ey]
        refine keep _ i i (Nat.mod_lt _ (by omega)) (by omega) (r3 i ci) fun j hj => ?_
        rw [o174]
        unfold zShf
        rw [if_pos c, if_neg (by omega), c174]
      · have ei : i = h := by omega
        have ey : ((x + 1) % 8 + 8 - (h + 1) + i) % 8 = x := by omega
        rw [ey]
        refine now i fun j hj => ?_
        rw [o174]
        unfold zShf
        rw [if_pos c, if_pos (by omega), ei, show 540 * h + j - 540 * h = j by omega]
    · have e8 : h = 8 := by omega
      have em : min 8 (h + 1) = 8 := by omega
      rw [em] at hi ⊢
      by_cases ci : i < 7
      · have ey : ((x + 1) % 8 + 8 - 8 + i) % 8 = (x + 8 - h + (i + 1)) % 8 := by omega
        rw [ey]
        refine keep _ (i + 1) i (Nat.mod_lt _ (by omega)) (by omega) (r3 (i + 1) (by omega)) fun j hj => ?_
        rw [o174]
        unfold zShf
        rw [if_neg c, if_pos (by omega), c174, show 540 * i + j + 540 = 540 * (i + 1) + j by omega]
      · have ei : i = 7 := by omega
        have ey : ((x + 1) % 8 + 8 - 8 + i) % 8 = x := by omega
        rw [ey]
        refine now i fun j hj => ?_
        rw [o174]
        unfold zShf
        rw [if_neg c, if_neg (by omega), if_pos (by omega), ei, show 540 * 7 + j - 3780 = j by omega]
section
variable {X : ZX} {c m n x h : Nat} {cL mL : List Value} {cod : List Nat} {ok : Value → Prop} {D T U : ZD2} {k : Nat × Nat × Nat}
theorem pr_ch {v : Value} (G : ygL n D T x h) (hv : ok v) (hc : ∀ O : ZO2, ∃ E, zFrO (uKeep D T x h) E ∧ zev X c 0 cL [] (zHP (zmt D 20 T) O, k) = some (.inl (some v), (zHP (zmt E 20 U) O, k))) (hm : ∀ (D1 : ZD2) (O : ZO2), zRs D1 T → zRd (D1 172) T → D1 168 1 = zi 1 → D1 168 14 = zi h → ∃ D' s', zCh D1 (D1 172) T h D' s' U ∧ zev X m 0 mL [] (zHP (zrow D1 172 (D1 172)) O, k) = some (.inl (some v), (zHP (zrow D' 172 s') O, k))) (hU : zIv U → zEx U → zIm T U → ygOk (n + 1) U) : zPr n X c cL m mL cod ok D k := by
  intro O
  obtain ⟨E, c1, c2⟩ := hc O
  rw [ygA_mt G.2.2.1.1] at c2
  refine Or.inl ⟨v, _, c2, hv, fun O' => ?_⟩
  have rx : 61 ≤ zRg x ∧ zRg x + 12 < 165 := by
    have := G.2.2.2.2.1.2.1
    unfold zRg
    omega
  have o : ∀ a, 168 ≤ a → zmt E 20 U a = D a := fun a ha => by
    rw [zmt_o (by omega), c1 a (by omega) (by omega) (by omega), uKeep_o (by omega) (by omega)]
  have M := G.2.2.1
  obtain ⟨D', s', m1, m2⟩ := hm (zmt E 20 U) O' (zRs_cg M.2.2.2.2.1 (fun j _ _ => by rw [o 168 (by omega)]) (o 170 (by omega)) (o 171 (by omega))) (by rw [o 172 (by omega)]; exact M.2.2.2.2.2.1) (by rw [o 168 (by omega)]; exact M.2.2.1) (by rw [o 168 (by omega)]; exact G.2.2.2.2.2.1)
  rw [zrow_id] at m2
  exact ⟨_, m2, (congrFun (zrow_ne (by omega)) 0).trans m1.1.2.1, yg_change G c1 m1 (hU m1.2.2.1 m1.2.2.2.1 m1.2.2.2.2)⟩
theorem zFrO_rfl {D : ZD2} : zFrO D D := fun _ _ _ _ => rfl
end
