/-! Undo, save, restore: the class and the model. -/
section
variable {X : ZX} {n x h : Nat} {D T : ZD2} {k : Nat × Nat × Nat}
/-- a state brought back: the class's machine m, the model's row st -/
theorem yg_back {m st x' h' : Nat} {E F : ZD2} {U : ZD2} (G : ygL n D T x h) (hU : ygA D m U) (OU : ygOk n U) (MU : zIm T U) (RU : zRd (fun j => D 174 (540 * st + j)) U) (e1 : ∀ a, (a < 20 ∨ 32 < a) → a ≠ 59 → a ≠ 168 → a ≠ 172 → F a = D a) (eA : ygA F 20 U) (e6 : F 20 6 = zi 1) (e591 : F 59 1 = zi x') (e592 : F 59 2 = zi h') (e14 : F 168 14 = zi h') (e168 : ∀ j, j ≠ 0 → j ≠ 14 → F 168 j = D 168 j) (e172 : ∀ j, j < 540 → F 172 j = D 174 (540 * st + j)) (hx' : x' < 8) (hh' : h' ≤ 8) (hr : ∀ i, i < h' → ygSt n D T (zRg ((x' + 8 - h' + i) % 8)) i) : ygG (n + 1) F := by
  obtain ⟨⟨gi, gt, ge⟩, ⟨f4, f20, fs⟩, ⟨a1, a2, a3, a4, a5, a6, a7⟩, sv, ⟨r1, r2, r3⟩⟩ := G
  have h6 := zIv_np6 a4.1
  have o := e1
  refine ygG_mono (Or.inl ⟨U, x', h', ⟨?_, ?_, ?_⟩, ⟨?_, ?_, fun s hs => ?_⟩, ⟨eA, e6, ?_, OU, ?_, ?_, ?_⟩, fun s hs => ?_, ⟨⟨e591, hx', e592, hh', fun i hi => ?_⟩, e14, fun i hi => ?_⟩⟩)
  · exact ygIn_cg gi (o 2 (by omega) (by omega) (by omega) (by omega)) (o 3 (by omega) (by omega) (by omega) (by omega)) (o 176 (by omega) (by omega) (by omega) (by omega)) (e168 17 (by omega) (by omega))
  · exact ygTx_cg gt (o 18 (by omega) (by omega) (by omega) (by omega)) (o 19 (by omega) (by omega) (by omega) (by omega)) (o 182 (by omega) (by omega) (by omega) (by omega)) (e168 42 (by omega) (by omega))
  · exact ygEr_cg ge (o 0 (by omega) (by omega) (by omega) (by omega)) (e168 18 (by omega) (by omega)) (e168 19 (by omega) (by omega))
  · exact zFin_fr (fun a h1 h2 => o a (by omega) (by omega) (by omega) (by omega)) f4
  · exact ygA_fin eA (zIv_fin OU.1)
  · exact zFin_fr (fun a h1 h2 => by unfold zSv at h1 h2; exact o a (by omega) (by omega) (by omega) (by omega)) (fs s hs)
  · rw [e168 1 (by omega) (by omega)]; exact a3
  · exact zRs_cg (zRs_im a5 MU h6) (fun j h1 h2 => e168 j (by omega) (by omega)) (o 170 (by omega) (by omega) (by omega) (by omega)) (o 171 (by omega) (by omega) (by omega) (by omega))
  · exact zRd_cg RU (zIv_np6 OU.1) OU.1.1.2.2 e172
  · exact zRn_frD (zRn_im a7 MU h6) (o 169 (by omega) (by omega) (by omega) (by omega))
  · have em : ∀ a, zSv s ≤ a → a ≤ zSv s + 12 → F a = D a := fun a h1 h2 => by
      unfold zSv at h1 h2
      exact o a (by omega) (by omega) (by omega) (by omega)
    rw [o 175 (by omega) (by omega) (by omega) (by omega), em (zSv s) (Nat.le_refl _) (by omega)]
    rcases sv s hs with q | ⟨q1, q2⟩
    · exact Or.inl q
    · exact Or.inr ⟨q1, ygSt_im (T := T) (ygSt_fr q2 em fun j hj => by rw [o 174 (by omega) (by omega) (by omega) (by omega)]) MU⟩
  · exact zFin_fr (fun a h1 h2 => by unfold zRg at h1 h2; exact o a (by omega) (by omega) (by omega) (by omega)) (r1.2.2.2.2 i hi)
  · refine ygSt_im (T := T) (ygSt_fr (hr i hi) (fun a h1 h2 => ?_) fun j hj => by rw [o 174 (by omega) (by omega) (by omega) (by omega)]) MU
    have := Nat.mod_lt (x' + 8 - h' + i) (show 8 > 0 by omega)
    unfold zRg at h1 h2
    exact o a (by omega) (by omega) (by omega) (by omega)
theorem q164 (G : ygG n D) : zPr n X 164 [.ref 0] 297 [.ref 168] [0, 1, 0] okI D k := by
  by_cases h0 : D 168 14 = zi 0
  · exact pr_eqn (e := 1) G (by decide) (fun O => by
      have g := c164n (X := X) (D := D) (T := zT D 20) (O := O) (k := k) ((ygG_h G).trans h0)
      rw [zmt_zT] at g
      exact g) (fun O => ymI (ym_th (m297n h0)))
  rcases G with ⟨T, x, h, G⟩ | ⟨x, G⟩
  rotate_left
  · exact absurd G.2.2.1.2 h0
  have M := G.2.2.1
  obtain ⟨R1, R2, R3⟩ := G.2.2.2.2
  have hh : 0 < h := Nat.pos_of_ne_zero fun q => h0 (by rw [R2, q])
  have hx8 := R1.2.1
  have hh8 := R1.2.2.2.1
  obtain ⟨U, u1, u2, u3, u4, u5⟩ := R3 (h - 1) (by omega)
  have ex : (x + 8 - h + (h - 1)) % 8 = zPrev x := by unfold zPrev; omega
  rw [ex] at u1 u2
  have hp8 : zPrev x < 8 := Nat.mod_lt _ (by omega)
  intro O
  have g := c164 (X := X) (D := D) (T := T) (O := O) (k := k) (zIv_fin (ygI M)) R1 hh (Or.inr u2)
  rw [ygA_mt M.1, zmt_congr (T := zT D (zRg (zPrev x))) (T' := U) (fun t ht => u1 t ht), u2] at g
  refine Or.inl ⟨_, _, g, ⟨_, rfl⟩, fun O' => ?_⟩
  generalize hE : zmt (zw (zw (zw D 20 6 (zi 1)) 59 1 (zi (zPrev x))) 59 2 (zi (h - 1))) 20 U = E
  have o : ∀ a, (a < 20 ∨ 32 < a) → a ≠ 59 → E a = D a := fun a h1 h2 => by
    rw [← hE, zmt_o (by omega), zw_row h2, zw_row h2, zw_row (by omega)]
  have A : ygA E 20 U := by rw [← hE]; exact ygA_zmt
  have e6 : E 20 6 = zi 1 := by
    rw [← hE, zmt_o (by omega), zw_nea (by omega), zw_nea (by omega), zw_self]
  have e591 : E 59 1 = zi (zPrev x) := by
    rw [← hE, zmt_o (by omega), zw_ne (by omega), zw_self]
  have e592 : E 59 2 = zi (h - 1) := by
    rw [← hE, zmt_o (by omega), zw_self]
  obtain ⟨s', m1, m2⟩ := m297 (X := X) (D := E) (s := E 172) (O := O') (k := k) (hh := h) (by rw [o 168 (by omega) (by omega)]; exact R2) hh8 hh
  rw [zrow_id] at m1
  refine ⟨_, m1, ?_, yg_back (E := E) (m := zRg (zPrev x)) (st := h - 1) (x' := zPrev x) (h' := h - 1) G u1 u3 u4 u5 (fun a h1 h2 h3 h4 => ?_) ?_ ?_ ?_ ?_ ?_ (fun j h1 h2 => ?_) (fun j hj => ?_) hp8 (by omega) (fun i hi => ?_)⟩
  · rw [zrow_ne (by omega), zw_ne (by omega)]
    exact zth_0 E 0
  · rw [zrow_ne h4, zw_row h3, zth_a h3, o a h1 h2]
  · exact ygA_fr A fun a h1 h2 => by rw [zrow_ne (by omega), zw_row (by omega), zth_a (by omega)]
  · rw [zrow_ne (by omega), zw_nea (by omega), zth_a (by omega)]; exact e6
  · rw [zrow_ne (by omega), zw_nea (by omega), zth_a (by omega)]; exact e591
  · rw [zrow_ne (by omega), zw_nea (by omega), zth_a (by omega)]; exact e592
  · rw [zrow_ne (by omega), zw_self]
  · rw [zrow_ne (by omega), zw_ne (by omega), zth_f h1, o 168 (by omega) (by omega)]
  · rw [zrow_self, m2 j hj, o 174 (by omega) (by omega)]
  · have ey : (zPrev x + 8 - (h - 1) + i) % 8 = (x + 8 - h + i) % 8 := by unfold zPrev; omega
    rw [ey]
    exact R3 i (by omega)
theorem q167 {a1 : Int32} (G : ygG n D) : zPr n X 167 [.ref 0, .int a1, zJ] 301 [.ref 168, .int a1] [0, 2, 1] okI D k := by
  rcases zdec (a := a1) (n := 2) (by omega) with ha | ⟨s, hs, rfl⟩
  · exact pr_eqn (e := 2) G (by decide) (fun O => c167n1 ha) (fun O => ymI (ym_th (m301n1 (yq_le (m := 1) (by omega) ha))))
  have no : D 175 s = zi 0 → D (zSv s) 6 = zi 0 → zPr n X 167 [.ref 0, .int (zi s), zJ] 301 [.ref 168, .int (zi s)] [0, 2, 1] okI D k := fun z1 z2 =>
    pr_eqn (e := 1) G (by decide) (fun O => by
      have g := c167n2 (X := X) (D := D) (T := zT D 20) (O := O) (k := k) hs z2
      rw [zmt_zT] at g
      exact g) (fun O => ymI (ym_th (m301n2 hs z1)))
  rcases G with ⟨T, x, h, G⟩ | ⟨x, G⟩
  rotate_left
  · exact no (G.2.2.2.2 s hs).1 (G.2.2.2.2 s hs).2
  rcases G.2.2.2.1 s hs with ⟨z1, z2⟩ | ⟨z1, U, u1, u2, u3, u4, u5⟩
  · exact no z1 z2
  have M := G.2.2.1
  obtain ⟨R1, R2, R3⟩ := G.2.2.2.2
  have hx8 := R1.2.1
  intro O
  have g := c167 (X := X) (D := D) (T := T) (O := O) (k := k) (zIv_fin (ygI M)) hs u2 (G.2.1.2.2 s hs)
  have ea : zT D (zSv s) 1 5 = U 1 5 := congrFun (u1 1 (by omega)) 5
  have er : D 174 (540 * (8 + s)) = U 1 5 := u5.1.1.1
  rw [ygA_mt M.1, zmt_congr (T := zT D (zSv s)) (T' := U) (fun t ht => u1 t ht), ea] at g
  refine Or.inl ⟨_, _, g, ⟨_, rfl⟩, fun O' => ?_⟩
  generalize hE : zmt (zw (zw D 20 6 (zi 1)) 59 2 (zi 0)) 20 U = E
  have o : ∀ a, (a < 20 ∨ 32 < a) → a ≠ 59 → E a = D a := fun a h1 h2 => by
    rw [← hE, zmt_o (by omega), zw_row h2, zw_row (by omega)]
  have A : ygA E 20 U := by rw [← hE]; exact ygA_zmt
  have e6 : E 20 6 = zi 1 := by
    rw [← hE, zmt_o (by omega), zw_nea (by omega), zw_self]
  have e591 : E 59 1 = zi x := by
    rw [← hE, zmt_o (by omega), zw_ne (by omega), zw_nea (by omega)]; exact R1.1
  have e592 : E 59 2 = zi 0 := by
    rw [← hE, zmt_o (by omega), zw_self]
  obtain ⟨s', m1, m2⟩ := m301 (X := X) (D := E) (s := E 172) (O := O') (k := k) hs (by rw [o 175 (by omega) (by omega)]; exact z1)
  rw [zrow_id, o 174 (by omega) (by omega), er] at m1
  refine ⟨_, m1, ?_, yg_back (E := E) (m := zSv s) (st := 8 + s) (x' := x) (h' := 0) G u1 u3 u4 u5 (fun a h1 h2 h3 h4 => ?_) ?_ ?_ ?_ ?_ ?_ (fun j h1 h2 => ?_) (fun j hj => ?_) hx8 (by omega) (fun i hi => absurd hi (Nat.not_lt_zero i))⟩
  · rw [zrow_ne (by omega), zw_ne (by omega)]
    exact zth_0 E 0
  · rw [zrow_ne h4, zw_row h3, zth_a h3, o a h1 h2]
  · exact ygA_fr A fun a h1 h2 => by rw [zrow_ne (by omega), zw_row (by omega), zth_a (by omega)]
  · rw [zrow_ne (by omega), zw_nea (by omega), zth_a (by omega)]; exact e6
  · rw [zrow_ne (by omega), zw_nea (by omega), zth_a (by omega)]; exact e591
  · rw [zrow_ne (by omega), zw_nea (by omega), zth_a (by omega)]; exact e592
  · rw [zrow_ne (by omega), zw_self]
  · rw [zrow_ne (by omega), zw_ne (by omega), zth_f h1, o 168 (by omega) (by omega)]
  · rw [zrow_self, m2 j hj, o 174 (by omega) (by omega)]
theorem q165 {a1 : Int32} (G : ygG n D) : zPr n X 165 [.ref 0, .int a1] 300 [.ref 168, .int a1] [0, 1, 2] okI D k := by
  rcases G with ⟨T, x, h, G⟩ | ⟨x, G⟩
  rotate_left
  · exact pr_0 (e := 1) G (by decide) (fun O => (b165_0).trans (by rw [y114z G.2.2.2.1.1]; rfl)) (fun O => ymI (ym_th (m300n1 G.2.2.2.1.2)))
  have M := G.2.2.1
  rcases zdec (a := a1) (n := 2) (by omega) with ha | ⟨s, hs, rfl⟩
  · exact pr_no (e := 2) G (by decide) (fun O => ⟨D, (b165_0).trans (by rw [y114 M.2.1, zcon_inl]; exact (b165_4).trans (by rw [c166n ha]; rfl)), ycF_rfl G.2.1.1⟩) (fun D1 O G1 => ymI (ym_th (m300n2 (yg1 G1.2.2.1) (yq_le (m := 1) (by omega) ha))))
  obtain ⟨⟨gi, gt, ge⟩, ⟨f4, f20, fs⟩, ⟨a1, a2, a3, a4, a5, a6, a7⟩, sv, ⟨r1, r2, r3⟩⟩ := id G
  have h6 := zIv_np6 a4.1
  intro O
  have g := c165 (X := X) (D := D) (T := T) (O := O) (k := k) (ygI M) M.2.1 hs (fs s hs)
  rw [ygA_mt M.1] at g
  have zs : 33 ≤ zSv s ∧ zSv s + 12 < 59 := by unfold zSv; omega
  have o1 : ∀ a, (a < zSv s ∨ zSv s + 12 < a) → zmt (zw D (zSv s) 6 (zi 1)) (zSv s) T a = D a := fun a h1 => by
    rw [zmt_o (by omega), zw_row (by omega)]
  have A20 : ygA (zmt (zw D (zSv s) 6 (zi 1)) (zSv s) T) 20 T := ygA_fr a1 fun a h1 h2 => o1 a (by omega)
  rw [ygA_mt A20] at g
  refine Or.inl ⟨_, _, g, ⟨_, rfl⟩, fun O' => ?_⟩
  have AS : ygA (zmt (zw D (zSv s) 6 (zi 1)) (zSv s) T) (zSv s) T := ygA_zmt
  have es6 : zmt (zw D (zSv s) 6 (zi 1)) (zSv s) T (zSv s) 6 = zi 1 := (congrFun (zmt_o (by omega)) 6).trans (zw_self _ _ _ _)
  generalize zmt (zw D (zSv s) 6 (zi 1)) (zSv s) T = E at o1 A20 AS es6 ⊢
  obtain ⟨F, m1, m2, m3, m4, m5, m6⟩ := m300 (X := X) (D := E) (T := T) (s := E 172) (O := O') (k := k) (by rw [o1 172 (by omega)]; exact a6) (by rw [o1 168 (by omega)]; exact a3) hs
  have e172 : F 172 = E 172 := m2 172 (by omega) (by omega) (by omega)
  have eF : zrow F 172 (E 172) = F := by rw [← e172, zrow_id]
  rw [zrow_id, eF] at m1
  have o : ∀ a, (a < zSv s ∨ zSv s + 12 < a) → a ≠ 168 → a ≠ 174 → a ≠ 175 → F a = D a := fun a h1 h2 h3 h4 => (m2 a h2 h3 h4).trans (o1 a h1)
  have o168 : ∀ j, j ≠ 0 → F 168 j = D 168 j := fun j hj => (m3 j hj).trans (congrFun (o1 168 (by omega)) j)
  have e174 : ∀ st j, st ≠ 8 + s → j < 540 → F 174 (540 * st + j) = D 174 (540 * st + j) := fun st j h1 h2 => by
    rw [m6, if_neg (by omega), o1 174 (by omega)]
  refine ⟨F, m1, m4, ygG_mono (Or.inl ⟨T, x, h, ⟨?_, ?_, ?_⟩, ⟨?_, ?_, fun s2 hs2 => ?_⟩, ⟨?_, ?_, ?_, a4, ?_, ?_, ?_⟩, fun s2 hs2 => ?_, ⟨?_, ?_, fun i hi => ?_⟩⟩)⟩
  · exact ygIn_cg gi (o 2 (by omega) (by omega) (by omega) (by omega)) (o 3 (by omega) (by omega) (by omega) (by omega)) (o 176 (by omega) (by omega) (by omega) (by omega)) (o168 17 (by omega))
  · exact ygTx_cg gt (o 18 (by omega) (by omega) (by omega) (by omega)) (o 19 (by omega) (by omega) (by omega) (by omega)) (o 182 (by omega) (by omega) (by omega) (by omega)) (o168 42 (by omega))
  · exact ygEr_cg ge (o 0 (by omega) (by omega) (by omega) (by omega)) (o168 18 (by omega)) (o168 19 (by omega))
  · exact zFin_fr (fun a h1 h2 => o a (by omega) (by omega) (by omega) (by omega)) f4
  · exact zFin_fr (fun a h1 h2 => o a (by omega) (by omega) (by omega) (by omega)) f20
  · by_cases q : s2 = s
    · rw [q]
      exact ygA_fin (ygA_fr AS fun a h1 h2 => m2 a (by omega) (by omega) (by omega)) (zIv_fin (ygI M))
    · exact zFin_fr (fun a h1 h2 => by unfold zSv at h1 h2 o; exact o a (by omega) (by omega) (by omega) (by omega)) (fs s2 hs2)
  · exact ygA_fr a1 fun a h1 h2 => o a (by omega) (by omega) (by omega) (by omega)
  · rw [o 20 (by omega) (by omega) (by omega) (by omega)]; exact a2
  · rw [o168 1 (by omega)]; exact a3
  · exact zRs_cg a5 (fun j h1 h2 => o168 j (by omega)) (o 170 (by omega) (by omega) (by omega) (by omega)) (o 171 (by omega) (by omega) (by omega) (by omega))
  · rw [e172, o1 172 (by omega)]; exact a6
  · exact zRn_frD a7 (o 169 (by omega) (by omega) (by omega) (by omega))
  · rw [m5]
    by_cases q : s2 = s
    · rw [if_pos q, q]
      refine Or.inr ⟨rfl, T, ygA_fr AS fun a h1 h2 => m2 a (by omega) (by omega) (by omega), ?_, a4, zIm_rfl, zRd_cg a6 h6 a4.1.1.2.2 fun j hj => ?_⟩
      · rw [m2 (zSv s) (by omega) (by omega) (by omega)]; exact es6
      · rw [m6, if_pos (by omega), o1 172 (by omega), show 540 * (8 + s) + j - 540 * (8 + s) = j by omega]
    · rw [if_neg q, o1 175 (by omega)]
      have em : ∀ a, zSv s2 ≤ a → a ≤ zSv s2 + 12 → F a = D a := fun a h1 h2 => by
        unfold zSv at h1 h2 o
        exact o a (by omega) (by omega) (by omega) (by omega)
      rw [em (zSv s2) (Nat.le_refl _) (by omega)]
      rcases sv s2 hs2 with z | ⟨z1, z2⟩
      · exact Or.inl z
      · exact Or.inr ⟨z1, ygSt_fr z2 em fun j hj => e174 _ j (by omega) hj⟩
  · exact zHs_fr r1 fun a h1 h2 => o a (by omega) (by omega) (by omega) (by omega)
  · rw [o168 14 (by omega)]; exact r2
  · have := Nat.mod_lt (x + 8 - h + i) (show 8 > 0 by omega)
    have hh8 := r1.2.2.2.1
    exact ygSt_fr (r3 i hi) (fun a h1 h2 => by unfold zRg at h1 h2; exact o a (by omega) (by omega) (by omega) (by omega)) fun j hj => e174 _ j (by omega) hj
end
