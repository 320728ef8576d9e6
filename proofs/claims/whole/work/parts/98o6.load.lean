/-! A text loaded: the class and the model. -/
/-- without an error its place stays -/
def yEp (P Q : ZPs) : Prop := Q.er = 0 → P.er = 0 ∧ Q.ep = P.ep
section
variable {n : Nat} {P Q : ZPs} {B : Nat → Int32}
theorem yEp_rfl : yEp P P := fun h => ⟨h, rfl⟩
theorem yEp_tr {R : ZPs} (h1 : yEp P Q) (h2 : yEp Q R) : yEp P R := fun h => by
  obtain ⟨a, b⟩ := h2 h
  obtain ⟨c, d⟩ := h1 a
  exact ⟨c, b.trans d⟩
theorem yEp_T {U : ZD2} (h : yEp P Q) : yEp P (Q.wT U) := h
theorem yEp_scan : yEp P (yScan B n P) := by
  unfold yScan yTok
  split
  · exact fun h => ⟨h, rfl⟩
  · split
    · exact fun h => ⟨h, rfl⟩
    · split
      · exact fun h => ⟨h, rfl⟩
      · exact fun h => ⟨h, rfl⟩
theorem yEp_failAt {c : Nat} {q : Int32} (hc : c ≠ 0) : yEp P (yFailAt P c q) := fun h => absurd h (yFail_ne hc)
theorem yEp_fail {c : Nat} (hc : c ≠ 0) : yEp P (yFail P c) := yEp_failAt hc
theorem yEp_lit {l : List Int32} : yEp P (yLit B n P l) := by
  unfold yLit
  split
  · exact yEp_scan
  · exact yEp_fail (by omega)
theorem yEp_num {lo hi : Int32} : yEp P (yNum B n P lo hi).2 := by
  unfold yNum
  split
  · split
    · exact yEp_fail (by omega)
    · exact yEp_scan
  · exact yEp_fail (by omega)
theorem yEp_fresh : yEp P (yFresh B n P).2 := by
  unfold yFresh
  split
  · split
    · exact yEp_scan
    · exact yEp_fail (by omega)
  · exact yEp_fail (by omega)
theorem yEp_known : yEp P (yKnown B n P).2 := by
  unfold yKnown
  split
  · split
    · exact yEp_fail (by omega)
    · exact yEp_scan
  · exact yEp_fail (by omega)
theorem yEp_ent {w fr pl : Int32} (h : yEp P Q) : yEp P (yEnt Q w fr pl) := by
  have g : yEp P (if fr = zn then yFailAt Q 4 pl else Q) := by
    split
    · exact yEp_tr h (yEp_failAt (by omega))
    · exact h
  unfold yEnt
  generalize (if fr = zn then yFailAt Q 4 pl else Q) = R at g ⊢
  split
  · exact yEp_T h
  · exact g
theorem yEp_in {pr : Int32} : yEp P (yIn B n P pr) := by
  unfold yIn
  refine yEp_ent ?_
  unfold yInQ
  split
  · exact yEp_tr yEp_num (yEp_failAt (by omega))
  · exact yEp_num
theorem yEp_pn {pr : Int32} : yEp P (yPn B n P pr) := by
  have g : yEp P (yPnQ (yNum B n P (zi 0) (yPgs P.T pr - zi 1)).2 (pr * zi 12 + (yNum B n P (zi 0) (yPgs P.T pr - zi 1)).1) (zi P.st)) := by
    unfold yPnQ
    split
    · exact yEp_tr yEp_num (yEp_failAt (by omega))
    · exact yEp_num
  unfold yPn yPnW
  split
  · exact yEp_T g
  · exact g
theorem yEp_inL {pr : Int32} : ∀ f (P : ZPs), yEp P (yInL B n pr f P)
  | 0, P => yEp_rfl
  | f + 1, P => by
    unfold yInL
    split
    · exact yEp_tr yEp_in (yEp_inL f _)
    · exact yEp_rfl
theorem yEp_run : yEp P (yRun B n P) := by
  have a : yEp P (yRunA B n P).2 := yEp_tr yEp_scan yEp_fresh
  have b : yEp P (yRunB B n P).2 := yEp_tr a yEp_num
  have c : yEp P (yRunC B n P).2 := yEp_tr b yEp_num
  have d : yEp P (yRunD B n P).2 := by
    unfold yRunD
    split
    · exact yEp_tr c (yEp_tr yEp_scan yEp_num)
    · exact c
  unfold yRun
  split
  · exact yEp_T d
  · exact yEp_fail (by omega)
theorem yEp_ln1 : yEp P (yLn1 B n P) := by
  unfold yLn1
  split
  · exact yEp_run
  · split
    · exact yEp_tr yEp_scan (yEp_tr yEp_known (yEp_tr yEp_in (yEp_inL 12 _)))
    · exact yEp_tr yEp_lit (yEp_tr yEp_known yEp_pn)
theorem yEp_line : yEp P (yLine B n P) := by
  rw [yLine_1]
  split
  · exact yEp_tr yEp_scan yEp_ln1
  · exact yEp_fail (by omega)
theorem yEp_npt {lo hi : Int32} {c : Nat} : yEp P (yNpt B n P lo hi c) := yEp_T yEp_num
theorem yEp_set : yEp P (ySet B n P) := by
  have eS : ySet B n P = yNpt B n (yNpt B n (yNpt B n (yNpt B n (yNpt B n (yLit B n P [102, 114, 97, 109, 101, 115]) (zi 2) (zi 64) 0) (zi 0) (zi 200) 1) (zi 0) (zi 20) 2) (zi 0) (zi 200) 3) (zi 0) (yNum B n (yNpt B n (yNpt B n (yNpt B n (yLit B n P [102, 114, 97, 109, 101, 115]) (zi 2) (zi 64) 0) (zi 0) (zi 200) 1) (zi 0) (zi 20) 2) (zi 0) (zi 200)).1 4 := rfl
  rw [eS]
  exact yEp_tr (yEp_tr (yEp_tr (yEp_tr (yEp_tr yEp_lit yEp_npt) yEp_npt) yEp_npt) yEp_npt) yEp_npt
theorem yEp_ls : ∀ f (P : ZPs), yEp P (yLs B n f P)
  | 0, P => yEp_rfl
  | f + 1, P => by
    unfold yLs
    split
    · exact yEp_tr yEp_line (yEp_ls f _)
    · exact yEp_rfl
theorem yParse_ep (h : (yParse B n).er = 0) : (yParse B n).ep = zn := (yEp_tr (yEp_tr (P := yBeg) (Q := yScan B n yBeg) yEp_scan yEp_set) (yEp_ls n _) h).2
end
section
variable {X : ZX} {n : Nat} {D : ZD2} {k : Nat × Nat × Nat} {w : Nat} {P : ZPs}
theorem uRead_ep : uRead D w P 0 11 = P.ep := by
  unfold uRead
  rw [zw_ne (by omega), zw_self]
theorem uRead_21 : uRead D w P 2 1 = zi 0 := by
  unfold uRead
  rw [zw_self]
theorem uRead_fin (F : zFin P.T) : zFin (zT (uRead D w P) 4) := zFin_congr (T := P.T) (fun t ht => uRead_zT ht) F
theorem uTaken_o {E U : ZD2} {a : Nat} (h1 : a < 20 ∨ 59 < a) : uTaken E U a = E a := by
  unfold uTaken uNow
  rw [zmt_o (by omega), zw_row (by omega), zmt_o (by omega), zw_row (by omega), zw_row (by omega), zmt_o (by omega), zw_row (by omega)]
theorem uTaken_20 {E U : ZD2} : ygA (uTaken E U) 20 U := fun t ht => by
  unfold uTaken
  rw [zmt_o (by omega), zw_row (by omega), zmt_o (by omega), zw_row (by omega), zw_row (by omega)]
  exact ygA_zmt (D := zw E 20 6 (zi 1)) t ht
theorem uTaken_206 {E U : ZD2} : uTaken E U 20 6 = zi 1 := by
  unfold uTaken uNow
  rw [zmt_o (by omega), zw_nea (by omega), zmt_o (by omega), zw_nea (by omega), zw_nea (by omega), zmt_o (by omega), zw_self]
theorem uTaken_591 {E U : ZD2} : uTaken E U 59 1 = E 59 1 := by
  unfold uTaken uNow
  rw [zmt_o (by omega), zw_nea (by omega), zmt_o (by omega), zw_nea (by omega), zw_ne (by omega), zmt_o (by omega), zw_nea (by omega)]
theorem uTaken_592 {E U : ZD2} : uTaken E U 59 2 = zi 0 := by
  unfold uTaken uNow
  rw [zmt_o (by omega), zw_nea (by omega), zmt_o (by omega), zw_nea (by omega), zw_self]
theorem uTaken_33 {E U : ZD2} : ygA (uTaken E U) 33 zTc ∧ uTaken E U 33 6 = zi 0 := by
  refine ⟨fun t ht => ?_, ?_⟩
  · unfold uTaken
    rw [zmt_o (by omega), zw_row (by omega)]
    exact ygA_zmt t ht
  · unfold uTaken
    rw [zmt_o (by omega), zw_nea (by omega), zmt_o (by omega), zw_self]
theorem uTaken_46 {E U : ZD2} : ygA (uTaken E U) 46 zTc ∧ uTaken E U 46 6 = zi 0 := by
  refine ⟨fun t ht => ?_, ?_⟩
  · unfold uTaken
    exact ygA_zmt t ht
  · unfold uTaken
    rw [zmt_o (by omega), zw_self]
theorem ygG_hs (G : ygG n D) : ∃ x h, zHs D x h := by
  rcases G with ⟨T, x, h, G⟩ | ⟨x, G⟩
  · exact ⟨x, h, G.2.2.2.2.1⟩
  · exact ⟨x, 0, G.2.2.1.1⟩
theorem q111 {a1 : Int32} (G : ygG n D) : zPr n X 111 [.ref 0, .int a1] 174 [.ref 168, .int a1] [2, 0, 1] okI D k := by
  obtain ⟨⟨⟨l, i1, i2, i3⟩, i4, i5⟩, gt, ge⟩ := ygG_io G
  obtain ⟨f4, f20, fs⟩ := ygG_fi G
  rcases zdec2 (a := a1) (l := 0) (n := l) (by omega) (by omega) with ha | ⟨w, w1, w2, rfl⟩
  · exact pr_eqn (e := 2) G (by decide) (fun O => c111m i1 ha) (fun O => ⟨zth D 1, _, m174o i2 ha, ⟨_, rfl⟩, zth_0 _ _, fun a h1 h2 h3 h4 => zth_a h1, fun j h1 h2 h3 => zth_f h1, fun j hj => by rw [zth_a (by omega)]⟩)
  have hP := yParse_j (B := D 3) (n := w)
  have eo : ∀ a, (a = 3 ∨ 16 < a) → uRead D w (yParse (D 3) w) a = D a := fun a h1 => uRead_0 (by omega) (by omega) (by omega) (by omega) (by omega)
  by_cases he : (yParse (D 3) w).er = 0
  · -- taken
    intro O
    have c := c111 (X := X) (O := O) (k := k) i1 i3 w2 f4 f20 (fs 0 (by omega)) (fs 1 (by omega)) he
    refine Or.inl ⟨_, _, c, ⟨_, rfl⟩, fun O' => ?_⟩
    have to : ∀ a, (a = 3 ∨ (16 < a ∧ a < 20) ∨ 59 < a) → uTaken (uRead D w (yParse (D 3) w)) (yParse (D 3) w).T a = D a := fun a h1 => by
      rw [uTaken_o (by omega), eo a (by omega)]
    have t2 : uTaken (uRead D w (yParse (D 3) w)) (yParse (D 3) w).T 2 1 = zi 0 := by rw [uTaken_o (by omega)]; exact uRead_21
    have t0 : uTaken (uRead D w (yParse (D 3) w)) (yParse (D 3) w).T 0 10 = zi 0 := by rw [uTaken_o (by omega), uRead_er, he]
    have t1 : uTaken (uRead D w (yParse (D 3) w)) (yParse (D 3) w).T 0 11 = zn := by rw [uTaken_o (by omega), uRead_ep]; exact yParse_ep he
    have t4 : zFin (zT (uTaken (uRead D w (yParse (D 3) w)) (yParse (D 3) w).T) 4) := zFin_fr (fun a h1 h2 => uTaken_o (by omega)) (uRead_fin (D := D) (w := w) hP.2.1)
    have t20 := uTaken_20 (E := uRead D w (yParse (D 3) w)) (U := (yParse (D 3) w).T)
    have t206 := uTaken_206 (E := uRead D w (yParse (D 3) w)) (U := (yParse (D 3) w).T)
    have t591 := (uTaken_591 (E := uRead D w (yParse (D 3) w)) (U := (yParse (D 3) w).T)).trans (congrFun (eo 59 (by omega)) 1)
    have t592 := uTaken_592 (E := uRead D w (yParse (D 3) w)) (U := (yParse (D 3) w).T)
    have t33 := uTaken_33 (E := uRead D w (yParse (D 3) w)) (U := (yParse (D 3) w).T)
    have t46 := uTaken_46 (E := uRead D w (yParse (D 3) w)) (U := (yParse (D 3) w).T)
    generalize uTaken (uRead D w (yParse (D 3) w)) (yParse (D 3) w).T = E at to t2 t0 t1 t4 t20 t206 t591 t592 t33 t46 ⊢
    have e176 : E 176 = D 176 := to 176 (by omega)
    have he' : (yParse (E 176) w).er = 0 := by rw [e176, ← i4]; exact he
    obtain ⟨Gd, F, m1, ⟨z0, z1, z14, z17, z18, z19, z50, z51⟩, mS, mR, mN, mo, m8⟩ := m174 (X := X) (D := E) (O := O') (k := k) (n := w) (l := l) (by rw [to 168 (by omega)]; exact i2) i3 w2 (by rw [e176]; exact fun i _ => i5 i) he'
    rw [e176, ← i4] at Gd m1 mS mR mN
    obtain ⟨x, h, H⟩ := ygG_hs G
    generalize yParse (D 3) w = P at *
    obtain ⟨⟨g1, g2, g3⟩, ⟨g4, g5, g6⟩, _⟩ := Gd
    have sv0 : ∀ s, s < 2 → F 175 s = zi 0 ∧ F (zSv s) 6 = zi 0 := fun s hs => by
      rcases (by omega : s = 0 ∨ s = 1) with rfl | rfl
      · exact ⟨z50, by show F 33 6 = zi 0; rw [mo 33 (by omega)]; exact t33.2⟩
      · exact ⟨z51, by show F 46 6 = zi 0; rw [mo 46 (by omega)]; exact t46.2⟩
    refine ⟨F, m1, z0, Or.inl ⟨P.T, x, 0, ⟨⟨⟨0, ?_, z17, by omega⟩, ?_, ?_⟩, ?_, ?_, ?_⟩, ⟨?_, ?_, fun s hs => ?_⟩, ⟨?_, ?_, z1, ⟨g1, g2, g3, ⟨0, 0, g5, g6, by omega, by omega⟩, 0, g4, by omega⟩, mS, mR, mN⟩, fun s hs => Or.inl (sv0 s hs), ⟨?_, H.2.1, ?_, by omega, fun i hi => ?_⟩, z14, fun i hi => absurd hi (Nat.not_lt_zero i)⟩⟩
    · rw [mo 2 (by omega)]; exact t2
    · rw [mo 3 (by omega), mo 176 (by omega), to 3 (by omega), e176]; exact i4
    · rw [mo 176 (by omega), e176]; exact i5
    · exact ygTx_cg gt ((mo 18 (by omega)).trans (to 18 (by omega))) ((mo 19 (by omega)).trans (to 19 (by omega))) ((mo 182 (by omega)).trans (to 182 (by omega))) ((m8 42 (by omega)).trans (congrFun (to 168 (by omega)) 42))
    · rw [mo 0 (by omega), t0, z18]
    · rw [mo 0 (by omega), t1, z19]
    · exact zFin_fr (fun a h1 h2 => mo a (by omega)) t4
    · exact ygA_fin (ygA_fr t20 fun a h1 h2 => mo a (by omega)) (zIv_fin g1)
    · rcases (by omega : s = 0 ∨ s = 1) with rfl | rfl
      · exact ygA_fin (m := 33) (ygA_fr t33.1 fun a h1 h2 => mo a (by omega)) zFin_Tc
      · exact ygA_fin (m := 46) (ygA_fr t46.1 fun a h1 h2 => mo a (by omega)) zFin_Tc
    · exact ygA_fr t20 fun a h1 h2 => mo a (by omega)
    · rw [mo 20 (by omega)]; exact t206
    · rw [mo 59 (by omega), t591]; exact H.1
    · rw [mo 59 (by omega)]; exact t592
    · exact zFin_fr (fun a h1 h2 => by unfold zRg at h1 h2; rw [mo a (by omega), to a (by omega)]) (H.2.2.2.2 i hi)
  · -- an error
    intro O
    have c := c111n (X := X) (O := O) (k := k) i1 i3 w2 f4 he
    refine Or.inr ⟨0, _, c, by decide, fun O' => ?_⟩
    have t2 := uRead_21 (D := D) (w := w) (P := yParse (D 3) w)
    have t0 := uRead_er (D := D) (n := w) (P := yParse (D 3) w)
    have t1 := uRead_ep (D := D) (w := w) (P := yParse (D 3) w)
    have t4 := uRead_fin (D := D) (w := w) hP.2.1
    generalize uRead D w (yParse (D 3) w) = E at eo t2 t0 t1 t4 ⊢
    have e176 : E 176 = D 176 := eo 176 (by omega)
    have he' : (yParse (E 176) w).er ≠ 0 := by rw [e176, ← i4]; exact he
    obtain ⟨F, m1, z0, z17, z18, z19, mo, m8⟩ := m174n (X := X) (D := E) (O := O') (k := kt k) (n := w) (l := l) (by rw [eo 168 (by omega)]; exact i2) i3 w2 (by rw [e176]; exact fun i _ => i5 i) he'
    rw [e176, ← i4] at z18 z19
    have q : ∀ a, (a = 3 ∨ 16 < a) → a ≠ 168 → a ≠ 177 → a ≠ 178 → a ≠ 179 → a ≠ 180 → F a = D a := fun a h1 h2 h3 h4 h5 h6 => (mo a h2 h3 h4 h5 h6).trans (eo a h1)
    have q8 : ∀ j, j ≠ 0 → j ≠ 17 → j ≠ 18 → j ≠ 19 → j < 20 ∨ 33 < j → F 168 j = D 168 j := fun j h1 h2 h3 h4 h5 => (m8 j h1 h2 h3 h4 h5).trans (congrFun (eo 168 (by omega)) j)
    refine ⟨F, _, m1, ⟨_, rfl⟩, z0, ygG_mono (ygG_co ⟨fun a ha => q a (by omega) (by omega) (by omega) (by omega) (by omega) (by omega), fun j hj => q8 j (by omega) (by omega) (by omega) (by omega) (by omega), fun j hj => by rw [q 172 (by omega) (by omega) (by omega) (by omega) (by omega) (by omega)], zFin_fr (fun a h1 h2 => mo a (by omega) (by omega) (by omega) (by omega) (by omega)) t4⟩ ⟨⟨⟨0, ?_, z17, by omega⟩, ?_, ?_⟩, ?_, ?_, ?_⟩ G)⟩
    · rw [mo 2 (by omega) (by omega) (by omega) (by omega) (by omega)]; exact t2
    · rw [q 3 (by omega) (by omega) (by omega) (by omega) (by omega) (by omega), q 176 (by omega) (by omega) (by omega) (by omega) (by omega) (by omega)]; exact i4
    · rw [q 176 (by omega) (by omega) (by omega) (by omega) (by omega) (by omega)]; exact i5
    · exact ygTx_cg gt (q 18 (by omega) (by omega) (by omega) (by omega) (by omega) (by omega)) (q 19 (by omega) (by omega) (by omega) (by omega) (by omega) (by omega)) (q 182 (by omega) (by omega) (by omega) (by omega) (by omega) (by omega)) (q8 42 (by omega) (by omega) (by omega) (by omega) (by omega))
    · rw [mo 0 (by omega) (by omega) (by omega) (by omega) (by omega), t0, z18]
    · rw [mo 0 (by omega) (by omega) (by omega) (by omega) (by omega), t1, z19]
end
