/-! What holds between the calls: the class and the model stand alike. -/
/-- the machine at m has tables T -/
def ygA (D : ZD2) (m : Nat) (T : ZD2) : Prop := ∀ t, t < 6 → D (m + 2 + 2 * t) = T t
theorem ygA_mt {D T : ZD2} {m : Nat} (h : ygA D m T) : zmt D m T = D := by
  have e := zmt_congr (D := D) (m := m) (T := T) (T' := zT D m) fun t ht => (h t ht).symm
  rw [e, zmt_zT]
theorem ygA_zmt {D U : ZD2} {m : Nat} : ygA (zmt D m U) m U := fun _ ht => zT_zmt ht
theorem ygA_fr {D D' T : ZD2} {m : Nat} (h : ygA D m T) (f : ∀ a, m + 2 ≤ a → a ≤ m + 12 → D' a = D a) : ygA D' m T := fun t ht => (f _ (by omega) (by omega)).trans (h t ht)
theorem ygA_fin {D T : ZD2} {m : Nat} (h : ygA D m T) (F : zFin T) : zFin (zT D m) := zFin_congr (T := T) (fun t ht => h t ht) F
theorem zFin_fr {D D' : ZD2} {m : Nat} (f : ∀ a, m + 2 ≤ a → a ≤ m + 12 → D' a = D a) (F : zFin (zT D m)) : zFin (zT D' m) := zFin_congr (T := zT D m) (fun t ht => f _ (by omega) (by omega)) F
def ygOk (n : Nat) (T : ZD2) : Prop := zIv T ∧ zEx T ∧ zPz T ∧ zTch n T ∧ ∃ tm, T 1 5 = zi tm ∧ tm ≤ 9999
theorem ygOk_mono {n : Nat} {T : ZD2} (K : ygOk n T) : ygOk (n + 1) T := by
  obtain ⟨a, b, c, ⟨t, f, d1, d2, d3, d4⟩, e⟩ := K
  exact ⟨a, b, c, ⟨t, f, d1, d2, d3, by omega⟩, e⟩
/-- a state that is kept: the class's machine, the model's row -/
def ygSt (n : Nat) (D T : ZD2) (m st : Nat) : Prop := ∃ U, ygA D m U ∧ D m 6 = zi 1 ∧ ygOk n U ∧ zIm T U ∧ zRd (fun j => D 174 (540 * st + j)) U
theorem ygSt_mono {n : Nat} {D T : ZD2} {m st : Nat} (K : ygSt n D T m st) : ygSt (n + 1) D T m st := by
  obtain ⟨U, a, b, c, d⟩ := K
  exact ⟨U, a, b, ygOk_mono c, d⟩
theorem ygSt_fr {n : Nat} {D D' T : ZD2} {m st st' : Nat} (K : ygSt n D T m st) (f : ∀ a, m ≤ a → a ≤ m + 12 → D' a = D a) (g : ∀ j, j < 540 → D' 174 (540 * st' + j) = D 174 (540 * st + j)) : ygSt n D' T m st' := by
  obtain ⟨U, a, b, c, d, e⟩ := K
  exact ⟨U, ygA_fr a fun x h1 h2 => f x (by omega) h2, by rw [f m (Nat.le_refl _) (by omega)]; exact b, c, d, zRd_cg e (zIv_np6 c.1) c.1.1.2.2 g⟩
theorem zIm_sym {T U : ZD2} (h : zIm T U) : zIm U T := ⟨h.1.symm, h.2.1.symm, fun p hp => ⟨(h.2.2 p hp).1.symm, (h.2.2 p hp).2.1.symm, (h.2.2 p hp).2.2.symm⟩⟩
theorem ygSt_im {n : Nat} {D T V : ZD2} {m st : Nat} (K : ygSt n D T m st) (M : zIm T V) : ygSt n D V m st := by
  obtain ⟨U, a, b, c, d, e⟩ := K
  exact ⟨U, a, b, c, zIm_tr (zIm_sym M) d, e⟩
def ygIn (D : ZD2) : Prop := (∃ l, D 2 1 = zi l ∧ D 168 17 = zi l ∧ l ≤ 600) ∧ D 3 = D 176 ∧ ∀ i, D 176 i ≠ zn
def ygTx (D : ZD2) : Prop := ∃ t, zTX D t ∧ zMT D t ∧ t.length ≤ 1024 ∧ ∀ v, v ∈ t → v &&& zi 255 = v
def ygEr (D : ZD2) : Prop := D 0 10 = D 168 18 ∧ D 0 11 = D 168 19
def ygFi (D : ZD2) : Prop := zFin (zT D 4) ∧ zFin (zT D 20) ∧ ∀ s, s < 2 → zFin (zT D (zSv s))
def ygMa (n : Nat) (D T : ZD2) : Prop := ygA D 20 T ∧ D 20 6 = zi 1 ∧ D 168 1 = zi 1 ∧ ygOk n T ∧ zRs D T ∧ zRd (D 172) T ∧ zRn D T
def ygSv (n : Nat) (D T : ZD2) : Prop := ∀ s, s < 2 → (D 175 s = zi 0 ∧ D (zSv s) 6 = zi 0) ∨ (D 175 s = zi 1 ∧ ygSt n D T (zSv s) (8 + s))
def ygRi (n : Nat) (D T : ZD2) (x h : Nat) : Prop := zHs D x h ∧ D 168 14 = zi h ∧ ∀ i, i < h → ygSt n D T (zRg ((x + 8 - h + i) % 8)) i
/-- loaded -/
def ygL (n : Nat) (D T : ZD2) (x h : Nat) : Prop := (ygIn D ∧ ygTx D ∧ ygEr D) ∧ ygFi D ∧ ygMa n D T ∧ ygSv n D T ∧ ygRi n D T x h
/-- not loaded -/
def ygN (D : ZD2) (x : Nat) : Prop := (ygIn D ∧ ygTx D ∧ ygEr D) ∧ ygFi D ∧ (zHs D x 0 ∧ D 168 14 = zi 0) ∧ (D 20 6 = zi 0 ∧ D 168 1 = zi 0) ∧ ∀ s, s < 2 → D 175 s = zi 0 ∧ D (zSv s) 6 = zi 0
def ygG (n : Nat) (D : ZD2) : Prop := (∃ T x h, ygL n D T x h) ∨ ∃ x, ygN D x
theorem ygL_mono {n x h : Nat} {D T : ZD2} (G : ygL n D T x h) : ygL (n + 1) D T x h := by
  obtain ⟨a, b, ⟨c1, c2, c3, c4, c5⟩, d, e1, e2, e3⟩ := G
  exact ⟨a, b, ⟨c1, c2, c3, ygOk_mono c4, c5⟩, fun s hs => (d s hs).imp (fun q => q) (fun q => ⟨q.1, ygSt_mono q.2⟩), e1, e2, fun i hi => ygSt_mono (e3 i hi)⟩
theorem ygG_mono {n : Nat} {D : ZD2} (G : ygG n D) : ygG (n + 1) D := by
  rcases G with ⟨T, x, h, G⟩ | G
  · exact Or.inl ⟨T, x, h, ygL_mono G⟩
  · exact Or.inr G
/-- what a call that changes no machine may change -/
def yco (D D' : ZD2) : Prop := (∀ a, (20 ≤ a ∧ a < 165) ∨ (169 ≤ a ∧ a ≤ 171) ∨ a = 174 ∨ a = 175 → D' a = D a) ∧ (∀ j, (1 ≤ j ∧ j ≤ 7) ∨ j = 14 → D' 168 j = D 168 j) ∧ (∀ j, j < 540 → D' 172 j = D 172 j) ∧ zFin (zT D' 4)
/-- what looks may change -/
def yfr (D D' : ZD2) : Prop := (∀ a, a ≠ 168 → a ≠ 172 → a ≠ 173 → a ≠ 181 → (a < 4 ∨ 16 < a) → (a < 165 ∨ 167 < a) → D' a = D a) ∧ (∀ j, j ≠ 0 → j ≠ 39 → j ≠ 40 → D' 168 j = D 168 j) ∧ (∀ j, j < 540 → D' 172 j = D 172 j) ∧ zFin (zT D' 4)
theorem yfr_co {D D' : ZD2} (f : yfr D D') : yco D D' := ⟨fun a h => f.1 a (by omega) (by omega) (by omega) (by omega) (by omega) (by omega), fun j h => f.2.1 j (by omega) (by omega) (by omega), f.2.2⟩
def ygIO (D : ZD2) : Prop := ygIn D ∧ ygTx D ∧ ygEr D
theorem ygIn_cg {D D' : ZD2} (h : ygIn D) (e2 : D' 2 = D 2) (e3 : D' 3 = D 3) (e176 : D' 176 = D 176) (e17 : D' 168 17 = D 168 17) : ygIn D' := by
  obtain ⟨⟨l, a, b, c⟩, d, e⟩ := h
  exact ⟨⟨l, by rw [e2]; exact a, by rw [e17]; exact b, c⟩, by rw [e3, e176]; exact d, by rw [e176]; exact e⟩
theorem ygEr_cg {D D' : ZD2} (h : ygEr D) (e0 : D' 0 = D 0) (e18 : D' 168 18 = D 168 18) (e19 : D' 168 19 = D 168 19) : ygEr D' := ⟨by rw [e0, e18]; exact h.1, by rw [e0, e19]; exact h.2⟩
theorem ygTx_cg {D D' : ZD2} (h : ygTx D) (e18 : D' 18 = D 18) (e19 : D' 19 = D 19) (e182 : D' 182 = D 182) (e42 : D' 168 42 = D 168 42) : ygTx D' := by
  obtain ⟨t, ⟨a1, a2⟩, ⟨b1, b2⟩, c⟩ := h
  exact ⟨t, ⟨by rw [e18]; exact a1, by rw [e19]; exact a2⟩, ⟨by rw [e42]; exact b1, by rw [e182]; exact b2⟩, c⟩
theorem ygIO_fr {D D' : ZD2} (f : yfr D D') (h : ygIO D) : ygIO D' := by
  have o : ∀ a, a ≠ 168 → a ≠ 172 → a ≠ 173 → a ≠ 181 → (a < 4 ∨ 16 < a) → (a < 165 ∨ 167 < a) → D' a = D a := f.1
  exact ⟨ygIn_cg h.1 (o 2 (by omega) (by omega) (by omega) (by omega) (by omega) (by omega)) (o 3 (by omega) (by omega) (by omega) (by omega) (by omega) (by omega)) (o 176 (by omega) (by omega) (by omega) (by omega) (by omega) (by omega)) (f.2.1 17 (by omega) (by omega) (by omega)), ygTx_cg h.2.1 (o 18 (by omega) (by omega) (by omega) (by omega) (by omega) (by omega)) (o 19 (by omega) (by omega) (by omega) (by omega) (by omega) (by omega)) (o 182 (by omega) (by omega) (by omega) (by omega) (by omega) (by omega)) (f.2.1 42 (by omega) (by omega) (by omega)), ygEr_cg h.2.2 (o 0 (by omega) (by omega) (by omega) (by omega) (by omega) (by omega)) (f.2.1 18 (by omega) (by omega) (by omega)) (f.2.1 19 (by omega) (by omega) (by omega))⟩
theorem yco_lo {D D' : ZD2} (f : yco D D') : ∀ a, 20 ≤ a → a < 165 → D' a = D a := fun a h1 h2 => f.1 a (Or.inl ⟨h1, h2⟩)
theorem ygFi_co {D D' : ZD2} (f : yco D D') (h : ygFi D) : ygFi D' := ⟨f.2.2.2, zFin_fr (fun a h1 h2 => yco_lo f a (by omega) (by omega)) h.2.1, fun s hs => zFin_fr (fun a h1 h2 => yco_lo f a (by unfold zSv at h1; omega) (by unfold zSv at h2; omega)) (h.2.2 s hs)⟩
theorem zRs_cg {D D' T : ZD2} (S : zRs D T) (h : ∀ j, 2 ≤ j → j ≤ 7 → D' 168 j = D 168 j) (h1 : D' 170 = D 170) (h2 : D' 171 = D 171) : zRs D' T := by
  unfold zRs at S ⊢
  rw [h 7 (by omega) (by omega), h 2 (by omega) (by omega), h 3 (by omega) (by omega), h 4 (by omega) (by omega), h 5 (by omega) (by omega), h 6 (by omega) (by omega), h1, h2]
  exact S
theorem ygMa_co {n : Nat} {D D' T : ZD2} (f : yco D D') (h : ygMa n D T) : ygMa n D' T := by
  obtain ⟨a, b, c, d, e, g, i⟩ := h
  exact ⟨ygA_fr a fun x h1 h2 => yco_lo f x (by omega) (by omega), by rw [yco_lo f 20 (by omega) (by omega)]; exact b, by rw [f.2.1 1 (by omega)]; exact c, d, zRs_cg e (fun j h1 h2 => f.2.1 j (by omega)) (f.1 170 (by omega)) (f.1 171 (by omega)), zRd_cg g (zIv_np6 d.1) d.1.1.2.2 f.2.2.1, zRn_frD i (f.1 169 (by omega))⟩
theorem yco_174 {D D' : ZD2} (f : yco D D') : D' 174 = D 174 := f.1 174 (by omega)
theorem ygSv_co {n : Nat} {D D' T : ZD2} (f : yco D D') (h : ygSv n D T) : ygSv n D' T := by
  intro s hs
  have e175 : D' 175 = D 175 := f.1 175 (by omega)
  have em : ∀ a, zSv s ≤ a → a ≤ zSv s + 12 → D' a = D a := fun a h1 h2 => yco_lo f a (by unfold zSv at h1; omega) (by unfold zSv at h2; omega)
  rw [e175, em (zSv s) (Nat.le_refl _) (by omega)]
  rcases h s hs with q | ⟨q1, q2⟩
  · exact Or.inl q
  · exact Or.inr ⟨q1, ygSt_fr q2 em fun j _ => by rw [yco_174 f]⟩
theorem zHs_fr {D D' : ZD2} {x h : Nat} (H : zHs D x h) (f : ∀ a, 59 ≤ a → a < 165 → D' a = D a) : zHs D' x h := by
  obtain ⟨a, b, c, d, e⟩ := H
  rw [← f 59 (by omega) (by omega)] at a c
  exact ⟨a, b, c, d, fun i hi => zFin_fr (fun a h1 h2 => f a (by unfold zRg at h1; omega) (by unfold zRg at h2; omega)) (e i hi)⟩
theorem ygRi_co {n x h : Nat} {D D' T : ZD2} (f : yco D D') (R : ygRi n D T x h) : ygRi n D' T x h := by
  obtain ⟨a, b, c⟩ := R
  refine ⟨zHs_fr a fun q h1 h2 => yco_lo f q (by omega) h2, by rw [f.2.1 14 (by omega)]; exact b, fun i hi => ygSt_fr (c i hi) (fun q h1 h2 => ?_) fun j _ => by rw [yco_174 f]⟩
  have := Nat.mod_lt (x + 8 - h + i) (show 8 > 0 by omega)
  unfold zRg at h1 h2
  exact yco_lo f q (by omega) (by omega)
theorem ygL_co {n x h : Nat} {D D' T : ZD2} (f : yco D D') (t : ygIO D') (G : ygL n D T x h) : ygL n D' T x h := ⟨t, ygFi_co f G.2.1, ygMa_co f G.2.2.1, ygSv_co f G.2.2.2.1, ygRi_co f G.2.2.2.2⟩
theorem ygL_fr {n x h : Nat} {D D' T : ZD2} (f : yfr D D') (G : ygL n D T x h) : ygL n D' T x h := ygL_co (yfr_co f) (ygIO_fr f G.1) G
theorem ygN_co {x : Nat} {D D' : ZD2} (f : yco D D') (t : ygIO D') (G : ygN D x) : ygN D' x := by
  obtain ⟨_, b, ⟨c, d⟩, ⟨e1, e2⟩, e3⟩ := G
  refine ⟨t, ygFi_co f b, ⟨zHs_fr c fun q h1 h2 => yco_lo f q (by omega) h2, by rw [f.2.1 14 (by omega)]; exact d⟩, ⟨by rw [yco_lo f 20 (by omega) (by omega)]; exact e1, by rw [f.2.1 1 (by omega)]; exact e2⟩, fun s hs => ?_⟩
  have e175 : D' 175 = D 175 := f.1 175 (by omega)
  rw [e175, yco_lo f (zSv s) (by unfold zSv; omega) (by unfold zSv; omega)]
  exact e3 s hs
theorem ygN_fr {x : Nat} {D D' : ZD2} (f : yfr D D') (G : ygN D x) : ygN D' x := ygN_co (yfr_co f) (ygIO_fr f G.1) G
theorem ygG_co {n : Nat} {D D' : ZD2} (f : yco D D') (t : ygIO D') (G : ygG n D) : ygG n D' := by
  rcases G with ⟨T, x, h, G⟩ | ⟨x, G⟩
  · exact Or.inl ⟨T, x, h, ygL_co f t G⟩
  · exact Or.inr ⟨x, ygN_co f t G⟩
theorem ygG_fr {n : Nat} {D D' : ZD2} (f : yfr D D') (G : ygG n D) : ygG n D' := by
  rcases G with ⟨T, x, h, G⟩ | ⟨x, G⟩
  · exact Or.inl ⟨T, x, h, ygL_fr f G⟩
  · exact Or.inr ⟨x, ygN_fr f G⟩
theorem ygG_io {n : Nat} {D : ZD2} (G : ygG n D) : ygIO D := by
  rcases G with ⟨T, x, h, G⟩ | ⟨x, G⟩
  · exact G.1
  · exact G.1
theorem ygG_fi {n : Nat} {D : ZD2} (G : ygG n D) : ygFi D := by
  rcases G with ⟨T, x, h, G⟩ | ⟨x, G⟩
  · exact G.2.1
  · exact G.2.1
