/-! A call of the class and the same call of the model: both answer alike, or the class throws and the model tells so. -/
def ycF (D D' : ZD2) : Prop := (∀ a, (a < 4 ∨ 16 < a) → (a < 165 ∨ 167 < a) → D' a = D a) ∧ zFin (zT D' 4)
def ymF (D D' : ZD2) : Prop := (∀ a, a ≠ 168 → a ≠ 172 → a ≠ 173 → a ≠ 181 → D' a = D a) ∧ (∀ j, j ≠ 0 → j ≠ 39 → j ≠ 40 → D' 168 j = D 168 j) ∧ ∀ j, j < 540 → D' 172 j = D 172 j
theorem ycF_rfl {D : ZD2} (F : zFin (zT D 4)) : ycF D D := ⟨fun _ _ _ => rfl, F⟩
theorem ycF_yfr {D D' : ZD2} (f : ycF D D') : yfr D D' := ⟨fun a _ _ _ _ h1 h2 => f.1 a h1 h2, fun j _ _ _ => by rw [f.1 168 (by omega) (by omega)], fun j _ => by rw [f.1 172 (by omega) (by omega)], f.2⟩
theorem ymF_yfr {D D' : ZD2} (f : ymF D D') (F : zFin (zT D 4)) : yfr D D' := ⟨fun a h1 h2 h3 h4 _ _ => f.1 a h1 h2 h3 h4, f.2.1, f.2.2, zFin_fr (fun a h1 h2 => f.1 a (by omega) (by omega) (by omega) (by omega)) F⟩
/-- the pair of calls -/
def zPr (n : Nat) (X : ZX) (c : Nat) (cL : List Value) (m : Nat) (mL : List Value) (cod : List Nat) (ok : Value → Prop) (D : ZD2) (k : Nat × Nat × Nat) : Prop := ∀ O : ZO2, (∃ v D1, zev X c 0 cL [] (zHP D O, k) = some (.inl (some v), (zHP D1 O, k)) ∧ ok v ∧ ∀ O' : ZO2, ∃ D2, zev X m 0 mL [] (zHP D1 O', k) = some (.inl (some v), (zHP D2 O', k)) ∧ D2 168 0 = zi 0 ∧ ygG (n + 1) D2) ∨ ∃ e D1, zev X c 0 cL [] (zHP D O, k) = some (.inr e, (zHP D1 O, kt k)) ∧ (e < 3 ∧ cod.getD e 0 ≠ 0) ∧ ∀ O' : ZO2, ∃ D2 w, zev X m 0 mL [] (zHP D1 O', kt k) = some (.inl (some w), (zHP D2 O', kt k)) ∧ ok w ∧ D2 168 0 = zi (cod.getD e 0) ∧ ygG (n + 1) D2
/-- an int -/
def okI (v : Value) : Prop := ∃ i, v = .int i
def okB (v : Value) : Prop := ∃ b, v = .int (zb b)
section
variable {X : ZX} {c m n x h : Nat} {cL mL : List Value} {cod : List Nat} {ok : Value → Prop} {D T : ZD2} {k : Nat × Nat × Nat}
theorem pr_ok {v : Value} (G : ygL n D T x h) (hv : ok v) (hc : ∀ O : ZO2, ∃ D1, zev X c 0 cL [] (zHP D O, k) = some (.inl (some v), (zHP D1 O, k)) ∧ ycF D D1) (hm : ∀ (D1 : ZD2) (O : ZO2), ygL n D1 T x h → ∃ D2, zev X m 0 mL [] (zHP D1 O, k) = some (.inl (some v), (zHP D2 O, k)) ∧ D2 168 0 = zi 0 ∧ ymF D1 D2) : zPr n X c cL m mL cod ok D k := by
  intro O
  obtain ⟨D1, c1, c2⟩ := hc O
  have G1 := ygL_fr (ycF_yfr c2) G
  refine Or.inl ⟨v, D1, c1, hv, fun O' => ?_⟩
  obtain ⟨D2, m1, m2, m3⟩ := hm D1 O' G1
  exact ⟨D2, m1, m2, ygG_mono (Or.inl ⟨T, x, h, ygL_fr (ymF_yfr m3 G1.2.1.1) G1⟩)⟩
theorem pr_no {e : Nat} (G : ygL n D T x h) (he : e < 3 ∧ cod.getD e 0 ≠ 0) (hc : ∀ O : ZO2, ∃ D1, zev X c 0 cL [] (zHP D O, k) = some (.inr e, (zHP D1 O, kt k)) ∧ ycF D D1) (hm : ∀ (D1 : ZD2) (O : ZO2), ygL n D1 T x h → ∃ D2 w, zev X m 0 mL [] (zHP D1 O, kt k) = some (.inl (some w), (zHP D2 O, kt k)) ∧ ok w ∧ D2 168 0 = zi (cod.getD e 0) ∧ ymF D1 D2) : zPr n X c cL m mL cod ok D k := by
  intro O
  obtain ⟨D1, c1, c2⟩ := hc O
  have G1 := ygL_fr (ycF_yfr c2) G
  refine Or.inr ⟨e, D1, c1, he, fun O' => ?_⟩
  obtain ⟨D2, w, m1, m2, m3, m4⟩ := hm D1 O' G1
  exact ⟨D2, w, m1, m2, m3, ygG_mono (Or.inl ⟨T, x, h, ygL_fr (ymF_yfr m4 G1.2.1.1) G1⟩)⟩
theorem pr_0 {e : Nat} (G : ygN D x) (he : e < 3 ∧ cod.getD e 0 ≠ 0) (hc : ∀ O : ZO2, zev X c 0 cL [] (zHP D O, k) = some (.inr e, (zHP D O, kt k))) (hm : ∀ O : ZO2, ∃ D2 w, zev X m 0 mL [] (zHP D O, kt k) = some (.inl (some w), (zHP D2 O, kt k)) ∧ ok w ∧ D2 168 0 = zi (cod.getD e 0) ∧ ymF D D2) : zPr n X c cL m mL cod ok D k := by
  intro O
  refine Or.inr ⟨e, D, hc O, he, fun O' => ?_⟩
  obtain ⟨D2, w, m1, m2, m3, m4⟩ := hm O'
  exact ⟨D2, w, m1, m2, m3, Or.inr ⟨x, ygN_fr (ymF_yfr m4 G.2.1.1) G⟩⟩
end
section
variable {X : ZX} {m n x h : Nat} {mL : List Value} {D T : ZD2} {O : ZO2} {k : Nat × Nat × Nat} {v : Value}
/-- how the model's contracts are read -/
theorem ym_fs {D' : ZD2} {c : Nat} (g : zev X m 0 mL [] (zHP (zrow D 172 (D 172)) O, k) = some (.inl (some v), (zHP (zrow D' 172 (D 172)) O, k))) (f : zFrS D D') (h0 : D' 168 0 = zi c) : ∃ D2, zev X m 0 mL [] (zHP D O, k) = some (.inl (some v), (zHP D2 O, k)) ∧ D2 168 0 = zi c ∧ ymF D D2 := by
  rw [zrow_id] at g
  refine ⟨_, g, (congrFun (zrow_ne (by omega)) 0).trans h0, fun a h1 h2 h3 h4 => (zrow_ne h2).trans (f.1 a h1 h3 h4), fun j h1 h2 h3 => (congrFun (zrow_ne (by omega)) j).trans (f.2 j h1 h2 h3), fun j _ => ?_⟩
  rw [zrow_self]
theorem ym_th {c : Nat} (g : zev X m 0 mL [] (zHP (zrow D 172 (D 172)) O, k) = some (.inl (some v), (zHP (zrow (zth D c) 172 (D 172)) O, k))) : ∃ D2, zev X m 0 mL [] (zHP D O, k) = some (.inl (some v), (zHP D2 O, k)) ∧ D2 168 0 = zi c ∧ ymF D D2 := ym_fs g zFrS_th (zth_0 D c)
theorem ym_ss {D' : ZD2} {s' : Nat → Int32} (g : zev X m 0 mL [] (zHP (zrow D 172 (D 172)) O, k) = some (.inl (some v), (zHP (zrow D' 172 s') O, k))) (f : zFrS D D') (h0 : D' 168 0 = zi 0) (hs : ∀ j, j < 540 → s' j = D 172 j) : ∃ D2, zev X m 0 mL [] (zHP D O, k) = some (.inl (some v), (zHP D2 O, k)) ∧ D2 168 0 = zi 0 ∧ ymF D D2 := by
  rw [zrow_id] at g
  refine ⟨_, g, (congrFun (zrow_ne (by omega)) 0).trans h0, fun a h1 h2 h3 h4 => (zrow_ne h2).trans (f.1 a h1 h3 h4), fun j h1 h2 h3 => (congrFun (zrow_ne (by omega)) j).trans (f.2 j h1 h2 h3), fun j hj => ?_⟩
  rw [zrow_self]
  exact hs j hj
theorem ymI {i : Int32} {c : Nat} (g : ∃ D2, zev X m 0 mL [] (zHP D O, k) = some (.inl (some (.int i)), (zHP D2 O, k)) ∧ D2 168 0 = zi c ∧ ymF D D2) : ∃ D2 w, zev X m 0 mL [] (zHP D O, k) = some (.inl (some w), (zHP D2 O, k)) ∧ okI w ∧ D2 168 0 = zi c ∧ ymF D D2 := by
  obtain ⟨D2, a, b, e⟩ := g
  exact ⟨D2, _, a, ⟨i, rfl⟩, b, e⟩
theorem ymB {c : Nat} (g : ∃ D2, zev X m 0 mL [] (zHP D O, k) = some (.inl (some (.int (zi 0))), (zHP D2 O, k)) ∧ D2 168 0 = zi c ∧ ymF D D2) : ∃ D2 w, zev X m 0 mL [] (zHP D O, k) = some (.inl (some w), (zHP D2 O, k)) ∧ okB w ∧ D2 168 0 = zi c ∧ ymF D D2 := by
  obtain ⟨D2, a, b, e⟩ := g
  exact ⟨D2, _, a, ⟨false, rfl⟩, b, e⟩
/-- how the class's contracts are read -/
theorem yc_d {c : Nat} {cL : List Value} {r : ZR} (M : ygMa n D T) (g : zev X c 0 cL [] (zHP (zmt D 20 T) O, k) = some r) : zev X c 0 cL [] (zHP D O, k) = some r := by
  rw [ygA_mt M.1] at g
  exact g
theorem yc_0 {c : Nat} {cL : List Value} (G : ygL n D T x h) (g : zev X c 0 cL [] (zHP (zmt D 20 T) O, k) = some (.inl (some v), (zHP (zmt D 20 T) O, k))) : ∃ D1, zev X c 0 cL [] (zHP D O, k) = some (.inl (some v), (zHP D1 O, k)) ∧ ycF D D1 := by
  rw [ygA_mt G.2.2.1.1] at g
  exact ⟨D, g, ycF_rfl G.2.1.1⟩
theorem yc_o {c : Nat} {cL : List Value} {D' : ZD2} (G : ygL n D T x h) (f : zFrO D D') (g : zev X c 0 cL [] (zHP (zmt D 20 T) O, k) = some (.inl (some v), (zHP (zmt D' 20 T) O, k))) : ∃ D1, zev X c 0 cL [] (zHP D O, k) = some (.inl (some v), (zHP D1 O, k)) ∧ ycF D D1 := by
  have A' : ygA D' 20 T := ygA_fr G.2.2.1.1 fun a _ h2 => f a (by omega) (by omega) (by omega)
  rw [ygA_mt G.2.2.1.1, ygA_mt A'] at g
  exact ⟨D', g, fun a _ h2 => f a (by omega) (by omega) (by omega), zFin_fr (fun a _ h2 => f a (by omega) (by omega) (by omega)) G.2.1.1⟩
theorem yc_t {c : Nat} {cL : List Value} {U : ZD2} (G : ygL n D T x h) (F : zFin U) (g : zev X c 0 cL [] (zHP (zmt D 20 T) O, k) = some (.inl (some v), (zHP (zmt (zmt (zw D 4 6 (zi 1)) 4 U) 20 T) O, k))) : ∃ D1, zev X c 0 cL [] (zHP D O, k) = some (.inl (some v), (zHP D1 O, k)) ∧ ycF D D1 := by
  have o : ∀ a, (a < 4 ∨ 16 < a) → zmt (zw D 4 6 (zi 1)) 4 U a = D a := fun a ha => (zmt_o (by omega)).trans (zw_row (by omega))
  have A' : ygA (zmt (zw D 4 6 (zi 1)) 4 U) 20 T := ygA_fr G.2.2.1.1 fun a h1 _ => o a (by omega)
  rw [ygA_mt G.2.2.1.1, ygA_mt A'] at g
  exact ⟨_, g, fun a h1 _ => o a h1, ygA_fin ygA_zmt F⟩
/-- the guards -/
theorem y114 (h1 : D 20 6 = zi 1) : zev X 114 0 [.ref 0] [] (zHP D O, k) = some (.inl none, (zHP D O, k)) := by
  have g := c114 (X := X) (D := D) (T := zT D 20) (O := O) (k := k) h1
  rw [zmt_zT] at g
  exact g
theorem y114z (h1 : D 20 6 = zi 0) : zev X 114 0 [.ref 0] [] (zHP D O, k) = some (.inr 1, (zHP D O, kt k)) := by
  have g := c114n (X := X) (D := D) (T := zT D 20) (O := O) (k := k) h1
  rw [zmt_zT] at g
  exact g
theorem y119z {a : Int32} (h1 : D 20 6 = zi 0) : zev X 119 0 [.ref 0, .int a] [] (zHP D O, k) = some (.inr 1, (zHP D O, kt k)) := by
  have g := c119n1 (X := X) (D := D) (T := zT D 20) (O := O) (k := k) (a := a) h1
  rw [zmt_zT] at g
  exact g
theorem y121z {a b : Int32} (h1 : D 20 6 = zi 0) : zev X 121 0 [.ref 0, .int a, .int b] [] (zHP D O, k) = some (.inr 1, (zHP D O, kt k)) := by
  have g := c121n1 (X := X) (D := D) (T := zT D 20) (O := O) (k := k) (a := a) (b := b) h1
  rw [zmt_zT] at g
  exact g
theorem y119 {p : Nat} (M : ygMa n D T) (hp : p < sNp T) : zev X 119 0 [.ref 0, .int (zi p)] [] (zHP D O, k) = some (.inl none, (zHP D O, k)) := by
  have g := c119 (X := X) (D := D) (T := T) (O := O) (k := k) M.2.1 (zIv_np M.2.2.2.1.1) (zIv_np6 M.2.2.2.1.1) hp
  rw [ygA_mt M.1] at g
  exact g
theorem y119n {a : Int32} (M : ygMa n D T) (ha : a < zi 0 ∨ ¬ a < zi (sNp T)) : zev X 119 0 [.ref 0, .int a] [] (zHP D O, k) = some (.inr 2, (zHP D O, kt k)) := by
  have g := c119n2 (X := X) (D := D) (T := T) (O := O) (k := k) M.2.1 (zIv_np M.2.2.2.1.1) ha
  rw [ygA_mt M.1] at g
  exact g
theorem yPg {p : Nat} (M : ygMa n D T) (hp : p < sNp T) : T 2 (12 * p + 1) = zi (sPgs T p) ∧ sPgs T p ≤ 12 := by
  have := zIv_np6 M.2.2.2.1.1
  exact M.2.2.2.1.1.2.1.2 p (by omega)
theorem y121 {p g : Nat} (M : ygMa n D T) (hp : p < sNp T) (hg : g < sPgs T p) : zev X 121 0 [.ref 0, .int (zi p), .int (zi g)] [] (zHP D O, k) = some (.inl none, (zHP D O, k)) := by
  have g := c121 (X := X) (D := D) (T := T) (O := O) (k := k) M.2.1 (zIv_np M.2.2.2.1.1) (zIv_np6 M.2.2.2.1.1) hp (yPg M hp).1 (yPg M hp).2 hg
  rw [ygA_mt M.1] at g
  exact g
theorem y121n {a b : Int32} (M : ygMa n D T) (ha : a < zi 0 ∨ ¬ a < zi (sNp T)) : zev X 121 0 [.ref 0, .int a, .int b] [] (zHP D O, k) = some (.inr 2, (zHP D O, kt k)) := by
  have g := c121n2 (X := X) (D := D) (T := T) (O := O) (k := k) (b := b) M.2.1 (zIv_np M.2.2.2.1.1) ha
  rw [ygA_mt M.1] at g
  exact g
theorem y121m {b : Int32} {p : Nat} (M : ygMa n D T) (hp : p < sNp T) (hb : b < zi 0 ∨ ¬ b < zi (sPgs T p)) : zev X 121 0 [.ref 0, .int (zi p), .int b] [] (zHP D O, k) = some (.inr 2, (zHP D O, kt k)) := by
  have g := c121n3 (X := X) (D := D) (T := T) (O := O) (k := k) M.2.1 (zIv_np M.2.2.2.1.1) (zIv_np6 M.2.2.2.1.1) hp (yPg M hp).1 hb
  rw [ygA_mt M.1] at g
  exact g
theorem y139 {p : Nat} (M : ygMa n D T) (hp : p < sNp T) (he : sEnd T p = false) : zev X 139 0 [.ref 0, .int (zi p)] [] (zHP D O, k) = some (.inl none, (zHP D O, k)) := by
  have := zIv_np6 M.2.2.2.1.1
  have g := c139 (X := X) (D := D) (T := T) (O := O) (k := k) (p := p) (by omega) he
  rw [ygA_mt M.1] at g
  exact g
theorem y139n {p : Nat} (M : ygMa n D T) (hp : p < sNp T) (he : sEnd T p = true) : zev X 139 0 [.ref 0, .int (zi p)] [] (zHP D O, k) = some (.inr 0, (zHP D O, kt k)) := by
  have := zIv_np6 M.2.2.2.1.1
  have g := c139n (X := X) (D := D) (T := T) (O := O) (k := k) (p := p) (by omega) he
  rw [ygA_mt M.1] at g
  exact g
theorem rVict_T : ∀ d (T : ZD2) (o : Option Nat), (rVict d T o).2 = (rTakes d T).2
  | 0, _, _ => rfl
  | d + 1, T, o => by
    rw [rVict, rTakes]
    cases sTaken T with
    | none => rfl
    | some r => exact rVict_T d (rTake T) (some r)
end
section
variable {n : Nat} {D T : ZD2}
theorem ygI (M : ygMa n D T) : zIv T := M.2.2.2.1.1
theorem ygE (M : ygMa n D T) : zEx T := M.2.2.2.1.2.1
theorem ygZ (M : ygMa n D T) : zPz T := M.2.2.2.1.2.2.1
theorem ygC (M : ygMa n D T) : zTch n T := M.2.2.2.1.2.2.2.1
theorem ygTm (M : ygMa n D T) : ∃ tm, T 1 5 = zi tm ∧ tm ≤ 9999 := M.2.2.2.1.2.2.2.2
theorem ygS (M : ygMa n D T) : zRs D T := M.2.2.2.2.1
theorem ygR (M : ygMa n D T) : zRd (D 172) T := M.2.2.2.2.2.1
theorem ygNm (M : ygMa n D T) : zRn D T := M.2.2.2.2.2.2
theorem yg1 (M : ygMa n D T) : D 168 1 = zi 1 := M.2.2.1
theorem yq_le {a : Int32} {m : Nat} (hm : m + 1 < 2147483648) (h : a < zi 0 ∨ ¬ a < zi (m + 1)) : a < zi 0 ∨ zi m < a := by
  rcases zdec (a := a) (n := m + 1) hm with h2 | ⟨q, hq, rfl⟩
  · rcases h with h | h
    · exact Or.inl h
    · rcases zdec2 (a := a) (l := 0) (n := m) (by omega) (by omega) with h3 | ⟨q, _, q2, rfl⟩
      · exact h3
      · exact absurd (show zi q < zi (m + 1) by rw [zi_lt (by omega) (by omega)]; omega) h
  · exfalso
    rcases h with h | h
    · rw [zi_lt (by omega) (by omega)] at h
      omega
    · rw [zi_lt (by omega) (by omega)] at h
      exact h hq
end
