/-! What needs no machine; frames, offers, ticks. -/
section
variable {X : ZX} {n c m : Nat} {cL mL : List Value} {cod : List Nat} {ok : Value → Prop} {D : ZD2} {k : Nat × Nat × Nat}
theorem pr_eq {v : Value} (G : ygG n D) (hv : ok v) (hc : ∀ O : ZO2, zev X c 0 cL [] (zHP D O, k) = some (.inl (some v), (zHP D O, k))) (hm : ∀ O : ZO2, ∃ D2, zev X m 0 mL [] (zHP D O, k) = some (.inl (some v), (zHP D2 O, k)) ∧ D2 168 0 = zi 0 ∧ ymF D D2) : zPr n X c cL m mL cod ok D k := by
  intro O
  refine Or.inl ⟨v, D, hc O, hv, fun O' => ?_⟩
  obtain ⟨D2, m1, m2, m3⟩ := hm O'
  exact ⟨D2, m1, m2, ygG_mono (ygG_fr (ymF_yfr m3 (ygG_fi G).1) G)⟩
theorem pr_eqn {e : Nat} (G : ygG n D) (he : e < 3 ∧ cod.getD e 0 ≠ 0) (hc : ∀ O : ZO2, zev X c 0 cL [] (zHP D O, k) = some (.inr e, (zHP D O, kt k))) (hm : ∀ O : ZO2, ∃ D2 w, zev X m 0 mL [] (zHP D O, kt k) = some (.inl (some w), (zHP D2 O, kt k)) ∧ ok w ∧ D2 168 0 = zi (cod.getD e 0) ∧ ymF D D2) : zPr n X c cL m mL cod ok D k := by
  intro O
  refine Or.inr ⟨e, D, hc O, he, fun O' => ?_⟩
  obtain ⟨D2, w, m1, m2, m3, m4⟩ := hm O'
  exact ⟨D2, w, m1, m2, m3, ygG_mono (ygG_fr (ymF_yfr m4 (ygG_fi G).1) G)⟩
theorem q107 (G : ygG n D) : zPr n X 107 [.ref 0] 172 [.ref 168] [] okI D k := pr_eq (v := .int (D 0 10)) G ⟨_, rfl⟩ (fun O => c107) (fun O => by rw [(ygG_io G).2.2.1]; exact ym_th m172)
theorem q108 (G : ygG n D) : zPr n X 108 [.ref 0] 173 [.ref 168] [] okI D k := pr_eq (v := .int (D 0 11)) G ⟨_, rfl⟩ (fun O => c108) (fun O => by rw [(ygG_io G).2.2.2]; exact ym_th m173)
theorem q109 (G : ygG n D) : zPr n X 109 [.ref 0] 171 [.ref 168] [] okI D k := by
  obtain ⟨l, a, b, _⟩ := (ygG_io G).1.1
  have e : D 2 1 = D 168 17 := a.trans b.symm
  exact pr_eq (v := .int (D 2 1)) G ⟨_, rfl⟩ (fun O => c109) (fun O => by rw [e]; exact ym_th m171)
theorem ygG_h (G : ygG n D) : D 59 2 = D 168 14 := by
  rcases G with ⟨T, x, h, G⟩ | ⟨x, G⟩
  · exact G.2.2.2.2.1.2.2.1.trans G.2.2.2.2.2.1.symm
  · exact G.2.2.1.1.2.2.1.trans G.2.2.1.2.symm
theorem q110 (G : ygG n D) : zPr n X 110 [.ref 0] 299 [.ref 168] [] okI D k := pr_eq (v := .int (D 59 2)) G ⟨_, rfl⟩ (fun O => c110) (fun O => by rw [ygG_h G]; exact ym_th m299)
theorem q149 {a1 : Int32} (G : ygG n D) : zPr n X 149 [.ref 0, .int a1] 281 [.ref 168, .int a1] [0, 0, 1] okI D k := by
  obtain ⟨t, ⟨b1, b2⟩, ⟨d1, d2⟩, ht, hb⟩ := (ygG_io G).2.1
  rcases zdec (a := a1) (n := t.length) (by omega) with ha | ⟨i, hi, rfl⟩
  · exact pr_eqn (e := 2) G (by decide) (fun O => c149n b1 ha) (fun O => ymI (ym_th (m281n d1 ht ha)))
  · have e := List.getElem?_eq_getElem hi
    have q1 := b2 i _ e
    have q2 := d2 i _ e
    rw [hb _ (List.getElem_mem hi)] at q1
    exact pr_eq (v := .int (D 19 i)) G ⟨_, rfl⟩ (fun O => c149 b1 ht hi) (fun O => by rw [q1, ← q2]; exact ym_th (m281 d1 ht hi))
theorem yc_e {O : ZO2} {T : ZD2} {c e : Nat} {cL : List Value} (M : ygMa n D T) (g : zev X c 0 cL [] (zHP (zmt D 20 T) O, k) = some (.inr e, (zHP (zmt D 20 T) O, kt k))) : zev X c 0 cL [] (zHP D O, k) = some (.inr e, (zHP D O, kt k)) := by
  rw [ygA_mt M.1] at g
  exact g
theorem y24 {O : ZO2} {T : ZD2} (M : ygMa n D T) : zev X 24 0 [.ref 20] [] (zHP D O, k) = some (.inl (some (.int (T 0 0))), (zHP D O, k)) := by
  have g := c24 (X := X) (m := 20) (D := D) (T := T) (O := O) (k := k) hm20
  rw [ygA_mt M.1] at g
  exact g
/-- a frame that is not there -/
theorem y122f {O : ZO2} {T : ZD2} {a b : Int32} (M : ygMa n D T) (ha : a < zi 0 ∨ ¬ a < zi (sNf T)) : zev X 122 0 [.ref 0, .int a, .int b, zJ] [] (zHP D O, k) = some (.inr 2, (zHP D O, kt k)) := by
  have e24 : zev X 24 0 [.ref 20] [] (zHP D O, k) = some (.inl (some (.int (T 0 0))), (zHP D O, k)) := y24 M
  refine (b122_0).trans ?_
  rw [y114 M.2.1, zcon_inl]
  refine (b122_4).trans ?_
  by_cases h : a < 0
  · rw [if_pos h]
    rfl
  · have h2 : ¬ a < zi (sNf T) := by
      rcases ha with q | q
      · exact absurd q h
      · exact q
    rw [if_neg h, e24, zcon_inl]
    refine (b122_16).trans ?_
    rw [if_neg (show ¬ a < T 0 0 by rw [zIv_nf (ygI M)]; exact h2)]
    rfl
theorem q122 {a1 a2 : Int32} (G : ygG n D) : zPr n X 122 [.ref 0, .int a1, .int a2, zJ] 230 [.ref 168, .int a1, .int a2, zJ] [3, 1, 2] okI D k := by
  rcases G with ⟨T, x, h, G⟩ | ⟨x, G⟩
  rotate_left
  · exact pr_0 (e := 1) G (by decide) (fun O => (b122_0).trans (by rw [y114z G.2.2.2.1.1]; rfl)) (fun O => ymI (ym_th (m230n1 G.2.2.2.1.2)))
  have M := G.2.2.1
  have n6 := (ygI M).1.2.2
  rcases zdec (a := a1) (n := sNf T) (by omega) with ha | ⟨f, hf, rfl⟩
  · exact pr_no (e := 2) G (by decide) (fun O => ⟨D, y122f M ha, ycF_rfl G.2.1.1⟩) (fun D1 O G1 => ymI (ym_th (m230n2 (ygI G1.2.2.1) (ygS G1.2.2.1) (yg1 G1.2.2.1) ha)))
  rcases zdec2 (a := a2) (l := 0) (n := 5) (by omega) (by omega) with ha | ⟨w, w1, w2, rfl⟩
  · refine pr_no (e := 0) G (by decide) (fun O => ⟨D, ?_, ycF_rfl G.2.1.1⟩) (fun D1 O G1 => ymI (ym_th (m230n3 (ygI G1.2.2.1) (ygS G1.2.2.1) (yg1 G1.2.2.1) hf ha)))
    have e24 : zev X 24 0 [.ref 20] [] (zHP D O, k) = some (.inl (some (.int (T 0 0))), (zHP D O, k)) := y24 M
    refine (b122_0).trans ?_
    rw [y114 M.2.1, zcon_inl]
    refine (b122_4).trans ?_
    rw [if_neg (show ¬ zi f < 0 by rw [zl_0, zi_lt (by omega) (by omega)]; omega), e24, zcon_inl]
    refine (b122_16).trans ?_
    rw [if_pos (show zi f < T 0 0 by rw [zIv_nf (ygI M), zi_lt (by omega) (by omega)]; exact hf), c116n (b := 0) (c := 5) ha]
    rfl
  · exact pr_ok G ⟨_, rfl⟩ (fun O => yc_0 G (c122 (ygI M) M.2.1 hf w2)) (fun D1 O G1 => ym_th (m230 (ygI G1.2.2.1) (ygS G1.2.2.1) (ygR G1.2.2.1) (yg1 G1.2.2.1) hf w2))
theorem q142 {a1 : Int32} (G : ygG n D) : zPr n X 142 [.ref 0, .int a1, zJ] 266 [.ref 168, .int a1, zJ] [2, 1, 0] okI D k := by
  rcases G with ⟨T, x, h, G⟩ | ⟨x, G⟩
  rotate_left
  · exact pr_0 (e := 1) G (by decide) (fun O => (b142_0).trans (by rw [y114z G.2.2.2.1.1]; rfl)) (fun O => ymI (ym_th (m266n1 G.2.2.2.1.2)))
  have M := G.2.2.1
  have n6 := (ygI M).1.2.2
  have nf := zIv_nf (ygI M)
  rcases zdec2 (a := a1) (l := 0) (n := sNf T) (by omega) (by omega) with ha | ⟨w, w1, w2, rfl⟩
  · rw [← nf] at ha
    refine pr_no (e := 0) G (by decide) (fun O => ⟨D, ?_, ycF_rfl G.2.1.1⟩) (fun D1 O G1 => ymI (ym_th (m266n2 (ygS G1.2.2.1) (yg1 G1.2.2.1) ha)))
    have e24 : zev X 24 0 [.ref 20] [] (zHP D O, k) = some (.inl (some (.int (T 0 0))), (zHP D O, k)) := y24 M
    refine (b142_0).trans ?_
    rw [y114 M.2.1, zcon_inl]
    refine (b142_4).trans ?_
    rw [e24, zcon_inl]
    refine (b142_13).trans ?_
    rw [c116n (b := 0) (c := T 0 0) ha]
    rfl
  · obtain ⟨tm, t1, t2⟩ := ygTm M
    have h1 : ¬ zi w < zi 0 := by rw [zi_lt (by omega) (by omega)]; omega
    have h2 : ¬ T 0 0 < zi w := by rw [nf, zi_lt (by omega) (by omega)]; omega
    exact pr_ok G ⟨_, rfl⟩ (fun O => yc_0 G (c142 (ygI M) M.2.1 h1 h2)) (fun D1 O G1 => ym_th (m266 (ygI G1.2.2.1) (ygE G1.2.2.1) (ygS G1.2.2.1) (ygR G1.2.2.1) (yg1 G1.2.2.1) t1 t2 w2))
/-- offers listed: nothing else is touched -/
theorem yc_l {O : ZO2} {T D' : ZD2} {x h : Nat} (G : ygL n D T x h) (f : zFrO D D') : zmt D' 20 T = D' ∧ ycF D D' ∧ ygMa n D' T := by
  have cf : ycF D D' := ⟨fun a _ h2 => f a (by omega) (by omega) (by omega), zFin_fr (fun a _ h2 => f a (by omega) (by omega) (by omega)) G.2.1.1⟩
  exact ⟨ygA_mt (ygA_fr G.2.2.1.1 fun a _ h2 => f a (by omega) (by omega) (by omega)), cf, ygMa_co (yfr_co (ycF_yfr cf)) G.2.2.1⟩
theorem q123 {a1 a2 : Int32} (G : ygG n D) : zPr n X 123 [.ref 0, .int a1, .int a2, zJ] 232 [.ref 168, .int a1, .int a2, zJ, zJ] [3, 1, 2] okI D k := by
  rcases G with ⟨T, x, h, G⟩ | ⟨x, G⟩
  rotate_left
  · exact pr_0 (e := 1) G (by decide) (fun O => (b123_0).trans (by rw [show zev X 124 0 [.ref 0, .int a1] [] (zHP D O, k) = some (.inr 1, (zHP D O, kt k)) from (b124_0).trans (by rw [y114z G.2.2.2.1.1]; rfl)]; rfl)) (fun O => ymI (ym_th (m232n1 G.2.2.2.1.2)))
  have M := G.2.2.1
  have hl := zsL_len (ygI M)
  rcases zdec (a := a1) (n := (sL T).length) (by omega) with ha | ⟨i, hi, rfl⟩
  · refine pr_no (e := 2) G (by decide) (fun O => ?_) (fun D1 O G1 => ?_)
    · obtain ⟨D', f, _, e⟩ := c124 (X := X) (O := O) (k := k) (ygI M) (zIv_wok (ygI M)) M.2.1
      obtain ⟨z1, z2, z3⟩ := yc_l (O := O) G f
      have g := e a1 ha
      rw [ygA_mt M.1, z1] at g
      exact ⟨D', (b123_0).trans (by rw [g]; rfl), z2⟩
    · obtain ⟨D', f, z, _, e, _⟩ := m232 (w := 0) (X := X) (O := O) (k := kt k) (ygI G1.2.2.1) (ygS G1.2.2.1) (ygR G1.2.2.1) (zIv_wok (ygI G1.2.2.1)) (yg1 G1.2.2.1)
      exact ymI (ym_fs (e a1 a2 ha) (zFrS_tr f zFrS_th) (zth_0 _ _))
  · have hr := sL_all (T := T) _ (List.mem_of_getElem? (zget_D hi))
    rcases zdec2 (a := a2) (l := 0) (n := 2) (by omega) (by omega) with ha | ⟨w, w1, w2, rfl⟩
    · refine pr_no (e := 0) G (by decide) (fun O => ?_) (fun D1 O G1 => ?_)
      · obtain ⟨D', f, e, _⟩ := c124 (X := X) (O := O) (k := k) (ygI M) (zIv_wok (ygI M)) M.2.1
        obtain ⟨z1, z2, z3⟩ := yc_l (O := O) G f
        have g := e i _ (zget_D hi)
        rw [ygA_mt M.1, z1] at g
        exact ⟨D', (b123_0).trans (by rw [g, zcon_inl]; exact (b123_5).trans (by rw [c116n (b := 0) (c := 2) ha]; rfl)), z2⟩
      · obtain ⟨D', f, z, _, _, e⟩ := m232 (w := 0) (X := X) (O := O) (k := kt k) (ygI G1.2.2.1) (ygS G1.2.2.1) (ygR G1.2.2.1) (zIv_wok (ygI G1.2.2.1)) (yg1 G1.2.2.1)
        exact ymI (ym_fs (e i a2 hi ha) (zFrS_tr f zFrS_th) (zth_0 _ _))
    · refine pr_ok (v := .int (rOffer T ((sL T).getD i 0) w)) G ⟨_, rfl⟩ (fun O => ?_) (fun D1 O G1 => ?_)
      · obtain ⟨D', f, e, _⟩ := c124 (X := X) (O := O) (k := k) (ygI M) (zIv_wok (ygI M)) M.2.1
        obtain ⟨z1, z2, z3⟩ := yc_l (O := O) G f
        have g := e i _ (zget_D hi)
        rw [ygA_mt M.1, z1] at g
        have g2 := c123b (X := X) (D := D') (O := O) (k := k) (T := T) (w := w) (a := zi i) (ygI M) hr.1 w2
        rw [z1] at g2
        exact ⟨D', (b123_0).trans (by rw [g, zcon_inl]; exact g2), z2⟩
      · obtain ⟨D', f, z, e, _⟩ := m232 (w := w) (X := X) (O := O) (k := k) (ygI G1.2.2.1) (ygS G1.2.2.1) (ygR G1.2.2.1) (zIv_wok (ygI G1.2.2.1)) (yg1 G1.2.2.1)
        exact ym_fs (e i hi w2) f z
theorem q125 {a1 : Int32} (G : ygG n D) : zPr n X 125 [.ref 0, .int a1, zJ] 234 [.ref 168, .int a1] [0, 1, 2] okF D k := by
  rcases G with ⟨T, x, h, G⟩ | ⟨x, G⟩
  rotate_left
  · exact pr_0 (e := 1) G (by decide) (fun O => (b125_0).trans (by rw [show zev X 124 0 [.ref 0, .int a1] [] (zHP D O, k) = some (.inr 1, (zHP D O, kt k)) from (b124_0).trans (by rw [y114z G.2.2.2.1.1]; rfl)]; rfl)) (fun O => let ⟨D2, x1, x2, x3⟩ := ym_th (m234n1 G.2.2.2.1.2); ⟨D2, _, x1, okF_0, x2, x3⟩)
  have M := G.2.2.1
  have hl := zsL_len (ygI M)
  rcases zdec (a := a1) (n := (sL T).length) (by omega) with ha | ⟨i, hi, rfl⟩
  · refine pr_no (e := 2) G (by decide) (fun O => ?_) (fun D1 O G1 => ?_)
    · obtain ⟨D', f, _, e⟩ := c124 (X := X) (O := O) (k := k) (ygI M) (zIv_wok (ygI M)) M.2.1
      obtain ⟨z1, z2, z3⟩ := yc_l (O := O) G f
      have g := e a1 ha
      rw [ygA_mt M.1, z1] at g
      exact ⟨D', (b125_0).trans (by rw [g]; rfl), z2⟩
    · obtain ⟨D', f, z, _, e⟩ := m234 (X := X) (O := O) (k := kt k) (ygI G1.2.2.1) (ygS G1.2.2.1) (ygR G1.2.2.1) (zIv_wok (ygI G1.2.2.1)) (yg1 G1.2.2.1)
      obtain ⟨D2, x1, x2, x3⟩ := ym_fs (e a1 ha) (zFrS_tr f zFrS_th) (zth_0 _ _)
      exact ⟨D2, _, x1, okF_0, x2, x3⟩
  · have hr := sL_all (T := T) _ (List.mem_of_getElem? (zget_D hi))
    refine pr_ok (v := .float (sWo T ((sL T).getD i 0))) G ⟨_, rfl, zIv_wok (ygI M) _ hr.1⟩ (fun O => ?_) (fun D1 O G1 => ?_)
    · obtain ⟨D', f, e, _⟩ := c124 (X := X) (O := O) (k := k) (ygI M) (zIv_wok (ygI M)) M.2.1
      obtain ⟨z1, z2, z3⟩ := yc_l (O := O) G f
      have g := e i _ (zget_D hi)
      rw [ygA_mt M.1, z1] at g
      have g2 := c125b (X := X) (D := D') (O := O) (k := k) (T := T) (a := zi i) (ygI M) (zIv_wok (ygI M)) hr.1
      rw [z1] at g2
      exact ⟨D', (b125_0).trans (by rw [g, zcon_inl]; exact g2), z2⟩
    · obtain ⟨D', f, z, e, _⟩ := m234 (X := X) (O := O) (k := k) (ygI G1.2.2.1) (ygS G1.2.2.1) (ygR G1.2.2.1) (zIv_wok (ygI G1.2.2.1)) (yg1 G1.2.2.1)
      exact ym_fs (e i hi) f z
end
