/-! Changes: time passes, a page comes to another one, a place is watched. -/
section
variable {X : ZX} {n : Nat} {D : ZD2} {k : Nat × Nat × Nat}
theorem q153 {a1 : Int32} (G : ygG n D) : zPr n X 153 [.ref 0, .int a1] 287 [.ref 168, .int a1, zJ] [2, 1, 0] okI D k := by
  rcases G with ⟨T, x, h, G⟩ | ⟨x, G⟩
  rotate_left
  · exact pr_0 (e := 1) G (by decide) (fun O => (b153_0).trans (by rw [y114z G.2.2.2.1.1]; rfl)) (fun O => ymI (ym_th (m287n1 G.2.2.2.1.2)))
  have M := G.2.2.1
  obtain ⟨tm, t1, t2⟩ := ygTm M
  rcases zdec2 (a := a1) (l := 1) (n := 200) (by omega) (by omega) with ha | ⟨w, w1, w2, rfl⟩
  · exact pr_no (e := 0) G (by decide) (fun O => ⟨D, (b153_0).trans (by rw [y114 M.2.1, zcon_inl]; exact (b153_4).trans (by rw [c116n (b := 1) (c := 200) ha]; rfl)), ycF_rfl G.2.1.1⟩) (fun D1 O G1 => ymI (ym_th (m287n2 (ygR G1.2.2.1) (yg1 G1.2.2.1) ha)))
  have h1 : ¬ zi w < zi 1 := by rw [zi_lt (by omega) (by omega)]; omega
  have h2 : ¬ zi 200 < zi w := by rw [zi_lt (by omega) (by omega)]; omega
  have e : T 1 5 + zi w = zi (tm + w) := by rw [t1, zi_add]
  by_cases h3 : 9999 < tm + w
  · have h3' : zi 9999 < T 1 5 + zi w := by rw [e, zi_lt (by omega) (by omega)]; exact h3
    exact pr_no (e := 0) G (by decide) (fun O => ⟨D, yc_e M (c153n M.2.1 h1 h2 h3'), ycF_rfl G.2.1.1⟩) (fun D1 O G1 => ymI (ym_th (m287n3 (ygR G1.2.2.1) (yg1 G1.2.2.1) t1 w1 w2 h3 t2)))
  · have h3' : ¬ zi 9999 < T 1 5 + zi w := by rw [e, zi_lt (by omega) (by omega)]; exact h3
    have eP : (rPass T (zi w)).1 = uTime T (zi (tm + w)) := by rw [rPass_eq, e]
    refine pr_ch G ⟨_, rfl⟩ (fun O => ⟨_, zFrO_rfl, c153 (ygI M) G.2.2.2.2.1 M.2.1 h1 h2 h3'⟩) (fun D1 O S1 R1 g1 hD => m287 (ygI M) (ygE M) S1 R1 g1 hD G.2.2.2.2.1.2.2.2.1 t1 w1 w2 (by omega)) (fun IU EU MU => ygOk_of M.2.2.2.1 IU EU (zPz_im (ygZ M) MU ?_) ?_)
    · rw [eP]
      exact fun q => by rw [uTime_0 (by omega) (by omega)]
    · rw [eP]
      refine ⟨Or.inr ⟨tm + w, by rw [uTime_1, if_pos rfl], by omega⟩, Or.inl ⟨?_, ?_⟩⟩
      · rw [uTime_1, if_neg (by omega)]
      · rw [uTime_1, if_neg (by omega)]
theorem q154 {a1 a2 a3 a4 : Int32} (G : ygG n D) : zPr n X 154 [.ref 0, .int a1, .int a2, .int a3, .int a4, zJ, zJ] 288 [.ref 168, .int a1, .int a2, .int a3, .int a4, zJ] [3, 1, 2] okI D k := by
  rcases G with ⟨T, x, h, G⟩ | ⟨x, G⟩
  rotate_left
  · exact pr_0 (e := 1) G (by decide) (fun O => (b154_0).trans (by rw [y121z G.2.2.2.1.1]; rfl)) (fun O => ymI (ym_th (m288n1 G.2.2.2.1.2)))
  have M := G.2.2.1
  have n6 := zIv_np6 (ygI M)
  rcases zdec (a := a1) (n := sNp T) (by omega) with ha | ⟨p, hp, rfl⟩
  · exact pr_no (e := 2) G (by decide) (fun O => ⟨D, (b154_0).trans (by rw [y121n M ha]; rfl), ycF_rfl G.2.1.1⟩) (fun D1 O G1 => ymI (ym_th (m288n2 (ygI G1.2.2.1) (ygS G1.2.2.1) (yg1 G1.2.2.1) ha)))
  have n12 := (yPg M hp).2
  rcases zdec (a := a2) (n := sPgs T p) (by omega) with ha | ⟨g, hg, rfl⟩
  · exact pr_no (e := 2) G (by decide) (fun O => ⟨D, (b154_0).trans (by rw [y121m M hp ha]; rfl), ycF_rfl G.2.1.1⟩) (fun D1 O G1 => ymI (ym_th (m288n3 (ygI G1.2.2.1) (ygS G1.2.2.1) (yg1 G1.2.2.1) hp ha)))
  rcases zdec (a := a3) (n := sNp T) (by omega) with ha | ⟨q, hq, rfl⟩
  · exact pr_no (e := 2) G (by decide) (fun O => ⟨D, (b154_0).trans (by rw [y121 M hp hg, zcon_inl]; exact (b154_6).trans (by rw [y121n M ha]; rfl)), ycF_rfl G.2.1.1⟩) (fun D1 O G1 => ymI (ym_th (m288n4 (ygI G1.2.2.1) (ygS G1.2.2.1) (yg1 G1.2.2.1) hp hg ha)))
  have m12 := (yPg M hq).2
  rcases zdec (a := a4) (n := sPgs T q) (by omega) with ha | ⟨s, hs, rfl⟩
  · exact pr_no (e := 2) G (by decide) (fun O => ⟨D, (b154_0).trans (by rw [y121 M hp hg, zcon_inl]; exact (b154_6).trans (by rw [y121m M hq ha]; rfl)), ycF_rfl G.2.1.1⟩) (fun D1 O G1 => ymI (ym_th (m288n5 (ygI G1.2.2.1) (ygS G1.2.2.1) (yg1 G1.2.2.1) hp hg hq ha)))
  by_cases hb : sEnd T p = true ∨ sEnd T q = true ∨ sIn T (12 * p + g) = false ∨ sIn T (12 * q + s) = true
  · exact pr_no (e := 0) G (by decide) (fun O => ⟨D, yc_e M (c154n (ygI M) M.2.1 hp hg hq hs hb), ycF_rfl G.2.1.1⟩) (fun D1 O G1 => ymI (ym_th (m288n6 (ygI G1.2.2.1) (ygS G1.2.2.1) (ygR G1.2.2.1) (yg1 G1.2.2.1) hp hg hq hs hb)))
  have he : sEnd T p = false := by
    cases z : sEnd T p
    · rfl
    · exact absurd (Or.inl z) hb
  have he2 : sEnd T q = false := by
    cases z : sEnd T q
    · rfl
    · exact absurd (Or.inr (Or.inl z)) hb
  have hi : sIn T (12 * p + g) = true := by
    cases z : sIn T (12 * p + g)
    · exact absurd (Or.inr (Or.inr (Or.inl z))) hb
    · rfl
  have hi2 : sIn T (12 * q + s) = false := by
    cases z : sIn T (12 * q + s)
    · rfl
    · exact absurd (Or.inr (Or.inr (Or.inr z))) hb
  refine pr_ch G ⟨_, rfl⟩ (fun O => ⟨_, zFrO_rfl, c154 (ygI M) G.2.2.2.2.1 M.2.1 hp hg hq hs he he2 hi hi2⟩) (fun D1 O S1 R1 g1 hD => m288 (ygI M) (ygE M) S1 R1 g1 hD G.2.2.2.2.1.2.2.2.1 hp hg hq hs he he2 hi hi2) (fun IU EU MU => ygOk_of M.2.2.2.1 IU EU (zPz_im (ygZ M) MU ?_) ?_)
  · exact zPn_forget (zPn_w (zPn_enter zPn_rfl) (fun _ => by omega))
  · exact zTj_q (zQn_forget (zQn_w (zQn_enter zQn_rfl) (by omega)))
theorem q160 {a1 a2 a3 : Int32} (G : ygG n D) : zPr n X 160 [.ref 0, .int a1, .int a2, .int a3, zJ] 294 [.ref 168, .int a1, .int a2, .int a3, zJ] [0, 1, 2] okB D k := by
  rcases G with ⟨T, x, h, G⟩ | ⟨x, G⟩
  rotate_left
  · exact pr_0 (e := 1) G (by decide) (fun O => (b160_0).trans (by rw [y121z G.2.2.2.1.1]; rfl)) (fun O => ymB (ym_th (m294n1 G.2.2.2.1.2)))
  have M := G.2.2.1
  have n6 := zIv_np6 (ygI M)
  rcases zdec (a := a1) (n := 6) (by omega) with hz | ⟨v, hv, rfl⟩
  · have m2 : ∀ (D1 : ZD2) (O : ZO2), ygL n D1 T x h → ∃ D2 w, zev X 294 0 [.ref 168, .int a1, .int a2, .int a3, zJ] [] (zHP D1 O, kt k) = some (.inl (some w), (zHP D2 O, kt k)) ∧ okB w ∧ D2 168 0 = zi (([0, 1, 2] : List Nat).getD 2 0) ∧ ymF D1 D2 := fun D1 O G1 => ymB (ym_th (m294n2 (yg1 G1.2.2.1) (yq_le (m := 5) (by omega) hz)))
    rcases zdec (a := a2) (n := sNp T) (by omega) with ha | ⟨p, hp, rfl⟩
    · exact pr_no (e := 2) G (by decide) (fun O => ⟨D, (b160_0).trans (by rw [y121n M ha]; rfl), ycF_rfl G.2.1.1⟩) m2
    have n12 := (yPg M hp).2
    rcases zdec (a := a3) (n := sPgs T p) (by omega) with ha | ⟨g, hg, rfl⟩
    · exact pr_no (e := 2) G (by decide) (fun O => ⟨D, (b160_0).trans (by rw [y121m M hp ha]; rfl), ycF_rfl G.2.1.1⟩) m2
    · exact pr_no (e := 2) G (by decide) (fun O => ⟨D, (b160_0).trans (by rw [y121 M hp hg, zcon_inl]; exact (b160_6).trans (by rw [c161n hz]; rfl)), ycF_rfl G.2.1.1⟩) m2
  rcases zdec (a := a2) (n := sNp T) (by omega) with ha | ⟨p, hp, rfl⟩
  · exact pr_no (e := 2) G (by decide) (fun O => ⟨D, (b160_0).trans (by rw [y121n M ha]; rfl), ycF_rfl G.2.1.1⟩) (fun D1 O G1 => ymB (ym_th (m294n3 (ygI G1.2.2.1) (ygS G1.2.2.1) (yg1 G1.2.2.1) hv ha)))
  have n12 := (yPg M hp).2
  rcases zdec (a := a3) (n := sPgs T p) (by omega) with ha | ⟨g, hg, rfl⟩
  · exact pr_no (e := 2) G (by decide) (fun O => ⟨D, (b160_0).trans (by rw [y121m M hp ha]; rfl), ycF_rfl G.2.1.1⟩) (fun D1 O G1 => ymB (ym_th (m294n4 (ygI G1.2.2.1) (ygS G1.2.2.1) (yg1 G1.2.2.1) hv hp ha)))
  refine pr_ch G ⟨_, rfl⟩ (fun O => ⟨_, zFrO_rfl, c160 (ygI M) G.2.2.2.2.1 M.2.1 hp hg hv⟩) (fun D1 O S1 R1 g1 hD => m294 (ygI M) (ygE M) S1 R1 g1 hD G.2.2.2.2.1.2.2.2.1 hp hg hv) (fun IU EU MU => ygOk_of M.2.2.2.1 IU EU (zPz_im (ygZ M) MU ?_) ?_)
  · split
    · exact zPn_w zPn_rfl (by omega)
    · exact zPn_rfl
  · split
    · exact zTj_q (zQn_w zQn_rfl (by omega))
    · exact zTj_q zQn_rfl
end
