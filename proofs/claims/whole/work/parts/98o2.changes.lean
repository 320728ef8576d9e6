/-! Changes: the class and the model (mk_pairs.py). -/
section
variable {X : ZX} {n : Nat} {D : ZD2} {k : Nat × Nat × Nat}
theorem q150 {a1 a2 : Int32} {a3 : Bool} (G : ygG n D) : zPr n X 150 [.ref 0, .int a1, .int a2, .int (zb a3)] 282 [.ref 168, .int a1, .int a2, .int (zb a3)] [3, 1, 2] okI D k := by
    rcases G with ⟨T, x, h, G⟩ | ⟨x, G⟩
    rotate_left
    · exact pr_0 (e := 1) G (by decide) (fun O => (b150_0).trans (by rw [y121z G.2.2.2.1.1]; rfl)) (fun O => ymI (ym_th (m282n1 G.2.2.2.1.2)))
    have M := G.2.2.1
    have n6 := zIv_np6 (ygI M)
    rcases zdec (a := a1) (n := sNp T) (by omega) with ha | ⟨p, hp, rfl⟩
    · exact pr_no (e := 2) G (by decide) (fun O => ⟨D, (b150_0).trans (by rw [y121n M ha]; rfl), ycF_rfl G.2.1.1⟩) (fun D1 O G1 => ymI (ym_th (m282n2 (ygI G1.2.2.1) (ygS G1.2.2.1) (yg1 G1.2.2.1) ha)))
    have n12 := (yPg M hp).2
    rcases zdec (a := a2) (n := sPgs T p) (by omega) with ha | ⟨g, hg, rfl⟩
    · exact pr_no (e := 2) G (by decide) (fun O => ⟨D, (b150_0).trans (by rw [y121m M hp ha]; rfl), ycF_rfl G.2.1.1⟩) (fun D1 O G1 => ymI (ym_th (m282n3 (ygI G1.2.2.1) (ygS G1.2.2.1) (yg1 G1.2.2.1) hp ha)))
    cases he : sEnd T p
    rotate_left
    · exact pr_no (e := 0) G (by decide) (fun O => ⟨D, (b150_0).trans (by rw [y121 M hp hg, zcon_inl]; exact (b150_6).trans (by rw [y139n M hp he]; rfl)), ycF_rfl G.2.1.1⟩) (fun D1 O G1 => ymI (ym_th (m282n4 (ygI G1.2.2.1) (ygS G1.2.2.1) (ygR G1.2.2.1) (yg1 G1.2.2.1) hp hg he)))
    refine pr_ch G ⟨_, rfl⟩ (fun O => ⟨_, zFrO_rfl, c150 (w := a3) (ygI M) G.2.2.2.2.1 M.2.1 hp hg he⟩) (fun D1 O S1 R1 g1 hD => m282 (w := a3) (ygI M) (ygE M) S1 R1 g1 hD G.2.2.2.2.1.2.2.2.1 hp hg he) (fun IU EU MU => ygOk_of M.2.2.2.1 IU EU (zPz_im (ygZ M) MU zPn_touch) zTj_touch)
theorem q151 {a1 : Int32} (G : ygG n D) : zPr n X 151 [.ref 0, .int a1, zJ, zJ] 285 [.ref 168, .int a1] [2, 1, 0] okI D k := by
    rcases G with ⟨T, x, h, G⟩ | ⟨x, G⟩
    rotate_left
    · exact pr_0 (e := 1) G (by decide) (fun O => (b151_0).trans (by rw [y114z G.2.2.2.1.1]; rfl)) (fun O => ymI (ym_th (m285n1 G.2.2.2.1.2)))
    have M := G.2.2.1
    have n6 := zIv_np6 (ygI M)
    rcases zdec2 (a := a1) (l := 1) (n := 72) (by omega) (by omega) with ha | ⟨w, w1, w2, rfl⟩
    · exact pr_no (e := 0) G (by decide) (fun O => ⟨D, (b151_0).trans (by rw [y114 M.2.1, zcon_inl]; exact (b151_4).trans (by rw [c116n (b := 1) (c := 72) ha]; rfl)), ycF_rfl G.2.1.1⟩) (fun D1 O G1 => ymI (ym_th (m285n2 (yg1 G1.2.2.1) ha)))
    refine pr_ch G ⟨_, rfl⟩ (fun O => c151 (ygI M) (zIv_wok (ygI M)) G.2.2.2.2.1 M.2.1 w1 w2 sL_nodup (fun r h => (sL_all r h).2)) (fun D1 O S1 R1 g1 hD => m285 (ygI M) (ygE M) S1 R1 g1 hD G.2.2.2.2.1.2.2.2.1 w1 w2) (fun IU EU MU => ygOk_of M.2.2.2.1 IU EU (zPz_im (ygZ M) MU zPn_ask) zTj_ask)
theorem q152 {a1 : Int32} (G : ygG n D) : zPr n X 152 [.ref 0, .int a1, zJ] 286 [.ref 168, .int a1] [2, 1, 0] okI D k := by
    rcases G with ⟨T, x, h, G⟩ | ⟨x, G⟩
    rotate_left
    · exact pr_0 (e := 1) G (by decide) (fun O => (b152_0).trans (by rw [y114z G.2.2.2.1.1]; rfl)) (fun O => ymI (ym_th (m286n1 G.2.2.2.1.2)))
    have M := G.2.2.1
    have n6 := zIv_np6 (ygI M)
    rcases zdec2 (a := a1) (l := 1) (n := 72) (by omega) (by omega) with ha | ⟨w, w1, w2, rfl⟩
    · exact pr_no (e := 0) G (by decide) (fun O => ⟨D, (b152_0).trans (by rw [y114 M.2.1, zcon_inl]; exact (b152_4).trans (by rw [c116n (b := 1) (c := 72) ha]; rfl)), ycF_rfl G.2.1.1⟩) (fun D1 O G1 => ymI (ym_th (m286n2 (yg1 G1.2.2.1) ha)))
    refine pr_ch G ⟨_, rfl⟩ (fun O => ⟨_, zFrO_rfl, c152 (ygI M) G.2.2.2.2.1 M.2.1 w1 w2⟩) (fun D1 O S1 R1 g1 hD => m286 (ygI M) (ygE M) S1 R1 g1 hD G.2.2.2.2.1.2.2.2.1 w1 w2) (fun IU EU MU => ygOk_of M.2.2.2.1 IU EU (zPz_im (ygZ M) MU (zPn_takes _ _ zPn_rfl)) (zTj_q (zQn_takes _ _ zQn_rfl)))
theorem q155 {a1 a2 : Int32} (G : ygG n D) : zPr n X 155 [.ref 0, .int a1, .int a2, zJ, zJ] 289 [.ref 168, .int a1, .int a2, zJ] [3, 1, 2] okI D k := by
    rcases G with ⟨T, x, h, G⟩ | ⟨x, G⟩
    rotate_left
    · exact pr_0 (e := 1) G (by decide) (fun O => (b155_0).trans (by rw [y121z G.2.2.2.1.1]; rfl)) (fun O => ymI (ym_th (m289n1 G.2.2.2.1.2)))
    have M := G.2.2.1
    have n6 := zIv_np6 (ygI M)
    rcases zdec (a := a1) (n := sNp T) (by omega) with ha | ⟨p, hp, rfl⟩
    · exact pr_no (e := 2) G (by decide) (fun O => ⟨D, (b155_0).trans (by rw [y121n M ha]; rfl), ycF_rfl G.2.1.1⟩) (fun D1 O G1 => ymI (ym_th (m289n2 (ygI G1.2.2.1) (ygS G1.2.2.1) (yg1 G1.2.2.1) ha)))
    have n12 := (yPg M hp).2
    rcases zdec (a := a2) (n := sPgs T p) (by omega) with ha | ⟨g, hg, rfl⟩
    · exact pr_no (e := 2) G (by decide) (fun O => ⟨D, (b155_0).trans (by rw [y121m M hp ha]; rfl), ycF_rfl G.2.1.1⟩) (fun D1 O G1 => ymI (ym_th (m289n3 (ygI G1.2.2.1) (ygS G1.2.2.1) (yg1 G1.2.2.1) hp ha)))
    cases he : sEnd T p
    rotate_left
    · exact pr_no (e := 0) G (by decide) (fun O => ⟨D, (b155_0).trans (by rw [y121 M hp hg, zcon_inl]; exact (b155_6).trans (by rw [y139n M hp he]; rfl)), ycF_rfl G.2.1.1⟩) (fun D1 O G1 => ymI (ym_th (m289n4 (ygI G1.2.2.1) (ygS G1.2.2.1) (ygR G1.2.2.1) (yg1 G1.2.2.1) hp hg he)))
    by_cases hb : sIn T (12 * p + g) = false ∨ sPin T (12 * p + g) = true
    · exact pr_no (e := 0) G (by decide) (fun O => ⟨D, yc_e M (c155n (ygI M) M.2.1 hp hg he hb), ycF_rfl G.2.1.1⟩) (fun D1 O G1 => ymI (ym_th (m289n5 (ygI G1.2.2.1) (ygS G1.2.2.1) (ygR G1.2.2.1) (yg1 G1.2.2.1) hp hg he hb)))
    have hi : sIn T (12 * p + g) = true := by cases q : sIn T (12 * p + g); exact absurd (Or.inl q) hb; rfl
    have hi2 : sPin T (12 * p + g) = false := by cases q : sPin T (12 * p + g); rfl; exact absurd (Or.inr q) hb
    refine pr_ch G ⟨_, rfl⟩ (fun O => ⟨_, zFrO_rfl, c155 (ygI M) G.2.2.2.2.1 M.2.1 hp hg he hi hi2⟩) (fun D1 O S1 R1 g1 hD => m289 (ygI M) (ygE M) S1 R1 g1 hD G.2.2.2.2.1.2.2.2.1 hp hg he hi hi2) (fun IU EU MU => ygOk_of M.2.2.2.1 IU EU (zPz_im (ygZ M) MU (zPn_leave zPn_rfl)) (zTj_q (zQn_leave zQn_rfl)))
theorem q156 {a1 a2 : Int32} {a3 : Bool} (G : ygG n D) : zPr n X 156 [.ref 0, .int a1, .int a2, .int (zb a3), zJ, zJ] 290 [.ref 168, .int a1, .int a2, .int (zb a3), zJ] [3, 1, 2] okB D k := by
    rcases G with ⟨T, x, h, G⟩ | ⟨x, G⟩
    rotate_left
    · exact pr_0 (e := 1) G (by decide) (fun O => (b156_0).trans (by rw [y121z G.2.2.2.1.1]; rfl)) (fun O => ymB (ym_th (m290n1 G.2.2.2.1.2)))
    have M := G.2.2.1
    have n6 := zIv_np6 (ygI M)
    rcases zdec (a := a1) (n := sNp T) (by omega) with ha | ⟨p, hp, rfl⟩
    · exact pr_no (e := 2) G (by decide) (fun O => ⟨D, (b156_0).trans (by rw [y121n M ha]; rfl), ycF_rfl G.2.1.1⟩) (fun D1 O G1 => ymB (ym_th (m290n2 (ygI G1.2.2.1) (ygS G1.2.2.1) (yg1 G1.2.2.1) ha)))
    have n12 := (yPg M hp).2
    rcases zdec (a := a2) (n := sPgs T p) (by omega) with ha | ⟨g, hg, rfl⟩
    · exact pr_no (e := 2) G (by decide) (fun O => ⟨D, (b156_0).trans (by rw [y121m M hp ha]; rfl), ycF_rfl G.2.1.1⟩) (fun D1 O G1 => ymB (ym_th (m290n3 (ygI G1.2.2.1) (ygS G1.2.2.1) (yg1 G1.2.2.1) hp ha)))
    cases he : sEnd T p
    rotate_left
    · exact pr_no (e := 0) G (by decide) (fun O => ⟨D, (b156_0).trans (by rw [y121 M hp hg, zcon_inl]; exact (b156_6).trans (by rw [y139n M hp he]; rfl)), ycF_rfl G.2.1.1⟩) (fun D1 O G1 => ymB (ym_th (m290n4 (ygI G1.2.2.1) (ygS G1.2.2.1) (ygR G1.2.2.1) (yg1 G1.2.2.1) hp hg he)))
    refine pr_ch G ⟨_, rfl⟩ (fun O => ⟨_, zFrO_rfl, c156 (w := a3) (ygI M) G.2.2.2.2.1 M.2.1 hp hg he⟩) (fun D1 O S1 R1 g1 hD => m290 (w := a3) (ygI M) (ygE M) S1 R1 g1 hD G.2.2.2.2.1.2.2.2.1 hp hg he) (fun IU EU MU => ygOk_of M.2.2.2.1 IU EU (zPz_pin (ygZ M) hp hg n12) (zTj_q (zQn_w zQn_rfl (by omega))))
theorem q157 {a1 : Int32} (G : ygG n D) : zPr n X 157 [.ref 0, .int a1] 291 [.ref 168, .int a1, zJ, zJ] [3, 1, 2] okI D k := by
    rcases G with ⟨T, x, h, G⟩ | ⟨x, G⟩
    rotate_left
    · exact pr_0 (e := 1) G (by decide) (fun O => (b157_0).trans (by rw [y119z G.2.2.2.1.1]; rfl)) (fun O => ymI (ym_th (m291n1 G.2.2.2.1.2)))
    have M := G.2.2.1
    have n6 := zIv_np6 (ygI M)
    rcases zdec (a := a1) (n := sNp T) (by omega) with ha | ⟨p, hp, rfl⟩
    · exact pr_no (e := 2) G (by decide) (fun O => ⟨D, (b157_0).trans (by rw [y119n M ha]; rfl), ycF_rfl G.2.1.1⟩) (fun D1 O G1 => ymI (ym_th (m291n2 (ygI G1.2.2.1) (ygS G1.2.2.1) (yg1 G1.2.2.1) ha)))
    cases he : sEnd T p
    rotate_left
    · exact pr_no (e := 0) G (by decide) (fun O => ⟨D, (b157_0).trans (by rw [y119 M hp, zcon_inl]; exact (b157_5).trans (by rw [y139n M hp he]; rfl)), ycF_rfl G.2.1.1⟩) (fun D1 O G1 => ymI (ym_th (m291n3 (ygI G1.2.2.1) (ygS G1.2.2.1) (ygR G1.2.2.1) (yg1 G1.2.2.1) hp he)))
    have hZ : ∀ O : ZO2, zPz (uEnd T p) := fun O => let ⟨_, _, _, z2, _⟩ := m291 (X := X) (O := O) (k := k) (ygI M) (ygE M) (ygZ M) (ygS M) (ygR M) (yg1 M) G.2.2.2.2.2.1 G.2.2.2.2.1.2.2.2.1 hp he; z2
    refine pr_ch G ⟨_, rfl⟩ (fun O => ⟨_, zFrO_rfl, c157 (ygI M) G.2.2.2.2.1 M.2.1 hp he⟩) (fun D1 O S1 R1 g1 hD => let ⟨D', s', z1, _, z3⟩ := m291 (ygI M) (ygE M) (ygZ M) S1 R1 g1 hD G.2.2.2.2.1.2.2.2.1 hp he; ⟨D', s', z1, z3⟩) (fun IU EU MU => ygOk_of M.2.2.2.1 IU EU (hZ default) (zTj_q zQn_end))
theorem q158 {a1 a2 : Int32} (G : ygG n D) : zPr n X 158 [.ref 0, .int a1, .int a2, zJ] 292 [.ref 168, .int a1, .int a2, zJ] [3, 1, 2] okI D k := by
    rcases G with ⟨T, x, h, G⟩ | ⟨x, G⟩
    rotate_left
    · exact pr_0 (e := 1) G (by decide) (fun O => (b158_0).trans (by rw [y119z G.2.2.2.1.1]; rfl)) (fun O => ymI (ym_th (m292n1 G.2.2.2.1.2)))
    have M := G.2.2.1
    have n6 := zIv_np6 (ygI M)
    rcases zdec (a := a1) (n := sNp T) (by omega) with ha | ⟨p, hp, rfl⟩
    · exact pr_no (e := 2) G (by decide) (fun O => ⟨D, (b158_0).trans (by rw [y119n M ha]; rfl), ycF_rfl G.2.1.1⟩) (fun D1 O G1 => ymI (ym_th (m292n2 (ygI G1.2.2.1) (ygS G1.2.2.1) (yg1 G1.2.2.1) ha)))
    rcases zdec2 (a := a2) (l := 1) (n := 99) (by omega) (by omega) with ha | ⟨w, w1, w2, rfl⟩
    · exact pr_no (e := 0) G (by decide) (fun O => ⟨D, (b158_0).trans (by rw [y119 M hp, zcon_inl]; exact (b158_5).trans (by rw [c116n (b := 1) (c := 99) ha]; rfl)), ycF_rfl G.2.1.1⟩) (fun D1 O G1 => ymI (ym_th (m292n3 (ygI G1.2.2.1) (ygS G1.2.2.1) (yg1 G1.2.2.1) hp ha)))
    have h1 : ¬ zi w < zi 1 := by rw [zi_lt (by omega) (by omega)]; omega
    have h2 : ¬ zi 99 < zi w := by rw [zi_lt (by omega) (by omega)]; omega
    refine pr_ch G ⟨_, rfl⟩ (fun O => ⟨_, zFrO_rfl, c158 (ygI M) G.2.2.2.2.1 M.2.1 hp h1 h2⟩) (fun D1 O S1 R1 g1 hD => m292 (ygI M) (ygE M) S1 R1 g1 hD G.2.2.2.2.1.2.2.2.1 hp w1 w2) (fun IU EU MU => ygOk_of M.2.2.2.1 IU EU (zPz_im (ygZ M) MU (zPn_w zPn_rfl (by omega))) (zTj_q (zQn_w zQn_rfl (by omega))))
theorem q159 {a1 a2 : Int32} (G : ygG n D) : zPr n X 159 [.ref 0, .int a1, .int a2] 293 [.ref 168, .int a1, .int a2] [3, 1, 2] okI D k := by
    rcases G with ⟨T, x, h, G⟩ | ⟨x, G⟩
    rotate_left
    · exact pr_0 (e := 1) G (by decide) (fun O => (b159_0).trans (by rw [y119z G.2.2.2.1.1]; rfl)) (fun O => ymI (ym_th (m293n1 G.2.2.2.1.2)))
    have M := G.2.2.1
    have n6 := zIv_np6 (ygI M)
    rcases zdec (a := a1) (n := sNp T) (by omega) with ha | ⟨p, hp, rfl⟩
    · exact pr_no (e := 2) G (by decide) (fun O => ⟨D, (b159_0).trans (by rw [y119n M ha]; rfl), ycF_rfl G.2.1.1⟩) (fun D1 O G1 => ymI (ym_th (m293n2 (ygI G1.2.2.1) (ygS G1.2.2.1) (yg1 G1.2.2.1) ha)))
    by_cases ha : a2 < -zi 99 ∨ zi 99 < a2
    · exact pr_no (e := 0) G (by decide) (fun O => ⟨D, (b159_0).trans (by rw [y119 M hp, zcon_inl]; exact (b159_5).trans (by rw [c116n (b := -99) (c := 99) ha]; rfl)), ycF_rfl G.2.1.1⟩) (fun D1 O G1 => ymI (ym_th (m293n3 (ygI G1.2.2.1) (ygS G1.2.2.1) (yg1 G1.2.2.1) hp ha)))
    have h1 : ¬ a2 < -zi 99 := fun q => ha (Or.inl q)
    have h2 : ¬ zi 99 < a2 := fun q => ha (Or.inr q)
    refine pr_ch G ⟨_, rfl⟩ (fun O => ⟨_, zFrO_rfl, c159 (ygI M) G.2.2.2.2.1 M.2.1 hp h1 h2⟩) (fun D1 O S1 R1 g1 hD => m293 (ygI M) (ygE M) S1 R1 g1 hD G.2.2.2.2.1.2.2.2.1 hp h1 h2) (fun IU EU MU => ygOk_of M.2.2.2.1 IU EU (zPz_im (ygZ M) MU (zPn_w zPn_rfl (by omega))) (zTj_q (zQn_w zQn_rfl (by omega))))
theorem q163 (G : ygG n D) : zPr n X 163 [.ref 0, zJ, zJ] 296 [.ref 168, zJ, zJ] [0, 1, 0] okI D k := by
    rcases G with ⟨T, x, h, G⟩ | ⟨x, G⟩
    rotate_left
    · exact pr_0 (e := 1) G (by decide) (fun O => (b163_0).trans (by rw [y114z G.2.2.2.1.1]; rfl)) (fun O => ymI (ym_th (m296n1 G.2.2.2.1.2)))
    have M := G.2.2.1
    have n6 := zIv_np6 (ygI M)
    refine pr_ch G ⟨_, rfl⟩ (fun O => ⟨_, zFrO_rfl, c163 (ygI M) G.2.2.2.2.1 M.2.1⟩) (fun D1 O S1 R1 g1 hD => m296 (ygI M) (ygE M) S1 R1 g1 hD G.2.2.2.2.1.2.2.2.1) (fun IU EU MU => ygOk_of M.2.2.2.1 IU EU (zPz_im (ygZ M) MU (fun q => congrFun (zrow_ne (by omega)) _)) (zTj_q ⟨congrFun (zrow_ne (by omega)) _, congrFun (zrow_ne (by omega)) _, congrFun (zrow_ne (by omega)) _⟩))
end
