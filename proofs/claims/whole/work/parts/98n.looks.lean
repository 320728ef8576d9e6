/-! Looks: the class and the model (mk_pairs.py). -/
section
variable {X : ZX} {n : Nat} {D : ZD2} {k : Nat × Nat × Nat}
theorem q115 {a1 : Int32} (G : ygG n D) : zPr n X 115 [.ref 0, .int a1] 200 [.ref 168, .int a1] [2, 1, 0] okI D k := by
    rcases G with ⟨T, x, h, G⟩ | ⟨x, G⟩
    rotate_left
    · exact pr_0 (e := 1) G (by decide) (fun O => (b115_0).trans (by rw [y114z G.2.2.2.1.1]; rfl)) (fun O => ymI (ym_th (m200n1 G.2.2.2.1.2)))
    have M := G.2.2.1
    have n6 := zIv_np6 (ygI M)
    rcases zdec2 (a := a1) (l := 0) (n := 15) (by omega) (by omega) with ha | ⟨w, w1, w2, rfl⟩
    · exact pr_no (e := 0) G (by decide) (fun O => ⟨D, (b115_0).trans (by rw [y114 M.2.1, zcon_inl]; exact (b115_4).trans (by rw [c116n (b := 0) (c := 15) ha]; rfl)), ycF_rfl G.2.1.1⟩) (fun D1 O G1 => ymI (ym_th (m200n2 (yg1 G1.2.2.1) ha)))
    exact pr_ok G ⟨_, rfl⟩ (fun O => yc_0 G (c115 (ygI M) M.2.1 w2)) (fun D1 O G1 => let ⟨D', e, f, z⟩ := m200 (ygI G1.2.2.1) (ygS G1.2.2.1) (ygR G1.2.2.1) (zIv_wok (ygI G1.2.2.1)) (yg1 G1.2.2.1) w2; ym_fs e f z)
theorem q117 {a1 : Int32} (G : ygG n D) : zPr n X 117 [.ref 0, .int a1] 221 [.ref 168, .int a1] [2, 1, 0] okI D k := by
    rcases G with ⟨T, x, h, G⟩ | ⟨x, G⟩
    rotate_left
    · exact pr_0 (e := 1) G (by decide) (fun O => (b117_0).trans (by rw [y114z G.2.2.2.1.1]; rfl)) (fun O => ymI (ym_th (m221n1 G.2.2.2.1.2)))
    have M := G.2.2.1
    have n6 := zIv_np6 (ygI M)
    rcases zdec2 (a := a1) (l := 0) (n := 4) (by omega) (by omega) with ha | ⟨w, w1, w2, rfl⟩
    · exact pr_no (e := 0) G (by decide) (fun O => ⟨D, (b117_0).trans (by rw [y114 M.2.1, zcon_inl]; exact (b117_4).trans (by rw [c116n (b := 0) (c := 4) ha]; rfl)), ycF_rfl G.2.1.1⟩) (fun D1 O G1 => ymI (ym_th (m221n2 (yg1 G1.2.2.1) ha)))
    exact pr_ok G ⟨_, rfl⟩ (fun O => yc_0 G (c117 (T := T) M.2.1 w2)) (fun D1 O G1 => ym_th (m221 (ygS G1.2.2.1) (yg1 G1.2.2.1) w2))
theorem q118 {a1 a2 : Int32} (G : ygG n D) : zPr n X 118 [.ref 0, .int a1, .int a2] 222 [.ref 168, .int a1, .int a2] [3, 1, 2] okI D k := by
    rcases G with ⟨T, x, h, G⟩ | ⟨x, G⟩
    rotate_left
    · exact pr_0 (e := 1) G (by decide) (fun O => (b118_0).trans (by rw [y119z G.2.2.2.1.1]; rfl)) (fun O => ymI (ym_th (m222n1 G.2.2.2.1.2)))
    have M := G.2.2.1
    have n6 := zIv_np6 (ygI M)
    rcases zdec (a := a1) (n := sNp T) (by omega) with ha | ⟨p, hp, rfl⟩
    · exact pr_no (e := 2) G (by decide) (fun O => ⟨D, (b118_0).trans (by rw [y119n M ha]; rfl), ycF_rfl G.2.1.1⟩) (fun D1 O G1 => ymI (ym_th (m222n2 (ygI G1.2.2.1) (ygS G1.2.2.1) (yg1 G1.2.2.1) ha)))
    rcases zdec2 (a := a2) (l := 0) (n := 11) (by omega) (by omega) with ha | ⟨w, w1, w2, rfl⟩
    · exact pr_no (e := 0) G (by decide) (fun O => ⟨D, (b118_0).trans (by rw [y119 M hp, zcon_inl]; exact (b118_5).trans (by rw [c116n (b := 0) (c := 11) ha]; rfl)), ycF_rfl G.2.1.1⟩) (fun D1 O G1 => ymI (ym_th (m222n3 (ygI G1.2.2.1) (ygS G1.2.2.1) (yg1 G1.2.2.1) hp ha)))
    exact pr_ok G ⟨_, rfl⟩ (fun O => yc_0 G (c118 (ygI M) M.2.1 hp w2)) (fun D1 O G1 => ym_th (m222 (ygI G1.2.2.1) (ygS G1.2.2.1) (ygR G1.2.2.1) (yg1 G1.2.2.1) hp w2))
theorem q120 {a1 a2 a3 : Int32} (G : ygG n D) : zPr n X 120 [.ref 0, .int a1, .int a2, .int a3, zJ] 227 [.ref 168, .int a1, .int a2, .int a3, zJ] [3, 1, 2] okI D k := by
    rcases G with ⟨T, x, h, G⟩ | ⟨x, G⟩
    rotate_left
    · exact pr_0 (e := 1) G (by decide) (fun O => (b120_0).trans (by rw [y121z G.2.2.2.1.1]; rfl)) (fun O => ymI (ym_th (m227n1 G.2.2.2.1.2)))
    have M := G.2.2.1
    have n6 := zIv_np6 (ygI M)
    rcases zdec (a := a1) (n := sNp T) (by omega) with ha | ⟨p, hp, rfl⟩
    · exact pr_no (e := 2) G (by decide) (fun O => ⟨D, (b120_0).trans (by rw [y121n M ha]; rfl), ycF_rfl G.2.1.1⟩) (fun D1 O G1 => ymI (ym_th (m227n2 (ygI G1.2.2.1) (ygS G1.2.2.1) (yg1 G1.2.2.1) ha)))
    have n12 := (yPg M hp).2
    rcases zdec (a := a2) (n := sPgs T p) (by omega) with ha | ⟨g, hg, rfl⟩
    · exact pr_no (e := 2) G (by decide) (fun O => ⟨D, (b120_0).trans (by rw [y121m M hp ha]; rfl), ycF_rfl G.2.1.1⟩) (fun D1 O G1 => ymI (ym_th (m227n3 (ygI G1.2.2.1) (ygS G1.2.2.1) (yg1 G1.2.2.1) hp ha)))
    rcases zdec2 (a := a3) (l := 0) (n := 8) (by omega) (by omega) with ha | ⟨w, w1, w2, rfl⟩
    · exact pr_no (e := 0) G (by decide) (fun O => ⟨D, (b120_0).trans (by rw [y121 M hp hg, zcon_inl]; exact (b120_6).trans (by rw [c116n (b := 0) (c := 8) ha]; rfl)), ycF_rfl G.2.1.1⟩) (fun D1 O G1 => ymI (ym_th (m227n4 (ygI G1.2.2.1) (ygS G1.2.2.1) (yg1 G1.2.2.1) hp hg ha)))
    exact pr_ok G ⟨_, rfl⟩ (fun O => yc_0 G (c120 (ygI M) M.2.1 hp hg w2)) (fun D1 O G1 => ym_th (m227 (ygI G1.2.2.1) (ygS G1.2.2.1) (ygR G1.2.2.1) (ygE G1.2.2.1).1 (yg1 G1.2.2.1) hp hg w2))
theorem q126 {a1 : Int32} (G : ygG n D) : zPr n X 126 [.ref 0, .int a1, zJ, zJ, zJ] 235 [.ref 168, .int a1, zJ, zJ] [2, 1, 0] okI D k := by
    rcases G with ⟨T, x, h, G⟩ | ⟨x, G⟩
    rotate_left
    · exact pr_0 (e := 1) G (by decide) (fun O => (b126_0).trans (by rw [y114z G.2.2.2.1.1]; rfl)) (fun O => ymI (ym_th (m235n1 G.2.2.2.1.2)))
    have M := G.2.2.1
    have n6 := zIv_np6 (ygI M)
    rcases zdec2 (a := a1) (l := 1) (n := 72) (by omega) (by omega) with ha | ⟨w, w1, w2, rfl⟩
    · exact pr_no (e := 0) G (by decide) (fun O => ⟨D, (b126_0).trans (by rw [y114 M.2.1, zcon_inl]; exact (b126_4).trans (by rw [c116n (b := 1) (c := 72) ha]; rfl)), ycF_rfl G.2.1.1⟩) (fun D1 O G1 => ymI (ym_th (m235n2 (yg1 G1.2.2.1) ha)))
    exact pr_ok G ⟨_, rfl⟩ (fun O => let ⟨D', f, e⟩ := c126 (ygI M) (zIv_wok (ygI M)) M.2.1 w1 w2; yc_o G f e) (fun D1 O G1 => let ⟨D', f, z, e⟩ := m235 (ygI G1.2.2.1) (ygS G1.2.2.1) (ygR G1.2.2.1) (zIv_wok (ygI G1.2.2.1)) (yg1 G1.2.2.1) w1 w2; ym_fs e f z)
theorem q127 (G : ygG n D) : zPr n X 127 [.ref 0] 237 [.ref 168, zJ, zJ] [0, 1, 0] okI D k := by
    rcases G with ⟨T, x, h, G⟩ | ⟨x, G⟩
    rotate_left
    · exact pr_0 (e := 1) G (by decide) (fun O => (b127_0).trans (by rw [y114z G.2.2.2.1.1]; rfl)) (fun O => ymI (ym_th (m237n1 G.2.2.2.1.2)))
    have M := G.2.2.1
    have n6 := zIv_np6 (ygI M)
    exact pr_ok G ⟨_, rfl⟩ (fun O => yc_0 G (c127 (ygI M) M.2.1)) (fun D1 O G1 => ym_th (m237 (ygI G1.2.2.1) (ygE G1.2.2.1) (ygS G1.2.2.1) (ygR G1.2.2.1) (yg1 G1.2.2.1)))
theorem q128 (G : ygG n D) : zPr n X 128 [.ref 0] 238 [.ref 168, zJ, zJ] [0, 1, 0] okI D k := by
    rcases G with ⟨T, x, h, G⟩ | ⟨x, G⟩
    rotate_left
    · exact pr_0 (e := 1) G (by decide) (fun O => (b128_0).trans (by rw [y114z G.2.2.2.1.1]; rfl)) (fun O => ymI (ym_th (m238n1 G.2.2.2.1.2)))
    have M := G.2.2.1
    have n6 := zIv_np6 (ygI M)
    exact pr_ok G ⟨_, rfl⟩ (fun O => yc_0 G (c128 (ygI M) M.2.1)) (fun D1 O G1 => ym_th (m238 (ygI G1.2.2.1) (ygS G1.2.2.1) (ygR G1.2.2.1) (yg1 G1.2.2.1)))
theorem q129 (G : ygG n D) : zPr n X 129 [.ref 0, zJ, zJ] 239 [.ref 168, zJ, zJ] [0, 1, 0] okI D k := by
    rcases G with ⟨T, x, h, G⟩ | ⟨x, G⟩
    rotate_left
    · exact pr_0 (e := 1) G (by decide) (fun O => (b129_0).trans (by rw [y114z G.2.2.2.1.1]; rfl)) (fun O => ymI (ym_th (m239n1 G.2.2.2.1.2)))
    have M := G.2.2.1
    have n6 := zIv_np6 (ygI M)
    exact pr_ok G ⟨_, rfl⟩ (fun O => yc_0 G (c129 (ygI M) M.2.1)) (fun D1 O G1 => ym_th (m239 (ygI G1.2.2.1) (ygS G1.2.2.1) (ygR G1.2.2.1) (yg1 G1.2.2.1)))
theorem q131 (G : ygG n D) : zPr n X 131 [.ref 0, zJ, zJ] 240 [.ref 168, zJ, zJ] [0, 1, 0] okI D k := by
    rcases G with ⟨T, x, h, G⟩ | ⟨x, G⟩
    rotate_left
    · exact pr_0 (e := 1) G (by decide) (fun O => (b131_0).trans (by rw [y114z G.2.2.2.1.1]; rfl)) (fun O => ymI (ym_th (m240n1 G.2.2.2.1.2)))
    have M := G.2.2.1
    have n6 := zIv_np6 (ygI M)
    exact pr_ok G ⟨_, rfl⟩ (fun O => yc_0 G (c131 (ygI M) M.2.1)) (fun D1 O G1 => ym_th (m240 (ygI G1.2.2.1) (ygS G1.2.2.1) (ygR G1.2.2.1) (yg1 G1.2.2.1)))
theorem q133 {a1 : Int32} (G : ygG n D) : zPr n X 133 [.ref 0, .int a1, zJ, zJ, zJ] 241 [.ref 168, .int a1, zJ, zJ, zJ] [2, 1, 0] okI D k := by
    rcases G with ⟨T, x, h, G⟩ | ⟨x, G⟩
    rotate_left
    · exact pr_0 (e := 1) G (by decide) (fun O => (b133_0).trans (by rw [y114z G.2.2.2.1.1]; rfl)) (fun O => ymI (ym_th (m241n1 G.2.2.2.1.2)))
    have M := G.2.2.1
    have n6 := zIv_np6 (ygI M)
    rcases zdec2 (a := a1) (l := 0) (n := 200) (by omega) (by omega) with ha | ⟨w, w1, w2, rfl⟩
    · exact pr_no (e := 0) G (by decide) (fun O => ⟨D, (b133_0).trans (by rw [y114 M.2.1, zcon_inl]; exact (b133_4).trans (by rw [c116n (b := 0) (c := 200) ha]; rfl)), ycF_rfl G.2.1.1⟩) (fun D1 O G1 => ymI (ym_th (m241n2 (yg1 G1.2.2.1) ha)))
    have h1 : ¬ zi w < zi 0 := by rw [zi_lt (by omega) (by omega)]; omega
    have h2 : ¬ zi 200 < zi w := by rw [zi_lt (by omega) (by omega)]; omega
    exact pr_ok G ⟨_, rfl⟩ (fun O => yc_0 G (c133 (ygI M) M.2.1 h1 h2)) (fun D1 O G1 => let ⟨D', f, z, e⟩ := m241 (ygI G1.2.2.1) (ygS G1.2.2.1) (ygR G1.2.2.1) (yg1 G1.2.2.1) h1 h2; ym_fs e f z)
theorem q134 {a1 a2 : Int32} (G : ygG n D) : zPr n X 134 [.ref 0, .int a1, .int a2, zJ, zJ, zJ, zJ] 242 [.ref 168, .int a1, .int a2, zJ, zJ, zJ] [0, 1, 2] okI D k := by
    rcases G with ⟨T, x, h, G⟩ | ⟨x, G⟩
    rotate_left
    · exact pr_0 (e := 1) G (by decide) (fun O => (b134_0).trans (by rw [y121z G.2.2.2.1.1]; rfl)) (fun O => ymI (ym_th (m242n1 G.2.2.2.1.2)))
    have M := G.2.2.1
    have n6 := zIv_np6 (ygI M)
    rcases zdec (a := a1) (n := sNp T) (by omega) with ha | ⟨p, hp, rfl⟩
    · exact pr_no (e := 2) G (by decide) (fun O => ⟨D, (b134_0).trans (by rw [y121n M ha]; rfl), ycF_rfl G.2.1.1⟩) (fun D1 O G1 => ymI (ym_th (m242n2 (ygI G1.2.2.1) (ygS G1.2.2.1) (yg1 G1.2.2.1) ha)))
    have n12 := (yPg M hp).2
    rcases zdec (a := a2) (n := sPgs T p) (by omega) with ha | ⟨g, hg, rfl⟩
    · exact pr_no (e := 2) G (by decide) (fun O => ⟨D, (b134_0).trans (by rw [y121m M hp ha]; rfl), ycF_rfl G.2.1.1⟩) (fun D1 O G1 => ymI (ym_th (m242n3 (ygI G1.2.2.1) (ygS G1.2.2.1) (yg1 G1.2.2.1) hp ha)))
    exact pr_ok G ⟨_, rfl⟩ (fun O => yc_0 G (c134 (ygI M) M.2.1 hp hg)) (fun D1 O G1 => ym_th (m242 (ygI G1.2.2.1) (ygS G1.2.2.1) (ygR G1.2.2.1) (yg1 G1.2.2.1) hp hg))
theorem q135 (G : ygG n D) (hn : n ≤ 512) : zPr n X 135 [.ref 0, zJ, zJ] 243 [.ref 168] [0, 1, 0] okF D k := by
    rcases G with ⟨T, x, h, G⟩ | ⟨x, G⟩
    rotate_left
    · exact pr_0 (e := 1) G (by decide) (fun O => (b135_0).trans (by rw [y114z G.2.2.2.1.1]; rfl)) (fun O => let ⟨D2, x1, x2, x3⟩ := ym_th (m243n1 G.2.2.2.1.2); ⟨D2, _, x1, okF_0, x2, x3⟩)
    have M := G.2.2.1
    have n6 := zIv_np6 (ygI M)
    have hF : ((if zi 0 < T 1 6 then sHit T else FP.fconst0 : UInt32) &&& 0x7fffffff ≤ 0x7f800000) := by
      split
      · rename_i q; exact sHit_ok (ygC M) hn q
      · decide
    exact pr_ok G ⟨_, rfl, hF⟩ (fun O => yc_0 G (c135 (T := T) M.2.1 (sHit_ok (ygC M) hn))) (fun D1 O G1 => ym_th (m243 (ygR G1.2.2.1) (ygC G1.2.2.1) hn (yg1 G1.2.2.1)))
theorem q136 (G : ygG n D) : zPr n X 136 [.ref 0, zJ, zJ] 244 [.ref 168, zJ, zJ] [0, 1, 0] okD D k := by
    rcases G with ⟨T, x, h, G⟩ | ⟨x, G⟩
    rotate_left
    · exact pr_0 (e := 1) G (by decide) (fun O => (b136_0).trans (by rw [y114z G.2.2.2.1.1]; rfl)) (fun O => let ⟨D2, x1, x2, x3⟩ := ym_th (m244n1 G.2.2.2.1.2); ⟨D2, _, x1, okD_0, x2, x3⟩)
    have M := G.2.2.1
    have n6 := zIv_np6 (ygI M)
    have hL := sLive_le T
    have hS : zi 0 < zi (sLive T) → sMean T &&& 0x7fffffffffffffff ≤ 0x7ff0000000000000 := fun q => sMean_ok (ygI M) (by rw [zi_lt (by omega) (by omega)] at q; exact q)
    have hF : ((if zi 0 < zi (sLive T) then sMean T else FP.dconst0 : UInt64) &&& 0x7fffffffffffffff ≤ 0x7ff0000000000000) := by
      split
      · rename_i q; exact hS q
      · decide
    exact pr_ok G ⟨_, rfl, hF⟩ (fun O => yc_0 G (c136 (ygI M) M.2.1 hS)) (fun D1 O G1 => ym_th (m244 (ygI G1.2.2.1) (ygS G1.2.2.1) (ygR G1.2.2.1) (yg1 G1.2.2.1)))
theorem q137 {a1 : Int32} (G : ygG n D) : zPr n X 137 [.ref 0, .int a1] 245 [.ref 168, .int a1] [0, 1, 2] okI D k := by
    rcases G with ⟨T, x, h, G⟩ | ⟨x, G⟩
    rotate_left
    · exact pr_0 (e := 1) G (by decide) (fun O => (b137_0).trans (by rw [y119z G.2.2.2.1.1]; rfl)) (fun O => ymI (ym_th (m245n1 G.2.2.2.1.2)))
    have M := G.2.2.1
    have n6 := zIv_np6 (ygI M)
    rcases zdec (a := a1) (n := sNp T) (by omega) with ha | ⟨p, hp, rfl⟩
    · exact pr_no (e := 2) G (by decide) (fun O => ⟨D, (b137_0).trans (by rw [y119n M ha]; rfl), ycF_rfl G.2.1.1⟩) (fun D1 O G1 => ymI (ym_th (m245n2 (ygI G1.2.2.1) (ygS G1.2.2.1) (yg1 G1.2.2.1) ha)))
    exact pr_ok G ⟨_, rfl⟩ (fun O => yc_0 G (c137 (ygI M) M.2.1 hp)) (fun D1 O G1 => ym_th (m245 (ygI G1.2.2.1) (ygS G1.2.2.1) (ygR G1.2.2.1) (yg1 G1.2.2.1) hp))
theorem q138 {a1 a2 : Int32} {a3 : Bool} (G : ygG n D) : zPr n X 138 [.ref 0, .int a1, .int a2, .int (zb a3)] 246 [.ref 168, .int a1, .int a2, .int (zb a3), zJ] [3, 1, 2] okI D k := by
    rcases G with ⟨T, x, h, G⟩ | ⟨x, G⟩
    rotate_left
    · exact pr_0 (e := 1) G (by decide) (fun O => (b138_0).trans (by rw [y121z G.2.2.2.1.1]; rfl)) (fun O => ymI (ym_th (m246n1 G.2.2.2.1.2)))
    have M := G.2.2.1
    have n6 := zIv_np6 (ygI M)
    rcases zdec (a := a1) (n := sNp T) (by omega) with ha | ⟨p, hp, rfl⟩
    · exact pr_no (e := 2) G (by decide) (fun O => ⟨D, (b138_0).trans (by rw [y121n M ha]; rfl), ycF_rfl G.2.1.1⟩) (fun D1 O G1 => ymI (ym_th (m246n2 (ygI G1.2.2.1) (ygS G1.2.2.1) (yg1 G1.2.2.1) ha)))
    have n12 := (yPg M hp).2
    rcases zdec (a := a2) (n := sPgs T p) (by omega) with ha | ⟨g, hg, rfl⟩
    · exact pr_no (e := 2) G (by decide) (fun O => ⟨D, (b138_0).trans (by rw [y121m M hp ha]; rfl), ycF_rfl G.2.1.1⟩) (fun D1 O G1 => ymI (ym_th (m246n3 (ygI G1.2.2.1) (ygS G1.2.2.1) (yg1 G1.2.2.1) hp ha)))
    cases he : sEnd T p
    rotate_left
    · exact pr_no (e := 0) G (by decide) (fun O => ⟨D, (b138_0).trans (by rw [y121 M hp hg, zcon_inl]; exact (b138_6).trans (by rw [y139n M hp he]; rfl)), ycF_rfl G.2.1.1⟩) (fun D1 O G1 => ymI (ym_th (m246n4 (ygI G1.2.2.1) (ygS G1.2.2.1) (ygR G1.2.2.1) (yg1 G1.2.2.1) hp hg he)))
    have hU : ∀ O : ZO2, zFin (rTouch T p g a3).2 := fun O => let ⟨_, _, _, IU, _⟩ := m249 (X := X) (O := O) (k := k) (w := a3) (ygI M) (ygS M) (ygR M) hp hg; zIv_fin IU
    exact pr_ok G ⟨_, rfl⟩ (fun O => yc_t G (hU O) (c138 (w := a3) (ygI M) M.2.1 G.2.1.1 hp hg he)) (fun D1 O G1 => let ⟨D', s', f, z, hs, e⟩ := m246 (w := a3) (ygI G1.2.2.1) (ygS G1.2.2.1) (ygR G1.2.2.1) (yg1 G1.2.2.1) hp hg he; ym_ss e f z hs)
theorem q140 {a1 : Int32} (G : ygG n D) : zPr n X 140 [.ref 0, .int a1] 263 [.ref 168, .int a1] [2, 1, 0] okI D k := by
    rcases G with ⟨T, x, h, G⟩ | ⟨x, G⟩
    rotate_left
    · exact pr_0 (e := 1) G (by decide) (fun O => (b140_0).trans (by rw [y114z G.2.2.2.1.1]; rfl)) (fun O => ymI (ym_th (m263n1 G.2.2.2.1.2)))
    have M := G.2.2.1
    have n6 := zIv_np6 (ygI M)
    rcases zdec2 (a := a1) (l := 0) (n := 200) (by omega) (by omega) with ha | ⟨w, w1, w2, rfl⟩
    · exact pr_no (e := 0) G (by decide) (fun O => ⟨D, (b140_0).trans (by rw [y114 M.2.1, zcon_inl]; exact (b140_4).trans (by rw [c116n (b := 0) (c := 200) ha]; rfl)), ycF_rfl G.2.1.1⟩) (fun D1 O G1 => ymI (ym_th (m263n2 (yg1 G1.2.2.1) ha)))
    obtain ⟨tm, t1, t2⟩ := ygTm M
    have e : T 1 5 + zi w = zi (tm + w) := by rw [t1, zi_add]
    have h1 : ¬ zi w < zi 0 := by rw [zi_lt (by omega) (by omega)]; omega
    have h2 : ¬ zi 200 < zi w := by rw [zi_lt (by omega) (by omega)]; omega
    have cc := fun O : ZO2 => c140 (X := X) (O := O) (k := k) (ygI M) M.2.1 h1 h2
    rw [e] at cc
    exact pr_ok G ⟨_, rfl⟩ (fun O => yc_0 G (cc O)) (fun D1 O G1 => ym_th (m263 (ygI G1.2.2.1) (ygE G1.2.2.1) (ygS G1.2.2.1) (ygR G1.2.2.1) (yg1 G1.2.2.1) t1 t2 w2))
theorem q141 {a1 : Int32} (G : ygG n D) : zPr n X 141 [.ref 0, .int a1] 265 [.ref 168, .int a1, zJ] [2, 1, 0] okI D k := by
    rcases G with ⟨T, x, h, G⟩ | ⟨x, G⟩
    rotate_left
    · exact pr_0 (e := 1) G (by decide) (fun O => (b141_0).trans (by rw [y114z G.2.2.2.1.1]; rfl)) (fun O => ymI (ym_th (m265n1 G.2.2.2.1.2)))
    have M := G.2.2.1
    have n6 := zIv_np6 (ygI M)
    rcases zdec2 (a := a1) (l := 0) (n := 200) (by omega) (by omega) with ha | ⟨w, w1, w2, rfl⟩
    · exact pr_no (e := 0) G (by decide) (fun O => ⟨D, (b141_0).trans (by rw [y114 M.2.1, zcon_inl]; exact (b141_4).trans (by rw [c116n (b := 0) (c := 200) ha]; rfl)), ycF_rfl G.2.1.1⟩) (fun D1 O G1 => ymI (ym_th (m265n2 (yg1 G1.2.2.1) ha)))
    obtain ⟨tm, t1, t2⟩ := ygTm M
    have e : T 1 5 + zi w = zi (tm + w) := by rw [t1, zi_add]
    have h1 : ¬ zi w < zi 0 := by rw [zi_lt (by omega) (by omega)]; omega
    have h2 : ¬ zi 200 < zi w := by rw [zi_lt (by omega) (by omega)]; omega
    have cc := fun O : ZO2 => c141 (X := X) (O := O) (k := k) (ygI M) M.2.1 h1 h2
    rw [e, sOff_nest (ygI M)] at cc
    exact pr_ok G ⟨_, rfl⟩ (fun O => yc_0 G (cc O)) (fun D1 O G1 => let ⟨D', f, z, e⟩ := m265 (ygI G1.2.2.1) (ygE G1.2.2.1) (ygS G1.2.2.1) (ygR G1.2.2.1) (yg1 G1.2.2.1) t1 t2 w2; ym_fs e f z)
theorem q143 {a1 a2 : Int32} (G : ygG n D) : zPr n X 143 [.ref 0, .int a1, .int a2, zJ, zJ, zJ, zJ] 267 [.ref 168, .int a1, .int a2, zJ, zJ] [3, 1, 2] okI D k := by
    rcases G with ⟨T, x, h, G⟩ | ⟨x, G⟩
    rotate_left
    · exact pr_0 (e := 1) G (by decide) (fun O => (b143_0).trans (by rw [y119z G.2.2.2.1.1]; rfl)) (fun O => ymI (ym_th (m267n1 G.2.2.2.1.2)))
    have M := G.2.2.1
    have n6 := zIv_np6 (ygI M)
    rcases zdec (a := a1) (n := sNp T) (by omega) with ha | ⟨p, hp, rfl⟩
    · exact pr_no (e := 2) G (by decide) (fun O => ⟨D, (b143_0).trans (by rw [y119n M ha]; rfl), ycF_rfl G.2.1.1⟩) (fun D1 O G1 => ymI (ym_th (m267n2 (ygI G1.2.2.1) (ygS G1.2.2.1) (yg1 G1.2.2.1) ha)))
    rcases zdec2 (a := a2) (l := 1) (n := 72) (by omega) (by omega) with ha | ⟨w, w1, w2, rfl⟩
    · exact pr_no (e := 0) G (by decide) (fun O => ⟨D, (b143_0).trans (by rw [y119 M hp, zcon_inl]; exact (b143_5).trans (by rw [c116n (b := 1) (c := 72) ha]; rfl)), ycF_rfl G.2.1.1⟩) (fun D1 O G1 => ymI (ym_th (m267n3 (ygI G1.2.2.1) (ygS G1.2.2.1) (yg1 G1.2.2.1) hp ha)))
    exact pr_ok G ⟨_, rfl⟩ (fun O => let ⟨D', f, e⟩ := c143 (ygI M) (zIv_wok (ygI M)) M.2.1 hp w1 w2; yc_o G f e) (fun D1 O G1 => let ⟨D', s', f, z, hs, e⟩ := m267 (ygI G1.2.2.1) (ygE G1.2.2.1) (ygS G1.2.2.1) (ygR G1.2.2.1) (yg1 G1.2.2.1) hp w1 w2; ym_ss e f z hs)
theorem q144 {a1 : Int32} (G : ygG n D) : zPr n X 144 [.ref 0, .int a1, zJ, zJ] 269 [.ref 168, .int a1, zJ] [2, 1, 0] okI D k := by
    rcases G with ⟨T, x, h, G⟩ | ⟨x, G⟩
    rotate_left
    · exact pr_0 (e := 1) G (by decide) (fun O => (b144_0).trans (by rw [y114z G.2.2.2.1.1]; rfl)) (fun O => ymI (ym_th (m269n1 G.2.2.2.1.2)))
    have M := G.2.2.1
    have n6 := zIv_np6 (ygI M)
    rcases zdec2 (a := a1) (l := 1) (n := 72) (by omega) (by omega) with ha | ⟨w, w1, w2, rfl⟩
    · exact pr_no (e := 0) G (by decide) (fun O => ⟨D, (b144_0).trans (by rw [y114 M.2.1, zcon_inl]; exact (b144_4).trans (by rw [c116n (b := 1) (c := 72) ha]; rfl)), ycF_rfl G.2.1.1⟩) (fun D1 O G1 => ymI (ym_th (m269n2 (yg1 G1.2.2.1) ha)))
    have hU : ∀ O : ZO2, zFin (rVict w T none).2 := fun O => let ⟨_, _, _, _, _, IU, _⟩ := m270 (X := X) (O := O) (k := k) (ygI M) (ygE M) (ygS M) (ygR M) w2; by rw [rVict_T]; exact zIv_fin IU
    exact pr_ok G ⟨_, rfl⟩ (fun O => yc_t G (hU O) (c144 (ygI M) M.2.1 G.2.1.1 w1 w2)) (fun D1 O G1 => let ⟨D', s', f, z, hs, e⟩ := m269 (ygI G1.2.2.1) (ygE G1.2.2.1) (ygS G1.2.2.1) (ygR G1.2.2.1) (yg1 G1.2.2.1) w1 w2; ym_ss e f z hs)
theorem q145 {a1 : Int32} (G : ygG n D) : zPr n X 145 [.ref 0, .int a1, zJ] 273 [.ref 168, .int a1, zJ, zJ, zJ, zJ] [0, 1, 2] okI D k := by
    rcases G with ⟨T, x, h, G⟩ | ⟨x, G⟩
    rotate_left
    · exact pr_0 (e := 1) G (by decide) (fun O => (b145_0).trans (by rw [y119z G.2.2.2.1.1]; rfl)) (fun O => ymI (ym_th (m273n1 G.2.2.2.1.2)))
    have M := G.2.2.1
    have n6 := zIv_np6 (ygI M)
    rcases zdec (a := a1) (n := sNp T) (by omega) with ha | ⟨p, hp, rfl⟩
    · exact pr_no (e := 2) G (by decide) (fun O => ⟨D, (b145_0).trans (by rw [y119n M ha]; rfl), ycF_rfl G.2.1.1⟩) (fun D1 O G1 => ymI (ym_th (m273n2 (ygI G1.2.2.1) (ygS G1.2.2.1) (yg1 G1.2.2.1) ha)))
    exact pr_ok G ⟨_, rfl⟩ (fun O => let ⟨D', f, e⟩ := c145 (ygI M) (zIv_wok (ygI M)) M.2.1 hp (fun v r _ v2 r2 rp => sWn_ok (ygI M) (by omega) v2 r2 rp); yc_o G f e) (fun D1 O G1 => let ⟨D', f, z, e⟩ := m273 (ygI G1.2.2.1) (ygS G1.2.2.1) (ygR G1.2.2.1) (yg1 G1.2.2.1) hp; ym_fs e f z)
theorem q162 {a1 : Int32} (G : ygG n D) : zPr n X 162 [.ref 0, .int a1] 295 [.ref 168, .int a1] [0, 1, 2] okI D k := by
    rcases G with ⟨T, x, h, G⟩ | ⟨x, G⟩
    rotate_left
    · exact pr_0 (e := 1) G (by decide) (fun O => (b162_0).trans (by rw [y114z G.2.2.2.1.1]; rfl)) (fun O => ymI (ym_th (m295n1 G.2.2.2.1.2)))
    have M := G.2.2.1
    have n6 := zIv_np6 (ygI M)
    rcases zdec (a := a1) (n := 6) (by omega) with ha | ⟨w, hw, rfl⟩
    · exact pr_no (e := 2) G (by decide) (fun O => ⟨D, (b162_0).trans (by rw [y114 M.2.1, zcon_inl]; exact (b162_4).trans (by rw [c161n ha]; rfl)), ycF_rfl G.2.1.1⟩) (fun D1 O G1 => ymI (ym_th (m295n2 (yg1 G1.2.2.1) (yq_le (m := 5) (by omega) ha))))
    exact pr_ok G ⟨_, rfl⟩ (fun O => yc_0 G (c162 (T := T) M.2.1 hw)) (fun D1 O G1 => ym_th (m295 (ygR G1.2.2.1) (yg1 G1.2.2.1) hw))
end
