/-! The model's parser: keywords, errors, numbers. -/
/-- the model's reading stands where the class's does, or both have failed alike -/
def zPx (n : Nat) (P : ZPs) (D : ZD2) : Prop := D 168 25 = zi P.er ∧ D 168 26 = P.ep ∧ D 168 20 = zi n ∧ (P.er = 0 → zPm n P D ∧ zWd (D 176) P)
/-- tokens and errors touch these alone -/
def zFrE (D D' : ZD2) : Prop := (∀ a, a ≠ 168 → D' a = D a) ∧ ∀ x, x < 21 ∨ 26 < x → D' 168 x = D 168 x
theorem zFrE_rfl {D : ZD2} : zFrE D D := ⟨fun _ _ => rfl, fun _ _ => rfl⟩
theorem zFrE_tr {D E F : ZD2} (h1 : zFrE D E) (h2 : zFrE E F) : zFrE D F := ⟨fun a h => (h2.1 a h).trans (h1.1 a h), fun x h => (h2.2 x h).trans (h1.2 x h)⟩
theorem zFrE_N {D D' : ZD2} (h : zFrN D D') : zFrE D D' := ⟨h.1, fun x hx => h.2 x (by omega)⟩
theorem zPx_err {n : Nat} {P Q : ZPs} {D : ZD2} (h : zPx n P D) (he : P.er ≠ 0) (st : ySt P Q) : zPx n Q D := by
  obtain ⟨a, b⟩ := st he
  refine ⟨h.1.trans (by rw [a]), h.2.1.trans b.symm, h.2.2.1, fun q => ?_⟩
  rw [a] at q
  exact absurd q he
section
variable {X : ZX} {D : ZD2} {O : ZO2} {k : Nat × Nat × Nat} {n : Nat} {P : ZPs}
theorem zPx_25 (h : zPx n P D) (hW : yW n P) : (D 168 25 = 0) = (P.er = 0) := by
  have := hW.2.2
  rw [h.1, zl_0, zi_inj (by omega) (by omega)]
theorem m184 {c : Nat} (h : zPx n P D) (hW : yW n P) (hc : c ≠ 0) : ∃ D', zev X 184 0 [.ref 168, .int (zi c)] [] (zHP D O, k) = some (.inl none, (zHP D' O, k)) ∧ zPx n (yFail P c) D' ∧ zFrE D D' := by
  have e := zPx_25 h hW
  by_cases he : P.er = 0
  · have e' : D 168 25 = 0 := by rw [e]; exact he
    refine ⟨zw (zw D 168 25 (zi c)) 168 26 (D 168 22), ?_, ?_, ?_⟩
    · refine b184_0.trans ?_
      rw [if_pos e', zw_ne (by omega)]
    · have g : yFail P c = (P.wer c).wep (zi P.st) := by
        unfold yFail yFailAt
        rw [if_pos he]
      rw [g]
      refine ⟨?_, ?_, ?_, fun q => absurd q hc⟩
      · rw [zw_ne (by omega), zw_self]
        rfl
      · rw [zw_self]
        exact ((h.2.2.2 he).1).2.2.1
      · rw [zw_ne (by omega), zw_ne (by omega)]
        exact h.2.2.1
    · exact ⟨fun a ha => by rw [zw_row ha, zw_row ha], fun x hx => by rw [zw_ne (by omega), zw_ne (by omega)]⟩
  · have e' : ¬ D 168 25 = 0 := by rw [e]; exact he
    refine ⟨D, ?_, zPx_err h he ySt_fail, zFrE_rfl⟩
    refine b184_0.trans ?_
    rw [if_neg e']
theorem m183t {c : Nat} (h : zPx n P D) (hW : yW n P) (hc : c ≠ 0) : ∃ D', zev X 183 0 [.ref 168, .int (zi 1), .int (zi c)] [] (zHP D O, k) = some (.inl none, (zHP D' O, k)) ∧ zPx n (yFail P c) D' ∧ zFrE D D' := by
  obtain ⟨D', e1, e2, e3⟩ := m184 (X := X) (O := O) (k := k) h hW hc
  refine ⟨D', ?_, e2, e3⟩
  refine b183_0.trans ?_
  rw [if_neg (by decide), e1, zcon_inl]
  exact b183_9
theorem m183f {c : Int32} : zev X 183 0 [.ref 168, .int (zi 0), .int c] [] (zHP D O, k) = some (.inl none, (zHP D O, k)) := by
  refine b183_0.trans ?_
  rw [if_pos (show zi 0 = 0 from rfl)]
  exact b183_9
/-- on to the next token, if nothing failed -/
def yOn (B : Nat → Int32) (n : Nat) (P : ZPs) : ZPs := if P.er = 0 then yScan B n P else P
theorem m185 (h : zPx n P D) (hW : yW n P) (hn : n ≤ 600) (hB : ∀ i, i < n → D 176 i ≠ zn) : ∃ D', zev X 185 0 [.ref 168] [] (zHP D O, k) = some (.inl none, (zHP D' O, k)) ∧ zPx n (yOn (D 176) n P) D' ∧ zFrE D D' := by
  have e := zPx_25 h hW
  unfold yOn
  by_cases he : P.er = 0
  · have e' : D 168 25 = 0 := by rw [e]; exact he
    have hm := (h.2.2.2 he).1
    obtain ⟨D', a, b, c⟩ := m178 (X := X) (O := O) (k := k) (P := P) h.2.2.1 hm.2.1 hn hW.1 hB
    have s := yScan_ok (B := D 176) hW
    refine ⟨D', ?_, ?_, zFrE_N c⟩
    · refine b185_0.trans ?_
      rw [if_pos e', a, zcon_inl]
      exact b185_11
    · rw [if_pos he]
      refine ⟨?_, ?_, ?_, fun _ => ⟨b, ?_⟩⟩
      · rw [c.2 25 (by omega), s.2.2.1]
        exact h.1
      · rw [c.2 26 (by omega), s.2.2.2]
        exact h.2.1
      · rw [c.2 20 (by omega)]
        exact h.2.2.1
      · rw [c.1 176 (by omega)]
        exact zWd_scan hW.1
  · have e' : ¬ D 168 25 = 0 := by rw [e]; exact he
    refine ⟨D, ?_, ?_, zFrE_rfl⟩
    · refine b185_0.trans ?_
      rw [if_neg e']
      exact b185_11
    · rw [if_neg he]
      exact h
/-- a number looked at -/
def yLook (P : ZPs) (lo hi : Int32) : ZPs := if P.kd = 2 then (if P.va < lo ∨ hi < P.va then yFail P 2 else P) else yFail P 1
theorem yLook_ok {lo hi : Int32} (h : yW n P) : yW n (yLook P lo hi) ∧ (yLook P lo hi).T = P.T ∧ ySt P (yLook P lo hi) := by
  unfold yLook
  split
  · split
    · exact ⟨(yFail_ok h (by omega)).1, (yFail_ok h (by omega)).2, ySt_fail⟩
    · exact ⟨h, rfl, ySt_rfl⟩
  · exact ⟨(yFail_ok h (by omega)).1, (yFail_ok h (by omega)).2, ySt_fail⟩
/-- looked at, then on: the number read -/
theorem yLook_num {B : Nat → Int32} {lo hi : Int32} (he : P.er = 0) : yOn B n (yLook P lo hi) = (yNum B n P lo hi).2 ∧ ((yLook P lo hi).er = 0 → P.kd = 2 ∧ yLook P lo hi = P ∧ (yNum B n P lo hi).1 = P.va) := by
  unfold yOn yLook yNum
  by_cases h1 : P.kd = 2
  · rw [if_pos h1, if_pos h1]
    by_cases h2 : P.va < lo ∨ hi < P.va
    · rw [if_pos h2, if_pos h2]
      have g := yFail_ne (P := P) (q := zi P.st) (show 2 ≠ 0 by omega)
      have g' : ¬ (yFail P 2).er = 0 := g
      rw [if_neg g']
      exact ⟨rfl, fun q => absurd q g'⟩
    · rw [if_neg h2, if_neg h2, if_pos he]
      exact ⟨rfl, fun _ => ⟨h1, rfl, rfl⟩⟩
  · rw [if_neg h1, if_neg h1]
    have g := yFail_ne (P := P) (q := zi P.st) (show 1 ≠ 0 by omega)
    have g' : ¬ (yFail P 1).er = 0 := g
    rw [if_neg g']
    exact ⟨rfl, fun q => absurd q g'⟩
theorem m175any {a b c : Int32} : ∃ w : Bool, zev X 175 0 [.int a, .int b, .int c] [] (zHP D O, k) = some (.inl (some (.int (zb w))), (zHP D O, k)) := by
  by_cases h : a < b ∨ c < a
  · exact ⟨false, m175w h⟩
  · exact ⟨true, m175p (fun q => h (Or.inl q)) fun q => h (Or.inr q)⟩
theorem m187 {lo hi : Int32} (h : zPx n P D) (hW : yW n P) : ∃ D' v, zev X 187 0 [.ref 168, .int lo, .int hi] [] (zHP D O, k) = some (.inl (some (.int v)), (zHP D' O, k)) ∧ zPx n (yLook P lo hi) D' ∧ zFrE D D' ∧ ((yLook P lo hi).er = 0 → v = P.va) ∧ ((yLook P lo hi).er ≠ 0 → v = lo) := by
  have e := zPx_25 h hW
  have L := yLook_ok (lo := lo) (hi := hi) hW
  have tail : ∀ D', zPx n (yLook P lo hi) D' → zFrE D D' → ((yLook P lo hi).er = 0 → D' 168 24 = P.va) → ∃ v, zev X 187 33 [.ref 168, .int lo, .int hi] [] (zHP D' O, k) = some (.inl (some (.int v)), (zHP D' O, k)) ∧ ((yLook P lo hi).er = 0 → v = P.va) ∧ ((yLook P lo hi).er ≠ 0 → v = lo) := by
    intro D' h' _ hv
    have e2 := zPx_25 h' L.1
    by_cases q : (yLook P lo hi).er = 0
    · have q' : D' 168 25 = 0 := by rw [e2]; exact q
      refine ⟨D' 168 24, ?_, fun _ => hv q, fun w => absurd q w⟩
      refine b187_33.trans ?_
      rw [if_pos q']
    · have q' : ¬ D' 168 25 = 0 := by rw [e2]; exact q
      refine ⟨lo, ?_, fun w => absurd w q, fun _ => rfl⟩
      refine b187_33.trans ?_
      rw [if_neg q']
  by_cases he : P.er = 0
  · obtain ⟨hm, hw⟩ := h.2.2.2 he
    have k1 := hW.2.1
    unfold yLook at tail ⊢
    by_cases h1 : P.kd = 2
    · have h1' : D 168 23 = 2 := by rw [hm.2.2.2.1, h1]; rfl
      rw [if_pos h1] at tail ⊢
      have hv := hm.2.2.2.2 h1
      by_cases h2 : P.va < lo ∨ hi < P.va
      · rw [if_pos h2] at tail ⊢
        obtain ⟨D', a, b, c⟩ := m184 (X := X) (O := O) (k := k) (c := 2) h hW (by omega)
        have g' : ¬ (yFail P 2).er = 0 := yFail_ne (by omega)
        obtain ⟨v, t1, t2, t3⟩ := tail D' b c fun q => absurd q g'
        refine ⟨D', v, ?_, b, c, t2, t3⟩
        refine b187_0.trans ?_
        rw [if_pos h1', hv, m175w h2, zcon_inl]
        refine b187_25.trans ?_
        rw [if_pos (show zi 0 = 0 from rfl), zl_2, a, zcon_inl]
        exact t1
      · rw [if_neg h2] at tail ⊢
        obtain ⟨v, t1, t2, t3⟩ := tail D h zFrE_rfl fun _ => hv
        refine ⟨D, v, ?_, h, zFrE_rfl, t2, t3⟩
        refine b187_0.trans ?_
        rw [if_pos h1', hv, m175p (fun q => h2 (Or.inl q)) (fun q => h2 (Or.inr q)), zcon_inl]
        refine b187_25.trans ?_
        rw [if_neg (by decide)]
        exact t1
    · have h1' : ¬ D 168 23 = 2 := by rw [hm.2.2.2.1, zl_2, zi_inj (by omega) (by omega)]; exact h1
      rw [if_neg h1] at tail ⊢
      obtain ⟨D', a, b, c⟩ := m184 (X := X) (O := O) (k := k) (c := 1) h hW (by omega)
      have g' : ¬ (yFail P 1).er = 0 := yFail_ne (by omega)
      obtain ⟨v, t1, t2, t3⟩ := tail D' b c fun q => absurd q g'
      refine ⟨D', v, ?_, b, c, t2, t3⟩
      refine b187_0.trans ?_
      rw [if_neg h1', zl_1, a, zcon_inl]
      refine b187_13.trans ?_
      exact t1
  · have hL := zPx_err h he L.2.2
    have hne : (yLook P lo hi).er ≠ 0 := by rw [(L.2.2 he).1]; exact he
    obtain ⟨v, t1, t2, t3⟩ := tail D hL zFrE_rfl fun q => absurd q hne
    refine ⟨D, v, ?_, hL, zFrE_rfl, t2, t3⟩
    have e' : ¬ D 168 25 = 0 := by rw [e]; exact he
    have f184 : ∀ c : Int32, zev X 184 0 [.ref 168, .int c] [] (zHP D O, k) = some (.inl none, (zHP D O, k)) := fun c => b184_0.trans (by rw [if_neg e'])
    refine b187_0.trans ?_
    by_cases h1 : D 168 23 = 2
    · rw [if_pos h1]
      obtain ⟨w, hw⟩ := m175any (X := X) (D := D) (O := O) (k := k) (a := D 168 24) (b := lo) (c := hi)
      rw [hw, zcon_inl]
      refine b187_25.trans ?_
      cases w
      · rw [zl_0, if_pos zb_f, f184, zcon_inl]
        exact t1
      · rw [zl_0, if_neg (by rw [zb_0]; exact Bool.noConfusion)]
        exact t1
    · rw [if_neg h1, f184, zcon_inl]
      refine b187_13.trans ?_
      exact t1
theorem m186 {lo hi : Int32} (h : zPx n P D) (hW : yW n P) (hn : n ≤ 600) (hB : ∀ i, i < n → D 176 i ≠ zn) : ∃ D' v, zev X 186 0 [.ref 168, .int lo, .int hi, zJ] [] (zHP D O, k) = some (.inl (some (.int v)), (zHP D' O, k)) ∧ zPx n (yNum (D 176) n P lo hi).2 D' ∧ zFrE D D' ∧ ((yNum (D 176) n P lo hi).2.er = 0 → v = (yNum (D 176) n P lo hi).1) := by
  obtain ⟨D1, v, e1, e2, e3, e4, _⟩ := m187 (X := X) (O := O) (k := k) (lo := lo) (hi := hi) h hW
  have L := yLook_ok (lo := lo) (hi := hi) hW
  have b1 : D1 176 = D 176 := e3.1 176 (by omega)
  obtain ⟨D2, f1, f2, f3⟩ := m185 (X := X) (O := O) (k := k) e2 L.1 hn (by rw [b1]; exact hB)
  rw [b1] at f2
  refine ⟨D2, v, ?_, ?_, zFrE_tr e3 f3, ?_⟩
  · refine b186_0.trans ?_
    rw [e1, zcon_inl]
    refine b186_6.trans ?_
    rw [f1, zcon_inl]
    exact b186_11
  · by_cases he : P.er = 0
    · rw [(yLook_num he).1] at f2
      exact f2
    · have hne : (yLook P lo hi).er ≠ 0 := by rw [(L.2.2 he).1]; exact he
      unfold yOn at f2
      rw [if_neg hne] at f2
      refine zPx_err f2 hne fun _ => ?_
      obtain ⟨a, b⟩ := L.2.2 he
      obtain ⟨c, d⟩ := ySt_num (B := D 176) (lo := lo) (hi := hi) hW he
      exact ⟨c.trans a.symm, d.trans b.symm⟩
  · intro q
    have he : P.er = 0 := ySt_0 (ySt_num hW) q
    have N := yLook_num (n := n) (P := P) (B := D 176) (lo := lo) (hi := hi) he
    have hl : (yLook P lo hi).er = 0 := by
      rw [← N.1] at q
      unfold yOn at q
      by_cases z : (yLook P lo hi).er = 0
      · exact z
      · rw [if_neg z] at q
        exact q
    rw [e4 hl, (N.2 hl).2.2]
theorem m182_0 (h : zPx n P D) (hW : yW n P) (hn : n ≤ 600) : zev X 182 0 [.ref 168, .retAddr 5, zJ] [] (zHP D O, k) = some (.inl (some (.int (zb (decide (P.er = 0) && yIs P [102, 114, 97, 109, 101, 115])))), (zHP D O, k)) := by
  have e := zPx_25 h hW
  refine b182_0_0.trans ?_
  by_cases he : P.er = 0
  · have e' : D 168 25 = 0 := by rw [e]; exact he
    obtain ⟨hm, hw⟩ := h.2.2.2 he
    have k1 := hW.2.1
    have hx := hW.1
    rw [if_pos e', decide_eq_true he, Bool.true_and]
    have iff := yIs_iff (l := [102, 114, 97, 109, 101, 115]) hw (by decide) (by decide)
    have no : (¬ (P.kd = 1 ∧ P.nx - P.st = 6 ∧ ∀ i, i < 6 → D 176 (P.st + i) = ([102, 114, 97, 109, 101, 115] : List Int32).getD i 0)) → yIs P [102, 114, 97, 109, 101, 115] = false := fun q => by
      cases hi : yIs P [102, 114, 97, 109, 101, 115]
      · rfl
      · exact absurd (iff.mp hi) q
    by_cases h1 : P.kd = 1
    · have h1' : D 168 23 = 1 := by rw [hm.2.2.2.1, h1]; rfl
      obtain ⟨w1, w2, w3, w4⟩ := hw h1
      rw [if_pos h1']
      by_cases h2 : P.nx - P.st = 6
      · have h2' : D 168 21 - D 168 22 = 6 := by rw [hm.2.1, hm.2.2.1, zi_sub (by omega) (by omega), h2]; rfl
        rw [if_pos h2']
        have loop : ∀ d i, i + d = 6 → (∀ j, j < i → D 176 (P.st + j) = ([102, 114, 97, 109, 101, 115] : List Int32).getD j 0) → zev X 182 35 [.ref 168, .retAddr 5, .int (zi i)] [] (zHP D O, k) = some (.inl (some (.int (zb (yIs P [102, 114, 97, 109, 101, 115])))), (zHP D O, k)) := by
          intro d
          induction d with
          | zero =>
            intro i hi hj
            have ei : i = 6 := by omega
            subst ei
            refine b182_35_0.trans ?_
            have y := iff.mpr ⟨h1, h2, hj⟩
            rw [if_neg (by rw [zl_6, zi_lt (by omega) (by omega)]; omega), y]
            rfl
          | succ d ih =>
            intro i hi hj
            refine b182_35_0.trans ?_
            have es : ySeen (D 176) n (P.st + i) = D 176 (P.st + i) := if_pos (by omega)
            rw [if_pos (by rw [zl_6, zi_lt (by omega) (by omega)]; omega), hm.2.2.1, zi_add, m179 h.2.2.1 hn (by omega), zcon_inl, es]
            refine b182_53_0.trans ?_
            have e3 : ([102, 114, 97, 109, 101, 115] : List Int32)[(zi i).toNatClampNeg]? = some (([102, 114, 97, 109, 101, 115] : List Int32).getD i 0) := by
              rw [zi_toNat (by omega)]
              rcases (show i = 0 ∨ i = 1 ∨ i = 2 ∨ i = 3 ∨ i = 4 ∨ i = 5 by omega) with rfl | rfl | rfl | rfl | rfl | rfl <;> rfl
            rw [if_neg (by rw [zl_0, zi_lt (by omega) (by omega)]; omega), e3, zbind_some]
            refine b182_58_0.trans ?_
            by_cases q : D 176 (P.st + i) = ([102, 114, 97, 109, 101, 115] : List Int32).getD i 0
            · rw [if_pos q, zl_1, zi_add]
              refine ih (i + 1) (by omega) fun j hj2 => ?_
              by_cases ej : j = i
              · rw [ej]; exact q
              · exact hj j (by omega)
            · rw [if_neg q, no fun z => q (z.2.2 i (by omega))]
              rfl
        exact loop 6 0 (by omega) fun j hj => absurd hj (Nat.not_lt_zero j)
      · have h2' : ¬ D 168 21 - D 168 22 = 6 := by rw [hm.2.1, hm.2.2.1, zi_sub (by omega) (by omega), zl_6, zi_inj (by omega) (by omega)]; exact h2
        rw [if_neg h2', no fun z => h2 z.2.1]
        rfl
    · have h1' : ¬ D 168 23 = 1 := by rw [hm.2.2.2.1, zl_1, zi_inj (by omega) (by omega)]; exact h1
      rw [if_neg h1', no fun z => h1 z.1]
      rfl
  · have e' : ¬ D 168 25 = 0 := by rw [e]; exact he
    rw [if_neg e', decide_eq_false he]
    rfl
theorem m182_1 (h : zPx n P D) (hW : yW n P) (hn : n ≤ 600) : zev X 182 0 [.ref 168, .retAddr 6, zJ] [] (zHP D O, k) = some (.inl (some (.int (zb (decide (P.er = 0) && yIs P [114, 117, 110])))), (zHP D O, k)) := by
  have e := zPx_25 h hW
  refine b182_0_1.trans ?_
  by_cases he : P.er = 0
  · have e' : D 168 25 = 0 := by rw [e]; exact he
    obtain ⟨hm, hw⟩ := h.2.2.2 he
    have k1 := hW.2.1
    have hx := hW.1
    rw [if_pos e', decide_eq_true he, Bool.true_and]
    have iff := yIs_iff (l := [114, 117, 110]) hw (by decide) (by decide)
    have no : (¬ (P.kd = 1 ∧ P.nx - P.st = 3 ∧ ∀ i, i < 3 → D 176 (P.st + i) = ([114, 117, 110] : List Int32).getD i 0)) → yIs P [114, 117, 110] = false := fun q => by
      cases hi : yIs P [114, 117, 110]
      · rfl
      · exact absurd (iff.mp hi) q
    by_cases h1 : P.kd = 1
    · have h1' : D 168 23 = 1 := by rw [hm.2.2.2.1, h1]; rfl
      obtain ⟨w1, w2, w3, w4⟩ := hw h1
      rw [if_pos h1']
      by_cases h2 : P.nx - P.st = 3
      · have h2' : D 168 21 - D 168 22 = 3 := by rw [hm.2.1, hm.2.2.1, zi_sub (by omega) (by omega), h2]; rfl
        rw [if_pos h2']
        have loop : ∀ d i, i + d = 3 → (∀ j, j < i → D 176 (P.st + j) = ([114, 117, 110] : List Int32).getD j 0) → zev X 182 35 [.ref 168, .retAddr 6, .int (zi i)] [] (zHP D O, k) = some (.inl (some (.int (zb (yIs P [114, 117, 110])))), (zHP D O, k)) := by
          intro d
          induction d with
          | zero =>
            intro i hi hj
            have ei : i = 3 := by omega
            subst ei
            refine b182_35_1.trans ?_
            have y := iff.mpr ⟨h1, h2, hj⟩
            rw [if_neg (by rw [zl_3, zi_lt (by omega) (by omega)]; omega), y]
            rfl
          | succ d ih =>
            intro i hi hj
            refine b182_35_1.trans ?_
            have es : ySeen (D 176) n (P.st + i) = D 176 (P.st + i) := if_pos (by omega)
            rw [if_pos (by rw [zl_3, zi_lt (by omega) (by omega)]; omega), hm.2.2.1, zi_add, m179 h.2.2.1 hn (by omega), zcon_inl, es]
            refine b182_53_1.trans ?_
            have e3 : ([114, 117, 110] : List Int32)[(zi i).toNatClampNeg]? = some (([114, 117, 110] : List Int32).getD i 0) := by
              rw [zi_toNat (by omega)]
              rcases (show i = 0 ∨ i = 1 ∨ i = 2 by omega) with rfl | rfl | rfl <;> rfl
            rw [if_neg (by rw [zl_0, zi_lt (by omega) (by omega)]; omega), e3, zbind_some]
            refine b182_58_1.trans ?_
            by_cases q : D 176 (P.st + i) = ([114, 117, 110] : List Int32).getD i 0
            · rw [if_pos q, zl_1, zi_add]
              refine ih (i + 1) (by omega) fun j hj2 => ?_
              by_cases ej : j = i
              · rw [ej]; exact q
              · exact hj j (by omega)
            · rw [if_neg q, no fun z => q (z.2.2 i (by omega))]
              rfl
        exact loop 3 0 (by omega) fun j hj => absurd hj (Nat.not_lt_zero j)
      · have h2' : ¬ D 168 21 - D 168 22 = 3 := by rw [hm.2.1, hm.2.2.1, zi_sub (by omega) (by omega), zl_3, zi_inj (by omega) (by omega)]; exact h2
        rw [if_neg h2', no fun z => h2 z.2.1]
        rfl
    · have h1' : ¬ D 168 23 = 1 := by rw [hm.2.2.2.1, zl_1, zi_inj (by omega) (by omega)]; exact h1
      rw [if_neg h1', no fun z => h1 z.1]
      rfl
  · have e' : ¬ D 168 25 = 0 := by rw [e]; exact he
    rw [if_neg e', decide_eq_false he]
    rfl
theorem m182_2 (h : zPx n P D) (hW : yW n P) (hn : n ≤ 600) : zev X 182 0 [.ref 168, .retAddr 7, zJ] [] (zHP D O, k) = some (.inl (some (.int (zb (decide (P.er = 0) && yIs P [105, 110])))), (zHP D O, k)) := by
  have e := zPx_25 h hW
  refine b182_0_2.trans ?_
  by_cases he : P.er = 0
  · have e' : D 168 25 = 0 := by rw [e]; exact he
    obtain ⟨hm, hw⟩ := h.2.2.2 he
    have k1 := hW.2.1
    have hx := hW.1
    rw [if_pos e', decide_eq_true he, Bool.true_and]
    have iff := yIs_iff (l := [105, 110]) hw (by decide) (by decide)
    have no : (¬ (P.kd = 1 ∧ P.nx - P.st = 2 ∧ ∀ i, i < 2 → D 176 (P.st + i) = ([105, 110] : List Int32).getD i 0)) → yIs P [105, 110] = false := fun q => by
      cases hi : yIs P [105, 110]
      · rfl
      · exact absurd (iff.mp hi) q
    by_cases h1 : P.kd = 1
    · have h1' : D 168 23 = 1 := by rw [hm.2.2.2.1, h1]; rfl
      obtain ⟨w1, w2, w3, w4⟩ := hw h1
      rw [if_pos h1']
      by_cases h2 : P.nx - P.st = 2
      · have h2' : D 168 21 - D 168 22 = 2 := by rw [hm.2.1, hm.2.2.1, zi_sub (by omega) (by omega), h2]; rfl
        rw [if_pos h2']
        have loop : ∀ d i, i + d = 2 → (∀ j, j < i → D 176 (P.st + j) = ([105, 110] : List Int32).getD j 0) → zev X 182 35 [.ref 168, .retAddr 7, .int (zi i)] [] (zHP D O, k) = some (.inl (some (.int (zb (yIs P [105, 110])))), (zHP D O, k)) := by
          intro d
          induction d with
          | zero =>
            intro i hi hj
            have ei : i = 2 := by omega
            subst ei
            refine b182_35_2.trans ?_
            have y := iff.mpr ⟨h1, h2, hj⟩
            rw [if_neg (by rw [zl_2, zi_lt (by omega) (by omega)]; omega), y]
            rfl
          | succ d ih =>
            intro i hi hj
            refine b182_35_2.trans ?_
            have es : ySeen (D 176) n (P.st + i) = D 176 (P.st + i) := if_pos (by omega)
            rw [if_pos (by rw [zl_2, zi_lt (by omega) (by omega)]; omega), hm.2.2.1, zi_add, m179 h.2.2.1 hn (by omega), zcon_inl, es]
            refine b182_53_2.trans ?_
            have e3 : ([105, 110] : List Int32)[(zi i).toNatClampNeg]? = some (([105, 110] : List Int32).getD i 0) := by
              rw [zi_toNat (by omega)]
              rcases (show i = 0 ∨ i = 1 by omega) with rfl | rfl <;> rfl
            rw [if_neg (by rw [zl_0, zi_lt (by omega) (by omega)]; omega), e3, zbind_some]
            refine b182_58_2.trans ?_
            by_cases q : D 176 (P.st + i) = ([105, 110] : List Int32).getD i 0
            · rw [if_pos q, zl_1, zi_add]
              refine ih (i + 1) (by omega) fun j hj2 => ?_
              by_cases ej : j = i
              · rw [ej]; exact q
              · exact hj j (by omega)
            · rw [if_neg q, no fun z => q (z.2.2 i (by omega))]
              rfl
        exact loop 2 0 (by omega) fun j hj => absurd hj (Nat.not_lt_zero j)
      · have h2' : ¬ D 168 21 - D 168 22 = 2 := by rw [hm.2.1, hm.2.2.1, zi_sub (by omega) (by omega), zl_2, zi_inj (by omega) (by omega)]; exact h2
        rw [if_neg h2', no fun z => h2 z.2.1]
        rfl
    · have h1' : ¬ D 168 23 = 1 := by rw [hm.2.2.2.1, zl_1, zi_inj (by omega) (by omega)]; exact h1
      rw [if_neg h1', no fun z => h1 z.1]
      rfl
  · have e' : ¬ D 168 25 = 0 := by rw [e]; exact he
    rw [if_neg e', decide_eq_false he]
    rfl
theorem m182_3 (h : zPx n P D) (hW : yW n P) (hn : n ≤ 600) : zev X 182 0 [.ref 168, .retAddr 8, zJ] [] (zHP D O, k) = some (.inl (some (.int (zb (decide (P.er = 0) && yIs P [112, 105, 110])))), (zHP D O, k)) := by
  have e := zPx_25 h hW
  refine b182_0_3.trans ?_
  by_cases he : P.er = 0
  · have e' : D 168 25 = 0 := by rw [e]; exact he
    obtain ⟨hm, hw⟩ := h.2.2.2 he
    have k1 := hW.2.1
    have hx := hW.1
    rw [if_pos e', decide_eq_true he, Bool.true_and]
    have iff := yIs_iff (l := [112, 105, 110]) hw (by decide) (by decide)
    have no : (¬ (P.kd = 1 ∧ P.nx - P.st = 3 ∧ ∀ i, i < 3 → D 176 (P.st + i) = ([112, 105, 110] : List Int32).getD i 0)) → yIs P [112, 105, 110] = false := fun q => by
      cases hi : yIs P [112, 105, 110]
      · rfl
      · exact absurd (iff.mp hi) q
    by_cases h1 : P.kd = 1
    · have h1' : D 168 23 = 1 := by rw [hm.2.2.2.1, h1]; rfl
      obtain ⟨w1, w2, w3, w4⟩ := hw h1
      rw [if_pos h1']
      by_cases h2 : P.nx - P.st = 3
      · have h2' : D 168 21 - D 168 22 = 3 := by rw [hm.2.1, hm.2.2.1, zi_sub (by omega) (by omega), h2]; rfl
        rw [if_pos h2']
        have loop : ∀ d i, i + d = 3 → (∀ j, j < i → D 176 (P.st + j) = ([112, 105, 110] : List Int32).getD j 0) → zev X 182 35 [.ref 168, .retAddr 8, .int (zi i)] [] (zHP D O, k) = some (.inl (some (.int (zb (yIs P [112, 105, 110])))), (zHP D O, k)) := by
          intro d
          induction d with
          | zero =>
            intro i hi hj
            have ei : i = 3 := by omega
            subst ei
            refine b182_35_3.trans ?_
            have y := iff.mpr ⟨h1, h2, hj⟩
            rw [if_neg (by rw [zl_3, zi_lt (by omega) (by omega)]; omega), y]
            rfl
          | succ d ih =>
            intro i hi hj
            refine b182_35_3.trans ?_
            have es : ySeen (D 176) n (P.st + i) = D 176 (P.st + i) := if_pos (by omega)
            rw [if_pos (by rw [zl_3, zi_lt (by omega) (by omega)]; omega), hm.2.2.1, zi_add, m179 h.2.2.1 hn (by omega), zcon_inl, es]
            refine b182_53_3.trans ?_
            have e3 : ([112, 105, 110] : List Int32)[(zi i).toNatClampNeg]? = some (([112, 105, 110] : List Int32).getD i 0) := by
              rw [zi_toNat (by omega)]
              rcases (show i = 0 ∨ i = 1 ∨ i = 2 by omega) with rfl | rfl | rfl <;> rfl
            rw [if_neg (by rw [zl_0, zi_lt (by omega) (by omega)]; omega), e3, zbind_some]
            refine b182_58_3.trans ?_
            by_cases q : D 176 (P.st + i) = ([112, 105, 110] : List Int32).getD i 0
            · rw [if_pos q, zl_1, zi_add]
              refine ih (i + 1) (by omega) fun j hj2 => ?_
              by_cases ej : j = i
              · rw [ej]; exact q
              · exact hj j (by omega)
            · rw [if_neg q, no fun z => q (z.2.2 i (by omega))]
              rfl
        exact loop 3 0 (by omega) fun j hj => absurd hj (Nat.not_lt_zero j)
      · have h2' : ¬ D 168 21 - D 168 22 = 3 := by rw [hm.2.1, hm.2.2.1, zi_sub (by omega) (by omega), zl_3, zi_inj (by omega) (by omega)]; exact h2
        rw [if_neg h2', no fun z => h2 z.2.1]
        rfl
    · have h1' : ¬ D 168 23 = 1 := by rw [hm.2.2.2.1, zl_1, zi_inj (by omega) (by omega)]; exact h1
      rw [if_neg h1', no fun z => h1 z.1]
      rfl
  · have e' : ¬ D 168 25 = 0 := by rw [e]; exact he
    rw [if_neg e', decide_eq_false he]
    rfl
theorem m182_4 (h : zPx n P D) (hW : yW n P) (hn : n ≤ 600) : zev X 182 0 [.ref 168, .retAddr 9, zJ] [] (zHP D O, k) = some (.inl (some (.int (zb (decide (P.er = 0) && yIs P [98, 108, 117, 102, 102])))), (zHP D O, k)) := by
  have e := zPx_25 h hW
  refine b182_0_4.trans ?_
  by_cases he : P.er = 0
  · have e' : D 168 25 = 0 := by rw [e]; exact he
    obtain ⟨hm, hw⟩ := h.2.2.2 he
    have k1 := hW.2.1
    have hx := hW.1
    rw [if_pos e', decide_eq_true he, Bool.true_and]
    have iff := yIs_iff (l := [98, 108, 117, 102, 102]) hw (by decide) (by decide)
    have no : (¬ (P.kd = 1 ∧ P.nx - P.st = 5 ∧ ∀ i, i < 5 → D 176 (P.st + i) = ([98, 108, 117, 102, 102] : List Int32).getD i 0)) → yIs P [98, 108, 117, 102, 102] = false := fun q => by
      cases hi : yIs P [98, 108, 117, 102, 102]
      · rfl
      · exact absurd (iff.mp hi) q
    by_cases h1 : P.kd = 1
    · have h1' : D 168 23 = 1 := by rw [hm.2.2.2.1, h1]; rfl
      obtain ⟨w1, w2, w3, w4⟩ := hw h1
      rw [if_pos h1']
      by_cases h2 : P.nx - P.st = 5
      · have h2' : D 168 21 - D 168 22 = 5 := by rw [hm.2.1, hm.2.2.1, zi_sub (by omega) (by omega), h2]; rfl
        rw [if_pos h2']
        have loop : ∀ d i, i + d = 5 → (∀ j, j < i → D 176 (P.st + j) = ([98, 108, 117, 102, 102] : List Int32).getD j 0) → zev X 182 35 [.ref 168, .retAddr 9, .int (zi i)] [] (zHP D O, k) = some (.inl (some (.int (zb (yIs P [98, 108, 117, 102, 102])))), (zHP D O, k)) := by
          intro d
          induction d with
          | zero =>
            intro i hi hj
            have ei : i = 5 := by omega
            subst ei
            refine b182_35_4.trans ?_
            have y := iff.mpr ⟨h1, h2, hj⟩
            rw [if_neg (by rw [zl_5, zi_lt (by omega) (by omega)]; omega), y]
            rfl
          | succ d ih =>
            intro i hi hj
            refine b182_35_4.trans ?_
            have es : ySeen (D 176) n (P.st + i) = D 176 (P.st + i) := if_pos (by omega)
            rw [if_pos (by rw [zl_5, zi_lt (by omega) (by omega)]; omega), hm.2.2.1, zi_add, m179 h.2.2.1 hn (by omega), zcon_inl, es]
            refine b182_53_4.trans ?_
            have e3 : ([98, 108, 117, 102, 102] : List Int32)[(zi i).toNatClampNeg]? = some (([98, 108, 117, 102, 102] : List Int32).getD i 0) := by
              rw [zi_toNat (by omega)]
              rcases (show i = 0 ∨ i = 1 ∨ i = 2 ∨ i = 3 ∨ i = 4 by omega) with rfl | rfl | rfl | rfl | rfl <;> rfl
            rw [if_neg (by rw [zl_0, zi_lt (by omega) (by omega)]; omega), e3, zbind_some]
            refine b182_58_4.trans ?_
            by_cases q : D 176 (P.st + i) = ([98, 108, 117, 102, 102] : List Int32).getD i 0
            · rw [if_pos q, zl_1, zi_add]
              refine ih (i + 1) (by omega) fun j hj2 => ?_
              by_cases ej : j = i
              · rw [ej]; exact q
              · exact hj j (by omega)
            · rw [if_neg q, no fun z => q (z.2.2 i (by omega))]
              rfl
        exact loop 5 0 (by omega) fun j hj => absurd hj (Nat.not_lt_zero j)
      · have h2' : ¬ D 168 21 - D 168 22 = 5 := by rw [hm.2.1, hm.2.2.1, zi_sub (by omega) (by omega), zl_5, zi_inj (by omega) (by omega)]; exact h2
        rw [if_neg h2', no fun z => h2 z.2.1]
        rfl
    · have h1' : ¬ D 168 23 = 1 := by rw [hm.2.2.2.1, zl_1, zi_inj (by omega) (by omega)]; exact h1
      rw [if_neg h1', no fun z => h1 z.1]
      rfl
  · have e' : ¬ D 168 25 = 0 := by rw [e]; exact he
    rw [if_neg e', decide_eq_false he]
    rfl
end
