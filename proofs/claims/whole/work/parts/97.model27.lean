/-! The model's parser: the pages of an in line, a pin line. -/
def yCnt (T : ZD2) (p : Nat) : Nat := zct (fun g => sIn T (12 * p + g)) 12 0 0
theorem yCnt_le (T : ZD2) (p : Nat) : yCnt T p ≤ 12 := by
  have := zct_le (fun g => sIn T (12 * p + g)) 12 0 0
  unfold yCnt
  omega
theorem yCnt_in {T : ZD2} {p g f : Nat} (hg : g < 12) (hf : f < 64) (hi : sIn T (12 * p + g) = false) : yCnt (uEnter T (12 * p + g) f) p = yCnt T p + 1 := by
  unfold yCnt
  refine zct_one (r := g) ?_ hi (fun j hj => ?_) 12 0 0 (Nat.zero_le _) (by omega)
  · unfold sIn
    rw [uEnter_at, decide_eq_false (by rw [zi_ne_zn (by omega)]; exact False.elim)]
    rfl
  · have e : uEnter T (12 * p + g) f 3 (5 * (12 * p + j)) = T 3 (5 * (12 * p + j)) := by
      unfold uEnter
      rw [zw_row (by omega), zw_ne (by omega)]
    unfold sIn
    rw [e]
section
variable {X : ZX} {D : ZD2} {O : ZO2} {k : Nat × Nat × Nat} {n : Nat} {P : ZPs} {B : Nat → Int32}
/-- a line takes a program's pages at most once each: the class's bound is never met -/
theorem yInL_end {p : Nat} (hp : p < 6) : ∀ f (P : ZPs), yW n P → yLn P → (P.er = 0 → 13 ≤ f + yCnt P.T p) → ¬ ((yInL B n (zi p) f P).kd = 2 ∧ (yInL B n (zi p) f P).er = 0)
  | 0, P, hW, hl, h => by
    rw [yInL]
    rintro ⟨-, b⟩
    have := h b
    have := yCnt_le P.T p
    omega
  | f + 1, P, hW, hl, h => by
    rw [yInL]
    by_cases c : P.kd = 2 ∧ P.er = 0
    · rw [if_pos c]
      have g := yIn_ok (B := B) (pr := zi p) hW
      refine yInL_end hp f _ g.1 (yLn_eq hl g.2.1 g.2.2.1 g.2.2.2) fun he => ?_
      obtain ⟨p', q, m, fr, e1, h6, _, h12, hq, _, _, _, hi, _, h64, e⟩ := yIn_0 hW hl (Or.inr ⟨p, rfl, hp⟩) he
      have ep : p' = p := by
        rw [zi_inj (by omega) (by omega)] at e1
        exact e1.symm
      subst ep
      rw [e, T_wT, yCnt_in (by omega) h64 hi]
      have := h c.2
      omega
    · rw [if_neg c]
      exact c
theorem yIn_np {pr : Int32} (hW : yW n P) : sNp (yIn B n P pr).T = sNp P.T := by
  unfold sNp
  rw [(yIn_ok hW).2.2.1]
theorem m192l {p : Nat} (hp : p < 6) (hn : n ≤ 600) : ∀ f (P : ZPs) (D : ZD2), zPx n P D → yW n P → yLn P → p < sNp P.T → (∀ i, i < n → D 176 i ≠ zn) → (P.er = 0 → zRx D P.T ∧ zGd P.T) → ¬ ((yInL (D 176) n (zi p) f P).kd = 2 ∧ (yInL (D 176) n (zi p) f P).er = 0) → ∃ D', zev X 192 22 [.ref 168, .int (zi p)] [] (zHP D O, k) = some (.inl none, (zHP D' O, k)) ∧ zPx n (yInL (D 176) n (zi p) f P) D' ∧ zFrP D D' ∧ ((yInL (D 176) n (zi p) f P).er = 0 → zRx D' (yInL (D 176) n (zi p) f P).T ∧ zGd (yInL (D 176) n (zi p) f P).T) := by
  have stop : ∀ (P : ZPs) (D : ZD2), zPx n P D → yW n P → ¬ (P.kd = 2 ∧ P.er = 0) → zev X 192 22 [.ref 168, .int (zi p)] [] (zHP D O, k) = some (.inl none, (zHP D O, k)) := by
    intro P D h hW c
    have e25 := zPx_25 h hW
    have k1 := hW.2.1
    refine b192_22.trans ?_
    by_cases he : P.er = 0
    · have q : D 168 25 = 0 := by rw [e25]; exact he
      have q2 : ¬ D 168 23 = 2 := by
        rw [(h.2.2.2 he).1.2.2.2.1, zl_2, zi_inj (by omega) (by omega)]
        exact fun z => c ⟨z, he⟩
      rw [if_pos q, if_neg q2]
    · have q : ¬ D 168 25 = 0 := by rw [e25]; exact he
      rw [if_neg q]
  intro f
  induction f with
  | zero =>
    intro P D h hW hl hnp hB hR c
    rw [yInL] at c ⊢
    exact ⟨D, stop P D h hW c, h, zFrP_E zFrE_rfl, hR⟩
  | succ f ih =>
    intro P D h hW hl hnp hB hR c
    rw [yInL] at c ⊢
    by_cases c2 : P.kd = 2 ∧ P.er = 0
    · rw [if_pos c2] at c ⊢
      obtain ⟨R, G⟩ := hR c2.2
      obtain ⟨D1, x1, x2, x3, x4⟩ := m194 (X := X) (O := O) (k := k) (p := p) h hW c2.2 hn hB R G hl hnp
      have g := yIn_ok (B := D 176) (pr := zi p) hW
      have b176 : D1 176 = D 176 := x3.1 176 (by omega) (by omega) (by omega) (by omega) (by omega)
      have := ih (yIn (D 176) n P (zi p)) D1 x2 g.1 (yLn_eq hl g.2.1 g.2.2.1 g.2.2.2) (by rw [yIn_np hW]; exact hnp) (by rw [b176]; exact hB) x4 (by rw [b176]; exact c)
      rw [b176] at this
      obtain ⟨D2, y1, y2, y3, y4⟩ := this
      refine ⟨D2, ?_, y2, zFrP_tr x3 y3, y4⟩
      have e25 := zPx_25 h hW
      have q : D 168 25 = 0 := by rw [e25]; exact c2.2
      have q2 : D 168 23 = 2 := by rw [(h.2.2.2 c2.2).1.2.2.2.1, c2.1]; rfl
      refine b192_22.trans ?_
      rw [if_pos q, if_pos q2, x1, zcon_inl]
      refine b192_42.trans ?_
      exact y1
    · rw [if_neg c2] at c ⊢
      exact ⟨D, stop P D h hW c2, h, zFrP_E zFrE_rfl, hR⟩
theorem yKnown_np (he : (yKnown B n P).2.er = 0) : ∃ p, (yKnown B n P).1 = zi p ∧ p < sNp P.T := by
  unfold yKnown at he ⊢
  by_cases h1 : P.kd = 1
  · rw [if_pos h1] at he ⊢
    by_cases h2 : yNamed P = zn
    · rw [if_pos h2] at he
      exact absurd he (yFail_ne (by omega))
    · rw [if_neg h2]
      show ∃ p, yNamed P = zi p ∧ p < sNp P.T
      unfold yNamed at h2 ⊢
      rw [zff_o] at h2 ⊢
      cases hz : zfn (fun p => decide (P.T 2 (12 * p + 11) = P.va)) (sNp P.T) 0 with
      | none =>
        rw [hz] at h2
        exact absurd rfl h2
      | some j => exact ⟨j, rfl, by have := (zfn_some hz).2.1; omega⟩
  · rw [if_neg h1] at he
    exact absurd he (yFail_ne (by omega))
theorem yInL_st {pr : Int32} : ∀ f (P : ZPs), yW n P → ySt P (yInL B n pr f P)
  | 0, P, h => ySt_rfl
  | f + 1, P, h => by
    rw [yInL]
    split
    · exact ySt_tr (yIn_st h) (yInL_st f _ (yIn_ok h).1)
    · exact ySt_rfl
theorem m192 (h : zPx n P D) (hW : yW n P) (he : P.er = 0) (hn : n ≤ 600) (hB : ∀ i, i < n → D 176 i ≠ zn) (R : zRx D P.T) (G : zGd P.T) (hl : yLn P) : ∃ D', zev X 192 0 [.ref 168, zJ] [] (zHP D O, k) = some (.inl none, (zHP D' O, k)) ∧ zPx n (yInl (D 176) n P) D' ∧ zFrP D D' ∧ ((yInl (D 176) n P).er = 0 → zRx D' (yInl (D 176) n P).T ∧ zGd (yInl (D 176) n P).T) := by
  obtain ⟨D1, a1, a2, a3⟩ := m185 (X := X) (O := O) (k := k) h hW hn hB
  have eO : yOn (D 176) n P = yScan (D 176) n P := by unfold yOn; rw [if_pos he]
  rw [eO] at a2
  have s1 := yScan_ok (B := D 176) hW
  have l1 := yLn_T hl s1.2.1
  have b1 : D1 176 = D 176 := a3.1 176 (by omega)
  have R1 : zRx D1 (yScan (D 176) n P).T := by rw [s1.2.1]; exact zRx_E R a3
  have G1 : zGd (yScan (D 176) n P).T := by rw [s1.2.1]; exact G
  have start : zev X 192 0 [.ref 168, zJ] [] (zHP D O, k) = zev X 192 4 [.ref 168, zJ] [] (zHP D1 O, k) := by
    refine b192_0.trans ?_
    rw [a1, zcon_inl]
    rfl
  rw [start]
  unfold yInl
  generalize yScan (D 176) n P = S at a2 s1 l1 R1 G1
  have w1 := s1.1
  obtain ⟨D2, v, c1, c2, c3, c4⟩ := m193 (X := X) (O := O) (k := k) a2 w1 hn (by rw [b1]; exact hB) fun _ => ⟨R1.1.2.2.2.2.2, l1.2.1, R1.2.2.2.1⟩
  rw [b1] at c2 c4
  have s2 := yKnown_ok (B := D 176) w1
  have l2 := yLn_T l1 s2.2
  have R2 : zRx D2 (yKnown (D 176) n S).2.T := by rw [s2.2]; exact zRx_E R1 c3
  have G2 : zGd (yKnown (D 176) n S).2.T := by rw [s2.2]; exact G1
  have hq := yKnown_1 (B := D 176) (n := n) l1
  have hnp := yKnown_np (B := D 176) (n := n) (P := S)
  have enp : sNp (yKnown (D 176) n S).2.T = sNp S.T := by rw [s2.2]
  rw [← enp] at hnp
  have w2 := s2.1
  have b2 : D2 176 = D 176 := (c3.1 176 (by omega)).trans b1
  have start2 : zev X 192 4 [.ref 168, zJ] [] (zHP D1 O, k) = zev X 192 8 [.ref 168, zJ] [.int v] (zHP D2 O, k) := by
    refine b192_4.trans ?_
    rw [c1, zcon_inl]
    rfl
  rw [start2]
  generalize yKnown (D 176) n S = K at c2 c4 l2 R2 G2 hq hnp w2
  have e25 := zPx_25 c2 w2
  refine ?_
  by_cases hK : K.2.er = 0
  · have q : D2 168 25 = 0 := by rw [e25]; exact hK
    obtain ⟨p, ep, hp⟩ := hnp hK
    have hv : v = zi p := (c4 hK).trans ep
    subst hv
    rw [ep]
    have n6 := l2.2.1
    obtain ⟨D3, d1, d2, d3, d4⟩ := m194 (X := X) (O := O) (k := k) (p := p) c2 w2 hK hn (by rw [b2]; exact hB) R2 G2 l2 hp
    rw [b2] at d2 d4
    have g := yIn_ok (B := D 176) (pr := zi p) w2
    have l3 := yLn_eq l2 g.2.1 g.2.2.1 g.2.2.2
    have b3 : D3 176 = D 176 := (d3.1 176 (by omega) (by omega) (by omega) (by omega) (by omega)).trans b2
    have hc : ¬ ((yInL (D 176) n (zi p) 12 (yIn (D 176) n K.2 (zi p))).kd = 2 ∧ (yInL (D 176) n (zi p) 12 (yIn (D 176) n K.2 (zi p))).er = 0) := by
      refine yInL_end (by omega) 12 _ g.1 l3 fun z => ?_
      obtain ⟨p', q', m, fr, e1, h6, _, h12, hq', _, _, _, hi, _, h64, e⟩ := yIn_0 w2 l2 (Or.inr ⟨p, rfl, by omega⟩) z
      have epp : p' = p := by
        rw [zi_inj (by omega) (by omega)] at e1
        exact e1.symm
      subst epp
      rw [e, T_wT, yCnt_in (by omega) h64 hi]
      omega
    have := m192l (X := X) (O := O) (k := k) (p := p) (n := n) (by omega) hn 12 (yIn (D 176) n K.2 (zi p)) D3 d2 g.1 l3 (by rw [yIn_np w2]; exact hp) (by rw [b3]; exact hB) d4 (by rw [b3]; exact hc)
    rw [b3] at this
    obtain ⟨D4, f1, f2, f3, f4⟩ := this
    refine ⟨D4, ?_, f2, zFrP_tr (zFrP_E (zFrE_tr a3 c3)) (zFrP_tr d3 f3), f4⟩
    refine b192_8.trans ?_
    rw [if_pos q, d1, zcon_inl]
    exact f1
  · have q : ¬ D2 168 25 = 0 := by rw [e25]; exact hK
    have st : ySt K.2 (yInL (D 176) n K.1 12 (yIn (D 176) n K.2 K.1)) := ySt_tr (yIn_st w2) (yInL_st 12 _ (yIn_ok w2).1)
    obtain ⟨z1, z2⟩ := st hK
    refine ⟨D2, ?_, zPx_eq c2 hK z1 z2, zFrP_E (zFrE_tr a3 c3), fun z => absurd (z1.symm.trans z) hK⟩
    refine b192_8.trans ?_
    rw [if_neg q]
end
