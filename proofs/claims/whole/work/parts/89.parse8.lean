/-! The class's parse and what it leaves. -/
def yBe (a b : Nat) (v : Int32) : ZPs := (0, a, b, 0, v, zn, zTc)
section
variable {X : ZX} {D : ZD2} {O : ZO2} {k : Nat × Nat × Nat} {n : Nat} {P : ZPs} {B : Nat → Int32}
theorem zi_all (v : Int32) : ∃ a, v = zi a := ⟨v.toUInt32.toNat, by
  have : Int32.ofNat v.toUInt32.toNat = v := by
    apply Int32.toBitVec_inj.mp
    simp [Int32.toBitVec_ofNat]
  exact this.symm⟩
theorem yScan_beg {a b : Nat} {v : Int32} : yScan B n (yBe a b v) = yScan B n yBeg := by
  unfold yScan
  have e : ∀ Q R : ZPs, Q.nx = R.nx → Q.st = R.st → Q.er = R.er → Q.va = R.va → Q.ep = R.ep → Q.T = R.T → yTok B n Q = yTok B n R := by
    rintro ⟨a1, a2, a3, a4, a5, a6, a7⟩ ⟨b1, b2, b3, b4, b5, b6, b7⟩ h1 h2 h3 h4 h5 h6
    have g1 : a1 = b1 := h1
    have g2 : a2 = b2 := h2
    have g3 : a4 = b4 := h3
    have g4 : a5 = b5 := h4
    have g5 : a6 = b6 := h5
    have g6 : a7 = b7 := h6
    subst g1 g2 g3 g4 g5 g6
    rfl
  exact e _ _ rfl rfl rfl rfl rfl rfl
theorem zFin_Tc : zFin zTc := by
  intro t ht j hj
  have g : (t = 0 ∧ 5 ≤ j) ∨ (t = 1 ∧ 15 ≤ j) ∨ (t = 2 ∧ 72 ≤ j) ∨ (t = 3 ∧ 360 ≤ j) ∨ (t = 4 ∧ 192 ≤ j) ∨ (t = 5 ∧ 6 ≤ j) := by
    have c : t = 0 ∨ t = 1 ∨ t = 2 ∨ t = 3 ∨ t = 4 ∨ t = 5 := by omega
    rcases c with rfl | rfl | rfl | rfl | rfl | rfl
    · exact Or.inl ⟨rfl, hj⟩
    · exact Or.inr (Or.inl ⟨rfl, hj⟩)
    · exact Or.inr (Or.inr (Or.inl ⟨rfl, hj⟩))
    · exact Or.inr (Or.inr (Or.inr (Or.inl ⟨rfl, hj⟩)))
    · exact Or.inr (Or.inr (Or.inr (Or.inr (Or.inl ⟨rfl, hj⟩))))
    · exact Or.inr (Or.inr (Or.inr (Or.inr (Or.inr ⟨rfl, hj⟩))))
  unfold zTc
  rw [if_neg (by omega), if_neg (by omega), if_neg (by omega)]
  rfl
/-- the settings that passed are in their bounds -/
theorem zFin_put {c : Nat} {v : Int32} (h : zFin P.T) (hc : c < 5) : zFin (yPut P c v).T := by
  unfold yPut
  rw [T_wT]
  exact zFin_w h fun _ => hc
theorem zFin_npt {lo hi : Int32} {c : Nat} (hW : yW n P) (h : zFin P.T) (hc : c < 5) : zFin (yNpt B n P lo hi c).T := zFin_put (by rw [(yNum_ok hW).2]; exact h) hc
theorem yNpt_T {lo hi : Int32} {c : Nat} (hW : yW n P) : (yNpt B n P lo hi c).T = zw P.T 0 c (yNum B n P lo hi).1 := by
  unfold yNpt yPut
  rw [T_wT, (yNum_ok hW).2]
theorem zTc_1 : zTc 1 0 = zi 0 := rfl
/-- what the settings leave when nothing failed -/
theorem ySet_0 (hW : yW n P) (hT : P.T = zTc) (h : (ySet B n P).er = 0) : ∃ a b c w l, (ySet B n P).T = zw (zw (zw (zw (zw zTc 0 0 (zi a)) 0 1 (zi b)) 0 2 (zi c)) 0 3 (zi w)) 0 4 (zi l) ∧ 2 ≤ a ∧ a ≤ 64 ∧ b ≤ 200 ∧ c ≤ 20 ∧ w ≤ 200 ∧ l ≤ w := by
  have s1 := yLit_ok (B := B) (l := [102, 114, 97, 109, 101, 115]) hW
  unfold ySet yWar ySt3 at h ⊢
  generalize yLit B n P [102, 114, 97, 109, 101, 115] = P1 at s1 h ⊢
  have w1 := s1.1
  have t1 : P1.T = zTc := s1.2.trans hT
  have w2 := yNpt_ok (B := B) (lo := zi 2) (hi := zi 64) (c := 0) w1
  have t2 := yNpt_T (B := B) (lo := zi 2) (hi := zi 64) (c := 0) w1
  have v1 := yNum_v (B := B) (n := n) (P := P1) (lo := 2) (hi := 64) (by omega) (by omega)
  have e1 : (yNpt B n P1 (zi 2) (zi 64) 0).er = (yNum B n P1 (zi 2) (zi 64)).2.er := rfl
  generalize yNpt B n P1 (zi 2) (zi 64) 0 = P2 at w2 t2 e1 h ⊢
  have w3 := yNpt_ok (B := B) (lo := zi 0) (hi := zi 200) (c := 1) w2
  have t3 := yNpt_T (B := B) (lo := zi 0) (hi := zi 200) (c := 1) w2
  have v2 := yNum_v (B := B) (n := n) (P := P2) (lo := 0) (hi := 200) (by omega) (by omega)
  have e2 : (yNpt B n P2 (zi 0) (zi 200) 1).er = (yNum B n P2 (zi 0) (zi 200)).2.er := rfl
  have q2 := ySt_npt (B := B) (lo := zi 0) (hi := zi 200) (c := 1) w2
  generalize yNpt B n P2 (zi 0) (zi 200) 1 = P3 at w3 t3 e2 q2 h ⊢
  have w4 := yNpt_ok (B := B) (lo := zi 0) (hi := zi 20) (c := 2) w3
  have t4 := yNpt_T (B := B) (lo := zi 0) (hi := zi 20) (c := 2) w3
  have v3 := yNum_v (B := B) (n := n) (P := P3) (lo := 0) (hi := 20) (by omega) (by omega)
  have e3 : (yNpt B n P3 (zi 0) (zi 20) 2).er = (yNum B n P3 (zi 0) (zi 20)).2.er := rfl
  have q3 := ySt_npt (B := B) (lo := zi 0) (hi := zi 20) (c := 2) w3
  generalize yNpt B n P3 (zi 0) (zi 20) 2 = P4 at w4 t4 e3 q3 h ⊢
  have s5 := yNum_ok (B := B) (lo := zi 0) (hi := zi 200) w4
  have v4 := yNum_v (B := B) (n := n) (P := P4) (lo := 0) (hi := 200) (by omega) (by omega)
  have q4 := ySt_num (B := B) (lo := zi 0) (hi := zi 200) w4
  generalize yNum B n P4 (zi 0) (zi 200) = R at s5 v4 q4 h ⊢
  have w5 := yPut_ok (c := 3) (v := R.1) s5.1
  have t5 : (yPut R.2 3 R.1).T = zw P4.T 0 3 R.1 := by unfold yPut; rw [T_wT, s5.2]
  have e5 : (yPut R.2 3 R.1).er = R.2.er := rfl
  generalize yPut R.2 3 R.1 = P5 at w5 t5 e5 h ⊢
  have t6 := yNpt_T (B := B) (lo := zi 0) (hi := R.1) (c := 4) w5
  have e6 : (yNpt B n P5 (zi 0) R.1 4).er = (yNum B n P5 (zi 0) R.1).2.er := rfl
  have q6 := ySt_npt (B := B) (lo := zi 0) (hi := R.1) (c := 4) w5
  rw [t6]
  have z5 := ySt_0 q6 h
  have zR : R.2.er = 0 := e5.symm.trans z5
  have z4 := ySt_0 q4 zR
  have z3 := ySt_0 q3 z4
  have z2 := ySt_0 q2 z3
  obtain ⟨a, a1, _, a2, a3⟩ := v1 (e1.symm.trans z2)
  obtain ⟨b, b1, _, _, b3⟩ := v2 (e2.symm.trans z3)
  obtain ⟨c, c1, _, _, c3⟩ := v3 (e3.symm.trans z4)
  obtain ⟨w, d1, _, _, d3⟩ := v4 zR
  have h' : (yNum B n P5 (zi 0) (zi w)).2.er = 0 := by rw [← d1]; exact e6.symm.trans h
  obtain ⟨l, f1, _, _, f3⟩ := yNum_v (B := B) (n := n) (P := P5) (lo := 0) (hi := w) (by omega) (by omega) h'
  refine ⟨a, b, c, w, l, ?_, a2, a3, b3, c3, d3, f3⟩
  rw [d1, f1, t5, t4, t3, t2, t1, a1, b1, c1, d1]
theorem ySet_fin (hW : yW n P) (hT : zFin P.T) : zFin (ySet B n P).T := by
  unfold ySet yWar ySt3
  have s1 := yLit_ok (B := B) (l := [102, 114, 97, 109, 101, 115]) hW
  have w2 := yNpt_ok (B := B) (lo := zi 2) (hi := zi 64) (c := 0) s1.1
  have w3 := yNpt_ok (B := B) (lo := zi 0) (hi := zi 200) (c := 1) w2
  have w4 := yNpt_ok (B := B) (lo := zi 0) (hi := zi 20) (c := 2) w3
  have f1 : zFin (yLit B n P [102, 114, 97, 109, 101, 115]).T := by rw [s1.2]; exact hT
  have f2 := zFin_npt (B := B) (lo := zi 2) (hi := zi 64) (c := 0) s1.1 f1 (by omega)
  have f3 := zFin_npt (B := B) (lo := zi 0) (hi := zi 200) (c := 1) w2 f2 (by omega)
  have f4 := zFin_npt (B := B) (lo := zi 0) (hi := zi 20) (c := 2) w3 f3 (by omega)
  have s5 := yNum_ok (B := B) (lo := zi 0) (hi := zi 200) w4
  exact zFin_npt (yPut_ok s5.1) (zFin_put (by rw [s5.2]; exact f4) (by omega)) (by omega)
theorem ySet_j (hW : yW n P) (hT : P.T = zTc) : yJ n (ySet B n P) := by
  refine ⟨ySet_ok hW, ySet_fin hW (by rw [hT]; exact zFin_Tc), fun he => ?_⟩
  obtain ⟨a, b, c, w, l, e, a2, a3, _, _, _, _⟩ := ySet_0 hW hT he
  have e1 : (ySet B n P).T 1 = zTc 1 := by rw [e]; simp (disch := first | assumption | omega) only [zw_row]
  have e2 : (ySet B n P).T 2 = zTc 2 := by rw [e]; simp (disch := first | assumption | omega) only [zw_row]
  have e0 : (ySet B n P).T 0 0 = zi a := by rw [e]; simp (disch := first | assumption | omega) only [zw_ne, zw_self]
  have n0 : sNp (ySet B n P).T = 0 := by unfold sNp; rw [e1]; rfl
  have nf : sNf (ySet B n P).T = a := by unfold sNf; rw [e0, zi_toNat (by omega)]
  unfold yLn
  rw [n0, nf, e0, e1, e2]
  refine ⟨rfl, by omega, rfl, a3, fun p _ => ⟨0, ?_, by omega⟩⟩
  unfold zTc
  rw [if_neg (by omega), if_neg (by omega), if_neg (by omega)]
theorem yLs_j : ∀ f (P : ZPs), yJ n P → yJ n (yLs B n f P)
  | 0, P, h => h
  | f + 1, P, h => by
    rw [yLs]
    split
    · rename_i q
      exact yLs_j f _ (yLine_j h.1 (h.2.2 q.2) h.2.1)
    · exact h
theorem yBeg_W : yW n yBeg := ⟨Nat.zero_le _, Nat.zero_le _, Nat.zero_le _⟩
theorem ySet_jb : yJ n (ySet B n (yScan B n yBeg)) := ySet_j (yScan_ok yBeg_W).1 (yScan_ok yBeg_W).2.1
theorem yParse_j : yJ n (yParse B n) := yLs_j n _ ySet_jb
theorem c75 (hn : n ≤ 600) (hf : zFin (zT D 4)) : zev X 75 0 [.ref 1, .int (zi n), zJ] [] (zHP D O, k) = some (.inl (some (.int (zi (yParse (D 3) n).er))), (zHP (zps n (zw D 4 6 (zb (decide ((yParse (D 3) n).er = 0)))) (yParse (D 3) n)) O, k)) := by
  obtain ⟨a, ha⟩ := zi_all (D 1 5)
  obtain ⟨b, hb⟩ := zi_all (D 1 4)
  refine b75_0.trans ?_
  have e0 : zw (zw (zw (zw D 1 2 (zi n)) 1 3 0) 1 7 0) 1 8 (-1) = zmt (zw (zw (zw (zw D 1 2 (zi n)) 1 3 0) 1 7 0) 1 8 (-1)) 4 (zT D 4) := by
    conv => lhs; rw [← zmt_zT D 4]
    rw [zw_Mo (by omega), zw_Mo (by omega), zw_Mo (by omega), zw_Mo (by omega)]
  rw [e0, c17 hm4 hf, zcon_inl]
  have e1 : zmt (zw (zw (zw (zw (zw D 1 2 (zi n)) 1 3 0) 1 7 0) 1 8 (-1)) 4 6 (zi 0)) 4 zTc = zps n (zw D 4 6 (zi 0)) (yBe a b (D 1 6)) := by
    unfold zps
    have e2 : zw (zw (zw (zw (zw D 1 2 (zi n)) 1 3 0) 1 7 0) 1 8 (-1)) 4 6 (zi 0) = zrow (zw D 4 6 (zi 0)) 1 (yRow (zw D 4 6 (zi 0) 1) n (yBe a b (D 1 6))) := by
      funext c j
      unfold zrow zw yRow
      by_cases hc : c = 1
      · subst hc
        rw [if_neg (by omega), if_pos rfl]
        by_cases j8 : j = 8
        · subst j8; rfl
        · by_cases j7 : j = 7
          · subst j7; rfl
          · by_cases j3 : j = 3
            · subst j3; rfl
            · by_cases j2 : j = 2
              · subst j2; rfl
              · by_cases j5 : j = 5
                · subst j5; exact ha
                · by_cases j4 : j = 4
                  · subst j4; exact hb
                  · by_cases j6 : j = 6
                    · subst j6; rfl
                    · simp [j8, j7, j3, j2, j5, j4, j6]
      · simp [hc]
    rw [e2]
    rfl
  rw [e1]
  refine b75_27.trans ?_
  have d3 : zw D 4 6 (zi 0) 3 = D 3 := zw_row (by omega)
  rw [c76 hn (Nat.zero_le _), zcon_inl, yScan_beg, d3]
  refine b75_31.trans ?_
  rw [c77 hn (yScan_ok yBeg_W).1, zcon_inl, d3]
  refine b75_35.trans ?_
  have g := c75l (X := X) (D := zw D 4 6 (zi 0)) (O := O) (k := k) hn n 0 (ySet (D 3) n (yScan (D 3) n yBeg)) (by omega) ySet_jb
  rw [d3] at g
  have eP : yLs (D 3) n n (ySet (D 3) n (yScan (D 3) n yBeg)) = yParse (D 3) n := rfl
  rw [eP] at g
  have hj := yParse_j (B := D 3) (n := n)
  generalize yParse (D 3) n = P at g hj
  have he := hj.1.2.2
  have fin : ∀ j : Nat, zev X 75 66 [.ref 1, .int (zi n), .int (zi j)] [] (zHP (zps n (zw D 4 6 (zi 0)) P) O, k) = some (.inl (some (.int (zi P.er))), (zHP (zps n (zw D 4 6 (zb (decide (P.er = 0)))) P) O, k)) := by
    intro j
    refine b75_66.trans ?_
    have wz : ∀ v : Int32, zw (zps n (zw D 4 6 (zi 0)) P) 4 6 v = zps n (zw D 4 6 v) P := by
      intro v
      unfold zps
      rw [zw_Mo (by omega)]
      congr 1
      funext c j
      unfold zrow zw
      by_cases hc : c = 1
      · subst hc
        simp
      · by_cases h4 : c = 4 ∧ j = 6
        · simp [h4]
        · simp [hc, h4]
    have z17 : ∀ v : Int32, zps n (zw D 4 6 v) P 1 7 = zi P.er := fun v => zps17
    by_cases h : P.er = 0
    · have h' : zps n (zw D 4 6 (zi 0)) P 1 7 = 0 := by rw [zps17, h]; rfl
      rw [if_pos h', wz, z17, decide_eq_true h, zl_1, zb_t]
    · have h' : ¬ zps n (zw D 4 6 (zi 0)) P 1 7 = 0 := by rw [zps17, zl_0, zi_inj (by omega) (by omega)]; exact h
      rw [if_neg h', wz, z17, decide_eq_false h, zl_0, zb_f]
  rcases g with g | ⟨j, g⟩
  · exact (g.trans (fin _))
  · exact (g.trans (fin j))
end
