/-! The input: appended, a name found, a text loaded. -/
theorem yand255 (y : Int32) : y &&& zi 255 ≠ zn := by
  intro h
  have e : (y &&& (255 : Int32)).toUInt32.toNat = y.toUInt32.toNat &&& 255 := by
    show (y.toBitVec &&& (255 : Int32).toBitVec).toNat = _
    rw [BitVec.toNat_and]
    rfl
  have h2 : (y &&& (255 : Int32)).toUInt32.toNat = 4294967295 := by
    rw [show y &&& (255 : Int32) = zn from h]
    rfl
  have := Nat.and_le_right (n := y.toUInt32.toNat) (m := 255)
  omega
section
variable {X : ZX} {n : Nat} {D : ZD2} {k : Nat × Nat × Nat}
theorem sApp_len (a b c d e : Int32) : (sApp a b c d e).length = 20 := rfl
theorem q106 {a1 a2 a3 a4 a5 : Int32} (G : ygG n D) : zPr n X 106 [.ref 0, .int a1, .int a2, .int a3, .int a4, .int a5] 170 [.ref 168, .int a1, .int a2, .int a3, .int a4, .int a5, zJ, zJ] [] okI D k := by
  obtain ⟨⟨⟨l, i1, i2, i3⟩, i4, i5⟩, gt, ge⟩ := ygG_io G
  by_cases hl : 580 < l
  · exact pr_eq G ⟨_, rfl⟩ (fun O => c106n i1 hl i3) (fun O => ym_th (m170n i2 hl i3))
  · intro O
    refine Or.inl ⟨_, _, c106 i1 (by omega), ⟨_, rfl⟩, fun O' => ?_⟩
    have o : ∀ a, a ≠ 2 → a ≠ 3 → uIns D (sApp a1 a2 a3 a4 a5) a = D a := fun a h1 h2 => uIns_o h1 h2 _ _
    have j2 : uIns D (sApp a1 a2 a3 a4 a5) 2 1 = zi (l + 20) := uIns_len (w := sApp a1 a2 a3 a4 a5) i1
    have j3 : ∀ j, uIns D (sApp a1 a2 a3 a4 a5) 3 j = if j < l then D 3 j else match (sApp a1 a2 a3 a4 a5)[j - l]? with | some v => v &&& zi 255 | none => D 3 j := fun j => uIns_at j i1 (by rw [sApp_len]; omega)
    generalize uIns D (sApp a1 a2 a3 a4 a5) = E at o j2 j3 ⊢
    obtain ⟨F, m1, m2, m3, m4, m5, m6⟩ := m170 (X := X) (D := E) (s := E 172) (O := O') (k := k) (a := a1) (b := a2) (c := a3) (d := a4) (e := a5) (n := l) (by rw [o 168 (by omega) (by omega)]; exact i2) (by omega)
    have e172 : F 172 = E 172 := m5 172 (by omega) (by omega)
    have eF : zrow F 172 (E 172) = F := by rw [← e172, zrow_id]
    rw [zrow_id, eF] at m1
    have q : ∀ a, a ≠ 2 → a ≠ 3 → a ≠ 168 → a ≠ 176 → F a = D a := fun a h1 h2 h3 h4 => (m5 a h3 h4).trans (o a h1 h2)
    have q8 : ∀ j, j ≠ 0 → j ≠ 17 → F 168 j = D 168 j := fun j h1 h2 => (m4 j h1 h2).trans (congrFun (o 168 (by omega) (by omega)) j)
    refine ⟨F, m1, m3, ygG_mono (ygG_co ⟨fun a ha => q a (by omega) (by omega) (by omega) (by omega), fun j hj => q8 j (by omega) (by omega), fun j hj => by rw [q 172 (by omega) (by omega) (by omega) (by omega)], zFin_fr (fun a h1 h2 => q a (by omega) (by omega) (by omega) (by omega)) (ygG_fi G).1⟩ ⟨⟨⟨l + 20, ?_, m2, by omega⟩, ?_, ?_⟩, ?_, ?_⟩ G)⟩
    · rw [m5 2 (by omega) (by omega)]; exact j2
    · rw [m5 3 (by omega) (by omega)]
      funext j
      rw [m6, j3, o 176 (by omega) (by omega), i4]
      by_cases c1 : j < l
      · rw [if_pos c1, if_neg (by omega)]
      · rw [if_neg c1]
        by_cases c2 : j < l + 20
        · obtain ⟨v, v1, v2⟩ := yByte_eq a1 a2 a3 a4 a5 (j - l) (by omega)
          rw [if_pos (by omega), v1]
          exact v2
        · rw [if_neg (by omega), List.getElem?_eq_none (by rw [sApp_len]; omega)]
    · intro j
      rw [m6]
      split
      · unfold yByte
        exact yand255 _
      · rw [o 176 (by omega) (by omega)]; exact i5 j
    · exact ygTx_cg gt (q 18 (by omega) (by omega) (by omega) (by omega)) (q 19 (by omega) (by omega) (by omega) (by omega)) (q 182 (by omega) (by omega) (by omega) (by omega)) (q8 42 (by omega) (by omega))
    · exact ygEr_cg ge (q 0 (by omega) (by omega) (by omega) (by omega)) (q8 18 (by omega) (by omega)) (q8 19 (by omega) (by omega))
theorem rFind_congr {T T' : ZD2} {B : Nat → Int32} {m : Nat} (h1 : T' 1 0 = T 1 0) (h2 : T' 2 = T 2) : rFind T' B m = rFind T B m := by
  unfold rFind sNp
  rw [h1, h2]
theorem q113 {a1 : Int32} (G : ygG n D) : zPr n X 113 [.ref 0, .int a1, zJ] 198 [.ref 168, .int a1, zJ] [0, 1, 2] okI D k := by
  obtain ⟨⟨⟨l, i1, i2, i3⟩, i4, i5⟩, gt, ge⟩ := ygG_io G
  have th : ∀ (D1 : ZD2) (c : Nat), zth D1 c 168 0 = zi c ∧ ymF D1 (zth D1 c) := fun D1 c => ⟨zth_0 _ _, fun a h1 h2 h3 h4 => zth_a h1, fun j h1 h2 h3 => zth_f h1, fun j hj => by rw [zth_a (by omega)]⟩
  rcases id G with ⟨T, x, h, GL⟩ | ⟨x, GN⟩
  rotate_left
  · exact pr_0 (e := 1) GN (by decide) (fun O => c113n GN.2.2.2.1.1) (fun O => ⟨zth D 1, _, m198n GN.2.2.2.1.2, ⟨_, rfl⟩, (th D 1).1, (th D 1).2⟩)
  have M := GL.2.2.1
  rcases zdec2 (a := a1) (l := 0) (n := l) (by omega) (by omega) with ha | ⟨w, w1, w2, rfl⟩
  · exact pr_eqn (e := 2) G (by decide) (fun O => c113m i1 ha M.2.1) (fun O => ⟨zth D 2, _, m198o M.2.2.1 i2 ha, ⟨_, rfl⟩, (th D 2).1, (th D 2).2⟩)
  intro O
  have e1 : zT D 20 1 = T 1 := M.1 1 (by omega)
  have e2 : zT D 20 2 = T 2 := M.1 2 (by omega)
  have np : sNp (zT D 20) = sNp T := zRd_np (congrFun e1 0)
  have c := c113 (X := X) (D := D) (T := zT D 20) (O := O) (k := k) (n := w) rfl i1 i3 w2 M.2.1 (by rw [np, e1]; exact zIv_np (ygI M)) (by rw [np]; exact zIv_np6 (ygI M))
  rw [rFind_congr (congrFun e1 0) e2, i4] at c
  refine Or.inl ⟨_, _, c, ⟨_, rfl⟩, fun O' => ?_⟩
  have z : ∀ a, a ≠ 2 → zw D 2 1 (zi 0) a = D a := fun a ha => zw_row ha
  have S := ygS M
  have m := m198 (X := X) (D := zw D 2 1 (zi 0)) (T := T) (O := O') (k := k) (n := w) (l := l) (zRn_frD (ygNm M) (z 169 (by omega))) (by rw [z 168 (by omega)]; exact M.2.2.1) (by rw [z 168 (by omega), S.1.1]; exact zIv_np (ygI M)) (zIv_np6 (ygI M)) (by rw [z 168 (by omega)]; exact i2) i3 w2
  rw [z 176 (by omega)] at m
  have q : ∀ a, a ≠ 2 → a ≠ 168 → zw (zth (zw D 2 1 (zi 0)) 0) 168 17 (zi 0) a = D a := fun a h1 h2 => by rw [zw_row h2, zth_a h2, z a h1]
  have q8 : ∀ j, j ≠ 0 → j ≠ 17 → zw (zth (zw D 2 1 (zi 0)) 0) 168 17 (zi 0) 168 j = D 168 j := fun j h1 h2 => by rw [zw_ne (by omega), zth_f h1, z 168 (by omega)]
  refine ⟨_, m, (zw_ne (by omega)).trans (zth_0 _ 0), ygG_mono (ygG_co ⟨fun a ha => q a (by omega) (by omega), fun j hj => q8 j (by omega) (by omega), fun j hj => by rw [q 172 (by omega) (by omega)], zFin_fr (fun a h1 h2 => q a (by omega) (by omega)) (ygG_fi G).1⟩ ⟨⟨⟨0, ?_, zw_self _ _ _ _, by omega⟩, ?_, ?_⟩, ?_, ?_⟩ G)⟩
  · rw [zw_nea (by omega), zth_a (by omega), zw_self]
  · rw [q 3 (by omega) (by omega), q 176 (by omega) (by omega)]; exact i4
  · rw [q 176 (by omega) (by omega)]; exact i5
  · exact ygTx_cg gt (q 18 (by omega) (by omega)) (q 19 (by omega) (by omega)) (q 182 (by omega) (by omega)) (q8 42 (by omega) (by omega))
  · exact ygEr_cg ge (q 0 (by omega) (by omega)) (q8 18 (by omega) (by omega)) (q8 19 (by omega) (by omega))
end
