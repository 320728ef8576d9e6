/-! Copies to and from the machine that is now; the history. -/
theorem zmt_zmt (D : ZD2) (m : Nat) (T T' : ZD2) : zmt (zmt D m T) m T' = zmt D m T' := by
  funext a j; unfold zmt; (repeat' split) <;> first | rfl | simp_all
theorem zmt_comm {D : ZD2} {m m2 : Nat} {T T' : ZD2} (h : zFar m m2) : zmt (zmt D m T) m2 T' = zmt (zmt D m2 T') m T := by
  unfold zFar at h
  funext a
  by_cases h0 : a = m + 2
  · subst h0; rw [zmt_o (by omega), zmt_0, zmt_0]
  by_cases h1 : a = m + 4
  · subst h1; rw [zmt_o (by omega), zmt_1, zmt_1]
  by_cases h2 : a = m + 6
  · subst h2; rw [zmt_o (by omega), zmt_2, zmt_2]
  by_cases h3 : a = m + 8
  · subst h3; rw [zmt_o (by omega), zmt_3, zmt_3]
  by_cases h4 : a = m + 10
  · subst h4; rw [zmt_o (by omega), zmt_4, zmt_4]
  by_cases h5 : a = m + 12
  · subst h5; rw [zmt_o (by omega), zmt_5, zmt_5]
  by_cases g0 : a = m2 + 2
  · subst g0; rw [zmt_0, zmt_o (by omega), zmt_0]
  by_cases g1 : a = m2 + 4
  · subst g1; rw [zmt_1, zmt_o (by omega), zmt_1]
  by_cases g2 : a = m2 + 6
  · subst g2; rw [zmt_2, zmt_o (by omega), zmt_2]
  by_cases g3 : a = m2 + 8
  · subst g3; rw [zmt_3, zmt_o (by omega), zmt_3]
  by_cases g4 : a = m2 + 10
  · subst g4; rw [zmt_4, zmt_o (by omega), zmt_4]
  by_cases g5 : a = m2 + 12
  · subst g5; rw [zmt_5, zmt_o (by omega), zmt_5]
  rw [zmt_o (by omega), zmt_o (by omega), zmt_o (by omega), zmt_o (by omega)]
theorem zT_zmt {D : ZD2} {m : Nat} {T : ZD2} {t : Nat} (h : t < 6) : zT (zmt D m T) m t = T t := by
  funext j
  unfold zT zmt
  rcases (by omega : t = 0 ∨ t = 1 ∨ t = 2 ∨ t = 3 ∨ t = 4 ∨ t = 5) with rfl | rfl | rfl | rfl | rfl | rfl <;> simp
theorem zT_zmt_o {D : ZD2} {m m2 : Nat} {T : ZD2} {t : Nat} (hf : zFar m m2) (h : t < 6) : zT (zmt D m T) m2 t = zT D m2 t := by
  unfold zFar at hf
  funext j
  unfold zT
  rw [zmt_o (by omega)]
theorem zFin_congr {T T' : ZD2} (h : ∀ t, t < 6 → T' t = T t) (hf : zFin T) : zFin T' := fun t ht j hj => by rw [h t ht]; exact hf t ht j hj
section
variable {X : ZX} {D T : ZD2} {O : ZO2} {k : Nat × Nat × Nat} {m : Nat}
theorem c28a (hm : zisM m) (hfar : zFar m 20) (hl : D 20 6 = zi 0 ∨ D 20 6 = zi 1) (hf : zFin (zT D m)) (hT : zFin T) : zev X 28 0 [.ref m, .ref 20] [] (zHP (zmt D 20 T) O, k) = some (.inl none, (zHP (zmt (zmt (zw D m 6 (D 20 6)) m T) 20 T) O, k)) := by
  have hfar' : zFar 20 m := hfar.symm
  rw [c28 hm hm20 hfar (by rw [d20]; exact hl) (zFin_congr (fun t ht => zT_zmt_o hfar' ht) hf) (zFin_congr (fun t ht => zT_zmt ht) hT)]
  unfold zFar at hfar
  rw [d20, zw_Mo (by omega), zmt_congr (fun t ht => zT_zmt ht), zmt_comm hfar']
theorem c28b (hm : zisM m) (hfar : zFar m 20) (hl : D m 6 = zi 0 ∨ D m 6 = zi 1) (hf : zFin (zT D m)) (hT : zFin T) : zev X 28 0 [.ref 20, .ref m] [] (zHP (zmt D 20 T) O, k) = some (.inl none, (zHP (zmt (zw D 20 6 (D m 6)) 20 (zT D m)) O, k)) := by
  have hfar' : zFar 20 m := hfar.symm
  have e : zmt D 20 T m = D m := by unfold zFar at hfar; exact zmt_o (by omega)
  rw [c28 hm20 hm hfar' (by rw [e]; exact hl) (zFin_congr (fun t ht => zT_zmt ht) hT) (zFin_congr (fun t ht => zT_zmt_o hfar' ht) hf)]
  rw [e, zw_Mo (by omega), zmt_zmt, zmt_congr (fun t ht => zT_zmt_o hfar' ht)]
theorem c14 {i : Nat} (hi : i < 8) : zev X 14 0 [.ref 59, .int (zi i)] [] (zHP D O, k) = some (.inl (some (.ref (61 + 13 * i))), (zHP D O, k)) := by
  have h1 : ¬ zi i < 0 := by rw [zl_0, zi_lt (by omega) (by omega)]; omega
  have h2 : zi i < Int32.ofNat 8 := by
    show zi i < zi 8
    rw [zi_lt (by omega) (by omega)]
    exact hi
  have h3 : zald (zHP D O) 60 (zi i) = some (61 + 13 * i) := by
    rcases (by omega : i = 0 ∨ i = 1 ∨ i = 2 ∨ i = 3 ∨ i = 4 ∨ i = 5 ∨ i = 6 ∨ i = 7) with rfl | rfl | rfl | rfl | rfl | rfl | rfl | rfl <;> rfl
  refine (zst_p 1 (pc' := 1) (L' := [.ref 59, .int (zi i)]) (st' := [.int (zi i)]) rfl).trans ?_
  rw [zb_lt (tgt := 22) rfl rfl, if_neg h1]
  refine (zst_p 2 (pc' := 6) (L' := [.ref 59, .int (zi i)]) (st' := [.ref 59, .int (zi i)]) rfl).trans ?_
  refine (zst_gf rfl zk_59 rfl).trans ?_
  refine (zst_al rfl zk_60).trans ?_
  rw [zc_ge (tgt := 22) rfl rfl, if_pos h2]
  refine (zst_p 1 (pc' := 14) (L' := [.ref 59, .int (zi i)]) (st' := [.ref 59]) rfl).trans ?_
  refine (zst_gf rfl zk_59 rfl).trans ?_
  refine (zst_p 1 (pc' := 18) (L' := [.ref 59, .int (zi i)]) (st' := [.int (zi i), .ref 60]) rfl).trans ?_
  refine (zst_1 (st' := [.ref (61 + 13 * i)]) (S' := (zHP D O, k)) rfl ?_).trans ?_
  · show zbind (zald (zHP D O) 60 (zi i)) _ = _
    rw [h3]
    rfl
  refine (zst_p 1 (pc' := 23) (L' := [.ref 59, .int (zi i)]) (st' := [.ref (61 + 13 * i)]) rfl).trans ?_
  exact zst_3 rfl rfl
def zRg (i : Nat) : Nat := 61 + 13 * i
theorem hmRg {i : Nat} (hi : i < 8) : zisM (zRg i) := by
  rcases (by omega : i = 0 ∨ i = 1 ∨ i = 2 ∨ i = 3 ∨ i = 4 ∨ i = 5 ∨ i = 6 ∨ i = 7) with rfl | rfl | rfl | rfl | rfl | rfl | rfl | rfl <;> exact zisM_of _ (by decide)
theorem zfarRg (i : Nat) : zFar (zRg i) 20 := Or.inr (by unfold zRg; omega)
theorem zmod8 {x : Nat} (h : x < 2147483600) : zi x - zi x / zi 8 * zi 8 = zi (x % 8) := by
  have h1 : x / 8 * 8 ≤ x := Nat.div_mul_le_self x 8
  rw [zi_div (by omega) (by omega), zi_mul, zi_sub h1 (by omega)]
  congr 1
  omega
def uKeep (D T : ZD2) (x h : Nat) : ZD2 := zw (zw (zmt (zw D (zRg x) 6 (D 20 6)) (zRg x) T) 59 1 (zi ((x + 1) % 8))) 59 2 (zi (min 8 (h + 1)))
theorem c13 {x h : Nat} (hx : D 59 1 = zi x) (hx8 : x < 8) (hh : D 59 2 = zi h) (hh8 : h ≤ 8) (hl : D 20 6 = zi 0 ∨ D 20 6 = zi 1) (hf : zFin (zT D (zRg x))) (hT : zFin T) : zev X 13 0 [.ref 59, .ref 20, zJ] [] (zHP (zmt D 20 T) O, k) = some (.inl none, (zHP (zmt (uKeep D T x h) 20 T) O, k)) := by
  have e1 : zmt D 20 T 59 = D 59 := zmt_o (by omega)
  have hR : zRg x = 61 + 13 * x := rfl
  have e2 : zmt (zmt (zw D (zRg x) 6 (D 20 6)) (zRg x) T) 20 T 59 = D 59 := by rw [zmt_o (by omega), zmt_o (by omega), zw_row (by omega)]
  rw [b13_0, e1, hx, c14 hx8, zcon_inl]
  show zev X 13 8 _ [_] _ = _
  have hq : zisM (61 + 13 * x) := hmRg hx8
  rw [b13_8 hq]
  rw [show (61 + 13 * x) = zRg x from rfl, c28a (hmRg hx8) (zfarRg x) hl hf hT, zcon_inl]
  show zev X 13 19 _ [] _ = _
  rw [b13_19, e2, hx, zl_1, zl_8, zi_add, zmod8 (by omega)]
  have e3 : zw (zmt (zmt (zw D (zRg x) 6 (D 20 6)) (zRg x) T) 20 T) 59 1 (zi ((x + 1) % 8)) 59 2 = zi h := by rw [zw_ne (by omega), e2, hh]
  rw [e3, zi_add]
  have e4 : (if zi (h + 1) < zi 8 then zi (h + 1) else zi 8) = zi (min 8 (h + 1)) := by rw [zmin (by omega) (by omega), Nat.min_comm]
  rw [e4, zw_Mo (by omega), zw_Mo (by omega)]
  rfl
def zPrev (x : Nat) : Nat := (x + 7) % 8
theorem c15 {x h : Nat} (hx : D 59 1 = zi x) (hx8 : x < 8) (hh : D 59 2 = zi h) (hh8 : h ≤ 8) (h0 : 0 < h) (hl : D (zRg (zPrev x)) 6 = zi 0 ∨ D (zRg (zPrev x)) 6 = zi 1) (hf : zFin (zT D (zRg (zPrev x)))) (hT : zFin T) : zev X 15 0 [.ref 59, .ref 20, zJ, zJ] [] (zHP (zmt D 20 T) O, k) = some (.inl none, (zHP (zmt (zw (zw (zw D 20 6 (D (zRg (zPrev x)) 6)) 59 1 (zi (zPrev x))) 59 2 (zi (h - 1))) 20 (zT D (zRg (zPrev x)))) O, k)) := by
  have e1 : zmt D 20 T 59 = D 59 := zmt_o (by omega)
  have hp : zPrev x < 8 := by unfold zPrev; omega
  have hR : zRg (zPrev x) = 61 + 13 * zPrev x := rfl
  have e8 : zi x + 8 - 1 - (zi x + 8 - 1) / 8 * 8 = zi (zPrev x) := by
    rw [zl_8, zl_1, zi_add, zi_sub (by omega) (by omega), zmod8 (by omega)]
    rfl
  have hh0 : ¬ zi h = 0 := by
    rw [zl_0, zi_inj (by omega) (by omega)]
    omega
  have e3 : D 59 2 = zi h := hh
  rw [b15_0, e1, hx, e8, c14 hp, zcon_inl]
  show zev X 15 18 _ [_] _ = _
  rw [b15_18 hm20, e1, hh, if_neg hh0]
  rw [show (61 + 13 * zPrev x) = zRg (zPrev x) from rfl, c28b (hmRg hp) (zfarRg _) hl hf hT, zcon_inl]
  show zev X 15 36 _ [] _ = _
  rw [b15_36]
  have e4 : zw (zmt (zw D 20 6 (D (zRg (zPrev x)) 6)) 20 (zT D (zRg (zPrev x)))) 59 1 (zi (zPrev x)) 59 2 = zi h := by
    rw [zw_ne (by omega), zmt_o (by omega), zw_row (by omega), hh]
  rw [e4, zl_1, zi_sub (by omega) (by omega), zw_Mo (by omega), zw_Mo (by omega)]
end
