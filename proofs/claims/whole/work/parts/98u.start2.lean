/-! The start: the heap once all is made; what holds then. -/
def zD0 : ZD2 := fun a => if a = 0 then (fun j => if j = 11 then zn else 0) else if a = 168 then (fun j => if j = 19 then zn else 0) else fun _ => 0
def zO0 : ZO2 := (fun _ => 0, fun _ => 0)
theorem zD0_o {a : Nat} (h0 : a ≠ 0) (h : a ≠ 168) : zD0 a = fun _ => 0 := by
  unfold zD0
  rw [if_neg h0, if_neg h]
def zR0 : List ZE := (zbSP 0 ++ zbMod 168) ++ [.inl (1, 1, .inr (.inl fun _ => 0))] ++ [.inl (3, 1, .inr (.inr (.inr (.inl fun _ => 0))))]
def zFl0 : List ZE := [.inr (7, [.ref 1, .ref 2, .ref 4, .ref 17, .ref 18, .ref 20, .ref 33, .ref 46, .ref 59, .ref 165, .int 0, .int zn]), .inr (4, [.ref 2, .ref 4, .int 0, .int 0, .int 0, .int 0, .int 0, .int 0, .int 0]), .inr (0, [.ref 3, .int 0]), .inl (0, 600, .inl fun _ => 0), .inr (2, [.ref 5, .ref 7, .ref 9, .ref 11, .ref 13, .ref 15, .int 0]), .inr (5, [.int 1, .int 5, .ref 6]), .inl (0, 5, .inl fun _ => 0), .inr (5, [.int 1, .int 15, .ref 8]), .inl (0, 15, .inl fun _ => 0), .inr (5, [.int 6, .int 12, .ref 10]), .inl (0, 72, .inl fun _ => 0), .inr (5, [.int 72, .int 5, .ref 12]), .inl (0, 360, .inl fun _ => 0), .inr (5, [.int 64, .int 3, .ref 14]), .inl (0, 192, .inl fun _ => 0), .inr (5, [.int 6, .int 1, .ref 16]), .inl (0, 6, .inl fun _ => 0), .inr (6, [.ref 18]), .inr (0, [.ref 19, .int 0]), .inl (0, 1024, .inl fun _ => 0), .inr (2, [.ref 21, .ref 23, .ref 25, .ref 27, .ref 29, .ref 31, .int 0]), .inr (5, [.int 1, .int 5, .ref 22]), .inl (0, 5, .inl fun _ => 0), .inr (5, [.int 1, .int 15, .ref 24]), .inl (0, 15, .inl fun _ => 0), .inr (5, [.int 6, .int 12, .ref 26]), .inl (0, 72, .inl fun _ => 0), .inr (5, [.int 72, .int 5, .ref 28]), .inl (0, 360, .inl fun _ => 0), .inr (5, [.int 64, .int 3, .ref 30]), .inl (0, 192, .inl fun _ => 0), .inr (5, [.int 6, .int 1, .ref 32]), .inl (0, 6, .inl fun _ => 0), .inr (2, [.ref 34, .ref 36, .ref 38, .ref 40, .ref 42, .ref 44, .int 0]), .inr (5, [.int 1, .int 5, .ref 35]), .inl (0, 5, .inl fun _ => 0), .inr (5, [.int 1, .int 15, .ref 37]), .inl (0, 15, .inl fun _ => 0), .inr (5, [.int 6, .int 12, .ref 39]), .inl (0, 72, .inl fun _ => 0), .inr (5, [.int 72, .int 5, .ref 41]), .inl (0, 360, .inl fun _ => 0), .inr (5, [.int 64, .int 3, .ref 43]), .inl (0, 192, .inl fun _ => 0), .inr (5, [.int 6, .int 1, .ref 45]), .inl (0, 6, .inl fun _ => 0), .inr (2, [.ref 47, .ref 49, .ref 51, .ref 53, .ref 55, .ref 57, .int 0]), .inr (5, [.int 1, .int 5, .ref 48]), .inl (0, 5, .inl fun _ => 0), .inr (5, [.int 1, .int 15, .ref 50]), .inl (0, 15, .inl fun _ => 0), .inr (5, [.int 6, .int 12, .ref 52]), .inl (0, 72, .inl fun _ => 0), .inr (5, [.int 72, .int 5, .ref 54]), .inl (0, 360, .inl fun _ => 0), .inr (5, [.int 64, .int 3, .ref 56]), .inl (0, 192, .inl fun _ => 0), .inr (5, [.int 6, .int 1, .ref 58]), .inl (0, 6, .inl fun _ => 0), .inr (1, [.ref 60, .int 0, .int 0]), .inl (5, 8, .inr (.inr (.inr (.inr (fun j => [61, 74, 87, 100, 113, 126, 139, 152][j]?))))), .inr (2, [.ref 62, .ref 64, .ref 66, .ref 68, .ref 70, .ref 72, .int 0]), .inr (5, [.int 1, .int 5, .ref 63]), .inl (0, 5, .inl fun _ => 0), .inr (5, [.int 1, .int 15, .ref 65]), .inl (0, 15, .inl fun _ => 0), .inr (5, [.int 6, .int 12, .ref 67]), .inl (0, 72, .inl fun _ => 0), .inr (5, [.int 72, .int 5, .ref 69]), .inl (0, 360, .inl fun _ => 0), .inr (5, [.int 64, .int 3, .ref 71]), .inl (0, 192, .inl fun _ => 0), .inr (5, [.int 6, .int 1, .ref 73]), .inl (0, 6, .inl fun _ => 0), .inr (2, [.ref 75, .ref 77, .ref 79, .ref 81, .ref 83, .ref 85, .int 0]), .inr (5, [.int 1, .int 5, .ref 76]), .inl (0, 5, .inl fun _ => 0), .inr (5, [.int 1, .int 15, .ref 78]), .inl (0, 15, .inl fun _ => 0), .inr (5, [.int 6, .int 12, .ref 80]), .inl (0, 72, .inl fun _ => 0), .inr (5, [.int 72, .int 5, .ref 82]), .inl (0, 360, .inl fun _ => 0), .inr (5, [.int 64, .int 3, .ref 84]), .inl (0, 192, .inl fun _ => 0), .inr (5, [.int 6, .int 1, .ref 86]), .inl (0, 6, .inl fun _ => 0), .inr (2, [.ref 88, .ref 90, .ref 92, .ref 94, .ref 96, .ref 98, .int 0]), .inr (5, [.int 1, .int 5, .ref 89]), .inl (0, 5, .inl fun _ => 0), .inr (5, [.int 1, .int 15, .ref 91]), .inl (0, 15, .inl fun _ => 0), .inr (5, [.int 6, .int 12, .ref 93]), .inl (0, 72, .inl fun _ => 0), .inr (5, [.int 72, .int 5, .ref 95]), .inl (0, 360, .inl fun _ => 0), .inr (5, [.int 64, .int 3, .ref 97]), .inl (0, 192, .inl fun _ => 0), .inr (5, [.int 6, .int 1, .ref 99]), .inl (0, 6, .inl fun _ => 0), .inr (2, [.ref 101, .ref 103, .ref 105, .ref 107, .ref 109, .ref 111, .int 0]), .inr (5, [.int 1, .int 5, .ref 102]), .inl (0, 5, .inl fun _ => 0), .inr (5, [.int 1, .int 15, .ref 104]), .inl (0, 15, .inl fun _ => 0), .inr (5, [.int 6, .int 12, .ref 106]), .inl (0, 72, .inl fun _ => 0), .inr (5, [.int 72, .int 5, .ref 108]), .inl (0, 360, .inl fun _ => 0), .inr (5, [.int 64, .int 3, .ref 110]), .inl (0, 192, .inl fun _ => 0), .inr (5, [.int 6, .int 1, .ref 112]), .inl (0, 6, .inl fun _ => 0), .inr (2, [.ref 114, .ref 116, .ref 118, .ref 120, .ref 122, .ref 124, .int 0]), .inr (5, [.int 1, .int 5, .ref 115]), .inl (0, 5, .inl fun _ => 0), .inr (5, [.int 1, .int 15, .ref 117]), .inl (0, 15, .inl fun _ => 0), .inr (5, [.int 6, .int 12, .ref 119]), .inl (0, 72, .inl fun _ => 0), .inr (5, [.int 72, .int 5, .ref 121]), .inl (0, 360, .inl fun _ => 0), .inr (5, [.int 64, .int 3, .ref 123]), .inl (0, 192, .inl fun _ => 0), .inr (5, [.int 6, .int 1, .ref 125]), .inl (0, 6, .inl fun _ => 0), .inr (2, [.ref 127, .ref 129, .ref 131, .ref 133, .ref 135, .ref 137, .int 0]), .inr (5, [.int 1, .int 5, .ref 128]), .inl (0, 5, .inl fun _ => 0), .inr (5, [.int 1, .int 15, .ref 130]), .inl (0, 15, .inl fun _ => 0), .inr (5, [.int 6, .int 12, .ref 132]), .inl (0, 72, .inl fun _ => 0), .inr (5, [.int 72, .int 5, .ref 134]), .inl (0, 360, .inl fun _ => 0), .inr (5, [.int 64, .int 3, .ref 136]), .inl (0, 192, .inl fun _ => 0), .inr (5, [.int 6, .int 1, .ref 138]), .inl (0, 6, .inl fun _ => 0), .inr (2, [.ref 140, .ref 142, .ref 144, .ref 146, .ref 148, .ref 150, .int 0]), .inr (5, [.int 1, .int 5, .ref 141]), .inl (0, 5, .inl fun _ => 0), .inr (5, [.int 1, .int 15, .ref 143]), .inl (0, 15, .inl fun _ => 0), .inr (5, [.int 6, .int 12, .ref 145]), .inl (0, 72, .inl fun _ => 0), .inr (5, [.int 72, .int 5, .ref 147]), .inl (0, 360, .inl fun _ => 0), .inr (5, [.int 64, .int 3, .ref 149]), .inl (0, 192, .inl fun _ => 0), .inr (5, [.int 6, .int 1, .ref 151]), .inl (0, 6, .inl fun _ => 0), .inr (2, [.ref 153, .ref 155, .ref 157, .ref 159, .ref 161, .ref 163, .int 0]), .inr (5, [.int 1, .int 5, .ref 154]), .inl (0, 5, .inl fun _ => 0), .inr (5, [.int 1, .int 15, .ref 156]), .inl (0, 15, .inl fun _ => 0), .inr (5, [.int 6, .int 12, .ref 158]), .inl (0, 72, .inl fun _ => 0), .inr (5, [.int 72, .int 5, .ref 160]), .inl (0, 360, .inl fun _ => 0), .inr (5, [.int 64, .int 3, .ref 162]), .inl (0, 192, .inl fun _ => 0), .inr (5, [.int 6, .int 1, .ref 164]), .inl (0, 6, .inl fun _ => 0), .inr (3, [.ref 166, .ref 167, .int 0]), .inl (0, 72, .inl fun _ => 0), .inl (2, 72, .inr (.inr (.inl fun _ => 0))), .inr (8, [.int 0, .int 0, .int 0, .int 0, .int 0, .int 0, .int 0, .int 0, .ref 169, .ref 170, .ref 171, .ref 172, .ref 173, .ref 174, .int 0, .ref 175, .ref 176, .int 0, .int 0, .int zn, .int 0, .int 0, .int 0, .int 0, .int 0, .int 0, .int 0, .int 0, .int 0, .int 0, .int 0, .int 0, .int 0, .int 0, .ref 177, .ref 178, .ref 179, .ref 180, .ref 181, .int 0, .int 0, .ref 182, .int 0]), .inl (0, 36, .inl fun _ => 0), .inl (0, 6, .inl fun _ => 0), .inl (0, 6, .inl fun _ => 0), .inl (0, 540, .inl fun _ => 0), .inl (0, 540, .inl fun _ => 0), .inl (0, 5400, .inl fun _ => 0), .inl (4, 2, .inl fun _ => 0), .inl (0, 600, .inl fun _ => 0), .inl (0, 540, .inl fun _ => 0), .inl (0, 36, .inl fun _ => 0), .inl (0, 6, .inl fun _ => 0), .inl (0, 6, .inl fun _ => 0), .inl (0, 72, .inl fun _ => 0), .inl (0, 1200, .inl fun _ => 0), .inl (1, 1, .inr (.inl fun _ => 0)), .inl (3, 1, .inr (.inr (.inr (.inl fun _ => 0))))]
set_option maxRecDepth 20000 in
set_option maxHeartbeats 8000000 in
theorem zR0_flat : zR0 = zFl0 := rfl
set_option maxRecDepth 20000 in
set_option maxHeartbeats 8000000 in
theorem zR0_at : ∀ a, a < 185 → zLi zFl0 a = zHP zD0 zO0 a := by
  intro a ha
  match a, ha with
  | 0, _ => rfl
  | 1, _ => rfl
  | 2, _ => rfl
  | 3, _ => rfl
  | 4, _ => rfl
  | 5, _ => rfl
  | 6, _ => rfl
  | 7, _ => rfl
  | 8, _ => rfl
  | 9, _ => rfl
  | 10, _ => rfl
  | 11, _ => rfl
  | 12, _ => rfl
  | 13, _ => rfl
  | 14, _ => rfl
  | 15, _ => rfl
  | 16, _ => rfl
  | 17, _ => rfl
  | 18, _ => rfl
  | 19, _ => rfl
  | 20, _ => rfl
  | 21, _ => rfl
  | 22, _ => rfl
  | 23, _ => rfl
  | 24, _ => rfl
  | 25, _ => rfl
  | 26, _ => rfl
  | 27, _ => rfl
  | 28, _ => rfl
  | 29, _ => rfl
  | 30, _ => rfl
  | 31, _ => rfl
  | 32, _ => rfl
  | 33, _ => rfl
  | 34, _ => rfl
  | 35, _ => rfl
  | 36, _ => rfl
  | 37, _ => rfl
  | 38, _ => rfl
  | 39, _ => rfl
  | 40, _ => rfl
  | 41, _ => rfl
  | 42, _ => rfl
  | 43, _ => rfl
  | 44, _ => rfl
  | 45, _ => rfl
  | 46, _ => rfl
  | 47, _ => rfl
  | 48, _ => rfl
  | 49, _ => rfl
  | 50, _ => rfl
  | 51, _ => rfl
  | 52, _ => rfl
  | 53, _ => rfl
  | 54, _ => rfl
  | 55, _ => rfl
  | 56, _ => rfl
  | 57, _ => rfl
  | 58, _ => rfl
  | 59, _ => rfl
  | 60, _ => rfl
  | 61, _ => rfl
  | 62, _ => rfl
  | 63, _ => rfl
  | 64, _ => rfl
  | 65, _ => rfl
  | 66, _ => rfl
  | 67, _ => rfl
  | 68, _ => rfl
  | 69, _ => rfl
  | 70, _ => rfl
  | 71, _ => rfl
  | 72, _ => rfl
  | 73, _ => rfl
  | 74, _ => rfl
  | 75, _ => rfl
  | 76, _ => rfl
  | 77, _ => rfl
  | 78, _ => rfl
  | 79, _ => rfl
  | 80, _ => rfl
  | 81, _ => rfl
  | 82, _ => rfl
  | 83, _ => rfl
  | 84, _ => rfl
  | 85, _ => rfl
  | 86, _ => rfl
  | 87, _ => rfl
  | 88, _ => rfl
  | 89, _ => rfl
  | 90, _ => rfl
  | 91, _ => rfl
  | 92, _ => rfl
  | 93, _ => rfl
  | 94, _ => rfl
  | 95, _ => rfl
  | 96, _ => rfl
  | 97, _ => rfl
  | 98, _ => rfl
  | 99, _ => rfl
  | 100, _ => rfl
  | 101, _ => rfl
  | 102, _ => rfl
  | 103, _ => rfl
  | 104, _ => rfl
  | 105, _ => rfl
  | 106, _ => rfl
  | 107, _ => rfl
  | 108, _ => rfl
  | 109, _ => rfl
  | 110, _ => rfl
  | 111, _ => rfl
  | 112, _ => rfl
  | 113, _ => rfl
  | 114, _ => rfl
  | 115, _ => rfl
  | 116, _ => rfl
  | 117, _ => rfl
  | 118, _ => rfl
  | 119, _ => rfl
  | 120, _ => rfl
  | 121, _ => rfl
  | 122, _ => rfl
  | 123, _ => rfl
  | 124, _ => rfl
  | 125, _ => rfl
  | 126, _ => rfl
  | 127, _ => rfl
  | 128, _ => rfl
  | 129, _ => rfl
  | 130, _ => rfl
  | 131, _ => rfl
  | 132, _ => rfl
  | 133, _ => rfl
  | 134, _ => rfl
  | 135, _ => rfl
  | 136, _ => rfl
  | 137, _ => rfl
  | 138, _ => rfl
  | 139, _ => rfl
  | 140, _ => rfl
  | 141, _ => rfl
  | 142, _ => rfl
  | 143, _ => rfl
  | 144, _ => rfl
  | 145, _ => rfl
  | 146, _ => rfl
  | 147, _ => rfl
  | 148, _ => rfl
  | 149, _ => rfl
  | 150, _ => rfl
  | 151, _ => rfl
  | 152, _ => rfl
  | 153, _ => rfl
  | 154, _ => rfl
  | 155, _ => rfl
  | 156, _ => rfl
  | 157, _ => rfl
  | 158, _ => rfl
  | 159, _ => rfl
  | 160, _ => rfl
  | 161, _ => rfl
  | 162, _ => rfl
  | 163, _ => rfl
  | 164, _ => rfl
  | 165, _ => rfl
  | 166, _ => rfl
  | 167, _ => rfl
  | 168, _ => rfl
  | 169, _ => rfl
  | 170, _ => rfl
  | 171, _ => rfl
  | 172, _ => rfl
  | 173, _ => rfl
  | 174, _ => rfl
  | 175, _ => rfl
  | 176, _ => rfl
  | 177, _ => rfl
  | 178, _ => rfl
  | 179, _ => rfl
  | 180, _ => rfl
  | 181, _ => rfl
  | 182, _ => rfl
  | 183, _ => rfl
  | 184, _ => rfl
  | n + 185, h => exact absurd h (by omega)
theorem zR0_len : zR0.length = 185 := zln (zln (zln (zbSP_len _) (zbMod_len _) rfl) rfl rfl) rfl rfl
theorem zR0_eq : zLi zR0 = zHP zD0 zO0 := by
  funext a
  by_cases h : a < 185
  · rw [zR0_flat]
    exact zR0_at a h
  · unfold zLi zHP
    rw [List.getElem?_eq_none (by rw [zR0_len]; omega), List.getElem?_eq_none (by rw [zsk_len]; omega)]
    rfl
theorem zFin_D0 {m : Nat} (h : 0 < m) (h2 : m + 12 < 168) : zFin (zT zD0 m) := fun t ht j _ => by
  show zD0 (m + 2 + 2 * t) j = 0
  rw [zD0_o (by omega) (by omega)]
theorem yg_start : ygG 0 zD0 := Or.inr ⟨0, ⟨⟨⟨0, rfl, rfl, by omega⟩, rfl, fun i h => absurd h (by show ¬ (0 : Int32) = zn; decide)⟩, ⟨[], ⟨rfl, fun i v h => by simp at h⟩, ⟨rfl, fun i v h => by simp at h⟩, by simp, fun v h => by simp at h⟩, rfl, rfl⟩, ⟨zFin_D0 (by omega) (by omega), zFin_D0 (by omega) (by omega), fun s hs => zFin_D0 (by unfold zSv; omega) (by unfold zSv; omega)⟩, ⟨⟨rfl, by omega, rfl, by omega, fun i hi => zFin_D0 (by unfold zRg; omega) (by unfold zRg; omega)⟩, rfl⟩, ⟨rfl, rfl⟩, fun s hs => ⟨rfl, by
    rw [zD0_o (by unfold zSv; omega) (by unfold zSv; omega)]
    rfl⟩⟩
section
variable {X : ZX}
theorem zbeg1 : zev X 352 0 [.retAddr 999, zJ, zJ, zJ, zJ, zJ, zJ, zJ, zJ] [] (zLc [] [] 0 0) = zev X 352 8 [.retAddr 999, .ref 0, zJ, zJ, zJ, zJ, zJ, zJ, zJ] [] (zLc [] (zbSP 0) 168 9908) := by
  refine (zq_new' (l := []) (r := []) (n := 0) (kk := 12) (fs := [.null, .null, .null, .null, .null, .null, .null, .null, .null, .null, .int 0, .int 0]) rfl rfl rfl rfl).trans ?_
  refine (zst_p 1 (pc' := 4) (L' := [.retAddr 999, zJ, zJ, zJ, zJ, zJ, zJ, zJ, zJ]) (st' := [.ref 0, .ref 0]) rfl).trans ?_
  refine (zst_4u (L1 := [.ref 0]) (rest := [.ref 0]) rfl rfl rfl (cSP0 [] _ _)).trans ?_
  exact zst_p 1 (pc' := 8) (L' := [.retAddr 999, .ref 0, zJ, zJ, zJ, zJ, zJ, zJ, zJ]) (st' := []) rfl
theorem zbeg2 : zev X 352 8 [.retAddr 999, .ref 0, zJ, zJ, zJ, zJ, zJ, zJ, zJ] [] (zLc [] (zbSP 0) 168 9908) = zev X 352 16 [.retAddr 999, .ref 0, .ref 168, zJ, zJ, zJ, zJ, zJ, zJ] [] (zLc [] (zbSP 0 ++ zbMod 168) 183 18941) := by
  refine (zq_new' (l := []) (r := zbSP 0) (n := 168) (kk := 43) (fs := [.int 0, .int 0, .int 0, .int 0, .int 0, .int 0, .int 0, .int 0, .null, .null, .null, .null, .null, .null, .int 0, .null, .null, .int 0, .int 0, .int 0, .int 0, .int 0, .int 0, .int 0, .int 0, .int 0, .int 0, .int 0, .int 0, .int 0, .int 0, .int 0, .int 0, .int 0, .null, .null, .null, .null, .null, .int 0, .int 0, .null, .int 0]) rfl rfl (zbSP_len 0) rfl).trans ?_
  refine (zst_p 1 (pc' := 12) (L' := [.retAddr 999, .ref 0, zJ, zJ, zJ, zJ, zJ, zJ, zJ]) (st' := [.ref 168, .ref 168]) rfl).trans ?_
  refine (zst_4u (L1 := [.ref 168]) (rest := [.ref 168]) rfl rfl rfl (zct_app cMod0 [] (zbSP 0) 168 (zbSP_len 0) _ _)).trans ?_
  exact zst_p 1 (pc' := 16) (L' := [.retAddr 999, .ref 0, .ref 168, zJ, zJ, zJ, zJ, zJ, zJ]) (st' := []) rfl
theorem zbeg3 : zev X 352 16 [.retAddr 999, .ref 0, .ref 168, zJ, zJ, zJ, zJ, zJ, zJ] [] (zLc [] (zbSP 0 ++ zbMod 168) 183 18941) = zev X 352 28 [.retAddr 999, .ref 0, .ref 168, .ref 183, .ref 184, .int (zi (6 * 0)), zJ, zJ, zJ] [] (zLc [] zR0 185 18943) := by
  refine (zst_p 1 (pc' := 17) (L' := [.retAddr 999, .ref 0, .ref 168, zJ, zJ, zJ, zJ, zJ, zJ]) (st' := [.int (zi 1)]) rfl).trans ?_
  refine (zq_arr' (l := []) (r := zbSP 0 ++ zbMod 168) (m := 1) (n := 183) rfl rfl (by decide) (by decide) (zln (zbSP_len _) (zbMod_len _) rfl)).trans ?_
  refine (zst_p 2 (pc' := 21) (L' := [.retAddr 999, .ref 0, .ref 168, .ref 183, zJ, zJ, zJ, zJ, zJ]) (st' := [.int (zi 1)]) rfl).trans ?_
  refine (zq_arr' (l := []) (r := (zbSP 0 ++ zbMod 168) ++ ([.inl (1, 1, .inr (.inl fun _ => 0))] : List ZE)) (m := 1) (n := 184) rfl rfl (by decide) (by decide) (zln (zln (zbSP_len _) (zbMod_len _) rfl) rfl rfl)).trans ?_
  exact zst_p 3 (pc' := 28) (L' := [.retAddr 999, .ref 0, .ref 168, .ref 183, .ref 184, .int (zi (6 * 0)), zJ, zJ, zJ]) (st' := []) rfl
theorem zh0_nil : zh0 = zLc [] [] 0 0 := rfl
theorem zst_end : zLc [] zR0 185 18943 = (zHP zD0 zO0, (185, 185, 18943)) := by
  unfold zLc
  rw [List.nil_append, zR0_eq, zR0_len]
  rfl
end
theorem ztop : zTop := by
  intro X h3
  obtain ⟨S', e, b1, b2⟩ := zrun (X := X) h3 512 0 zD0 zO0 (185, 185, 18943) zJ zJ zJ (by omega) (by omega) yg_start
  have st : zev X 352 0 (zentry 9 [.retAddr 999]) [] zh0 = some (.inl (some (.int 1)), S') := by
    rw [zh0_nil]
    refine Eq.trans (zbeg1 (X := X)) ((zbeg2 (X := X)).trans ((zbeg3 (X := X)).trans ?_))
    rw [zst_end]
    exact e
  obtain ⟨f, hf⟩ := zev_iff.mp st
  refine ⟨f, S', hf, ?_, ?_⟩
  · have : S'.2.2.1 ≤ 185 + 512 := b1
    omega
  · have : S'.2.2.2 ≤ 18943 + 6 * 512 := b2
    omega
