/-! Texts: the class and the model. -/
/-- bytes -/
def yby (t : List Int32) : Prop := ∀ v, v ∈ t → v &&& zi 255 = v
theorem yby_nil : yby [] := fun v h => by simp at h
theorem yby_one {q : Nat} (h : q < 256) : yby [zi q] := fun v hv => by
  rw [List.mem_singleton] at hv
  rw [hv]
  exact zand255 h
theorem yby_app {s t : List Int32} (h1 : yby s) (h2 : yby t) : yby (s ++ t) := fun v hv => by
  rcases List.mem_append.mp hv with q | q
  · exact h1 v q
  · exact h2 v q
theorem yand31 (y : Int32) : ∃ m, m < 32 ∧ y &&& 31 = zi m := by
  refine ⟨(y &&& 31).toUInt32.toNat, ?_, ?_⟩
  · have e : (y &&& 31).toUInt32.toNat = y.toUInt32.toNat &&& 31 := by
      show (y.toBitVec &&& (31 : Int32).toBitVec).toNat = _
      rw [BitVec.toNat_and]
      rfl
    rw [e]
    have := Nat.and_le_right (n := y.toUInt32.toNat) (m := 31)
    omega
  · have g : Int32.ofNat (y &&& 31).toUInt32.toNat = y &&& 31 := by
      apply Int32.toBitVec_inj.mp
      simp [Int32.toBitVec_ofNat]
    exact g.symm
theorem yby_let {name : Int32} {s : Nat} : yby (sLet name s) := by
  unfold sLet
  obtain ⟨m, hm, e⟩ := yand31 (name >>> (zi s &&& 31))
  rw [e]
  split
  · rw [zl_97, zl_1, zi_add, zi_sub (by omega) (by omega)]
    exact yby_one (by omega)
  · exact yby_nil
theorem yby_name {name : Int32} : yby (sName name) := yby_app yby_let (yby_app yby_let (yby_app yby_let (yby_app yby_let (yby_app yby_let yby_let))))
theorem yby_num {q : Nat} (h : q < 1000) : yby (sNum q) := by
  unfold sNum
  refine yby_app ?_ (yby_app ?_ (yby_one (by omega)))
  · split
    · exact yby_nil
    · exact yby_one (by omega)
  · split
    · exact yby_nil
    · exact yby_one (by omega)
theorem yby_cat {f : Nat → List Int32} (h : ∀ i, yby (f i)) : ∀ d i, yby (zcat f d i)
  | 0, _ => yby_nil
  | d + 1, i => by
    rw [zcat]
    exact yby_app (h i) (yby_cat h d (i + 1))
theorem yby_page {T : ZD2} {r : Nat} : yby (sPage T r) := by
  unfold sPage sLetter
  refine yby_app ?_ (yby_app ?_ ?_)
  · split
    · split
      · exact yby_one (by omega)
      · split
        · exact yby_one (by omega)
        · exact yby_one (by omega)
    · exact yby_one (by omega)
  · split
    · exact yby_one (by omega)
    · exact yby_nil
  · split
    · exact yby_one (by omega)
    · exact yby_nil
theorem yby_1 {T : ZD2} {p : Nat} : yby (sTell1 T p) := by
  unfold sTell1
  refine yby_app yby_name (yby_app (yby_one (by omega)) (yby_app (yby_cat (fun g => yby_page) _ _) ?_))
  split
  · exact yby_one (by omega)
  · exact yby_nil
theorem yby_2 {T : ZD2} : yby (sTell2 T) := by
  unfold sTell2
  refine yby_cat (fun f => ?_) _ _
  unfold sFrm
  split
  · exact yby_one (by omega)
  · split
    · exact yby_one (by omega)
    · exact yby_num (by split <;> omega)
theorem yby_3 {T : ZD2} (I : zIv T) : ∀ (l : List Nat) (i : Nat), (∀ r, r ∈ l → r < 72) → yby (sTell3 T i l)
  | [], _, _ => yby_nil
  | r :: l, i, h => by
    rw [sTell3]
    refine yby_app ?_ (yby_3 I l (i + 1) fun q hq => h q (List.mem_cons_of_mem _ hq))
    obtain ⟨pr, e, hp⟩ := yprice I (h r List.mem_cons_self)
    unfold sOfr sPr
    rw [e, zi_toNat (by omega)]
    refine yby_app ?_ (yby_app yby_name (yby_app (yby_one (by omega)) (yby_app (yby_num (by omega)) (yby_app (yby_one (by omega)) (yby_num (by omega))))))
    split
    · exact yby_one (by omega)
    · exact yby_nil
theorem sTell1_len {T : ZD2} {p : Nat} (h : sPgs T p ≤ 12) : (sTell1 T p).length ≤ 1024 := by
  have h1 := sName_len (T 2 (12 * p + 11))
  have h2 := zcat_len (f := fun g => sPage T (12 * p + g)) (b := 3) (fun i => sPage_len _ _) (sPgs T p) 0
  unfold sTell1
  simp only [List.length_append, List.length_cons, List.length_nil]
  have : (if sEnd T p = true then [zi 120] else []).length ≤ 1 := by split <;> simp
  omega
theorem sTell2_len {T : ZD2} (h : sNf T ≤ 64) : (sTell2 T).length ≤ 1024 := by
  have h2 := zcat_len (f := sFrm T) (b := 3) (fun i => sFrm_len T i) (sNf T) 0
  unfold sTell2
  omega
theorem sTell3_len2 {T : ZD2} (I : zIv T) : (sTell3 T 0 (sL T)).length ≤ 1024 := by
  have := sTell3_len (T := T) (sL T) 0
  have := zsL_len I
  omega
/-- the text that the class has written -/
theorem yTX {D : ZD2} {t : List Int32} (h : t.length < 2147483648) : zTX (uTxs (zw D 18 1 (zi 0)) t) t := by
  have g := zTX_s (w := t) (t := []) (D := zw D 18 1 (zi 0)) (by rw [List.length_nil]; omega) ⟨zw_self _ _ _ _, fun i v hv => by simp at hv⟩
  rw [List.nil_append] at g
  exact g
section
variable {X : ZX} {n c m x h : Nat} {cL mL : List Value} {cod : List Nat} {ok : Value → Prop} {D T : ZD2} {k : Nat × Nat × Nat}
/-- a text written by both -/
theorem pr_tx {v : Value} {t : List Int32} (G : ygL n D T x h) (hv : ok v) (ht : t.length ≤ 1024) (hb : yby t) (hc : ∀ O : ZO2, ∃ E, zFrO D E ∧ zev X c 0 cL [] (zHP (zmt D 20 T) O, k) = some (.inl (some v), (zHP (zmt (uTxs (zw E 18 1 (zi 0)) t) 20 T) O, k))) (hm : ∀ (D1 : ZD2) (O : ZO2), ygMa n D1 T → ∃ D', zFrX D1 D' ∧ D' 168 0 = zi 0 ∧ zMT D' t ∧ zev X m 0 mL [] (zHP (zrow D1 172 (D1 172)) O, k) = some (.inl (some v), (zHP (zrow D' 172 (D1 172)) O, k))) : zPr n X c cL m mL cod ok D k := by
  intro O
  obtain ⟨E, f, c1⟩ := hc O
  have o : ∀ a, a ≠ 18 → a ≠ 19 → (a < 165 ∨ 167 < a) → uTxs (zw E 18 1 (zi 0)) t a = D a := fun a h1 h2 h3 => by
    rw [uTxs_o h1 h2, zw_row h1, f a (by omega) (by omega) (by omega)]
  have A' : ygA (uTxs (zw E 18 1 (zi 0)) t) 20 T := ygA_fr G.2.2.1.1 fun a h1 h2 => o a (by omega) (by omega) (by omega)
  rw [ygA_mt G.2.2.1.1, ygA_mt A'] at c1
  have tx := yTX (D := E) (t := t) (by omega)
  generalize hE : uTxs (zw E 18 1 (zi 0)) t = F at c1 o tx A'
  refine Or.inl ⟨v, F, c1, hv, fun O' => ?_⟩
  have co : yco D F := ⟨fun a ha => o a (by omega) (by omega) (by omega), fun j _ => by rw [o 168 (by omega) (by omega) (by omega)], fun j _ => by rw [o 172 (by omega) (by omega) (by omega)], zFin_fr (fun a h1 h2 => o a (by omega) (by omega) (by omega)) G.2.1.1⟩
  obtain ⟨D', d1, d2, d3, d4⟩ := hm F O' (ygMa_co co G.2.2.1)
  have e172 : D' 172 = F 172 := d1.1 172 (by omega) (by omega) (by omega) (by omega)
  have e : zrow D' 172 (F 172) = D' := by rw [← e172, zrow_id]
  rw [zrow_id, e] at d4
  refine ⟨D', d4, d2, ygG_mono (Or.inl ⟨T, x, h, ygL_co ?_ ?_ G⟩)⟩
  · exact ⟨fun a ha => (d1.1 a (by omega) (by omega) (by omega) (by omega)).trans (co.1 a ha), fun j hj => (d1.2 j (by omega) (by omega) (by omega) (by omega)).trans (co.2.1 j hj), fun j hj => by rw [e172]; exact co.2.2.1 j hj, zFin_fr (fun a h1 h2 => d1.1 a (by omega) (by omega) (by omega) (by omega)) co.2.2.2⟩
  · obtain ⟨g1, g2, g3⟩ := G.1
    have q : ∀ a, a ≠ 18 → a ≠ 19 → a ≠ 168 → a ≠ 173 → a ≠ 181 → a ≠ 182 → (a < 165 ∨ 167 < a) → D' a = D a := fun a h1 h2 h3 h4 h5 h6 h7 => (d1.1 a h3 h4 h5 h6).trans (o a h1 h2 h7)
    have q8 : ∀ j, j ≠ 0 → j ≠ 39 → j ≠ 40 → j ≠ 42 → D' 168 j = D 168 j := fun j h1 h2 h3 h4 => (d1.2 j h1 h2 h3 h4).trans (by rw [o 168 (by omega) (by omega) (by omega)])
    have e18 : D' 18 = F 18 := d1.1 18 (by omega) (by omega) (by omega) (by omega)
    have e19 : D' 19 = F 19 := d1.1 19 (by omega) (by omega) (by omega) (by omega)
    refine ⟨ygIn_cg g1 (q 2 (by omega) (by omega) (by omega) (by omega) (by omega) (by omega) (by omega)) (q 3 (by omega) (by omega) (by omega) (by omega) (by omega) (by omega) (by omega)) (q 176 (by omega) (by omega) (by omega) (by omega) (by omega) (by omega) (by omega)) (q8 17 (by omega) (by omega) (by omega) (by omega)), ⟨t, ⟨by rw [e18]; exact tx.1, by rw [e19]; exact tx.2⟩, d3, ht, hb⟩, ygEr_cg g3 (q 0 (by omega) (by omega) (by omega) (by omega) (by omega) (by omega) (by omega)) (q8 18 (by omega) (by omega) (by omega) (by omega)) (q8 19 (by omega) (by omega) (by omega) (by omega))⟩
end
section
variable {X : ZX} {n : Nat} {D : ZD2} {k : Nat × Nat × Nat}
theorem q146 {a1 : Int32} (G : ygG n D) : zPr n X 146 [.ref 0, .int a1] 274 [.ref 168, .int a1, zJ] [0, 1, 2] okI D k := by
  rcases G with ⟨T, x, h, G⟩ | ⟨x, G⟩
  rotate_left
  · exact pr_0 (e := 1) G (by decide) (fun O => (b146_0).trans (by rw [y119z G.2.2.2.1.1]; rfl)) (fun O => ymI (ym_th (m274n1 G.2.2.2.1.2)))
  have M := G.2.2.1
  have n6 := zIv_np6 (ygI M)
  rcases zdec (a := a1) (n := sNp T) (by omega) with ha | ⟨p, hp, rfl⟩
  · exact pr_no (e := 2) G (by decide) (fun O => ⟨D, (b146_0).trans (by rw [y119n M ha]; rfl), ycF_rfl G.2.1.1⟩) (fun D1 O G1 => ymI (ym_th (m274n2 (ygI G1.2.2.1) (ygS G1.2.2.1) (yg1 G1.2.2.1) ha)))
  exact pr_tx G ⟨_, rfl⟩ (sTell1_len (yPg M hp).2) yby_1 (fun O => ⟨D, zFrO_rfl, c146 (ygI M) M.2.1 hp⟩) (fun D1 O M1 => m274 (ygI M1) (ygS M1) (ygR M1) (ygNm M1) (yg1 M1) hp)
theorem q147 (G : ygG n D) : zPr n X 147 [.ref 0] 278 [.ref 168, zJ, zJ] [0, 1, 0] okI D k := by
  rcases G with ⟨T, x, h, G⟩ | ⟨x, G⟩
  rotate_left
  · exact pr_0 (e := 1) G (by decide) (fun O => (b147_0).trans (by rw [y114z G.2.2.2.1.1]; rfl)) (fun O => ymI (ym_th (m278n1 G.2.2.2.1.2)))
  have M := G.2.2.1
  exact pr_tx G ⟨_, rfl⟩ (sTell2_len (ygI M).1.2.2) yby_2 (fun O => ⟨D, zFrO_rfl, c147 (ygI M) M.2.1⟩) (fun D1 O M1 => m278 (ygI M1) (ygS M1) (ygR M1) (yg1 M1))
theorem q148 (G : ygG n D) : zPr n X 148 [.ref 0] 279 [.ref 168, zJ] [0, 1, 0] okI D k := by
  rcases G with ⟨T, x, h, G⟩ | ⟨x, G⟩
  rotate_left
  · exact pr_0 (e := 1) G (by decide) (fun O => (b148_0).trans (by rw [y114z G.2.2.2.1.1]; rfl)) (fun O => ymI (ym_th (m279n1 G.2.2.2.1.2)))
  have M := G.2.2.1
  exact pr_tx G ⟨_, rfl⟩ (sTell3_len2 (ygI M)) (yby_3 (ygI M) _ _ (fun r hr => (sL_all r hr).1)) (fun O => c148 (ygI M) (zIv_wok (ygI M)) M.2.1) (fun D1 O M1 => m279 (ygI M1) (ygS M1) (ygR M1) (ygNm M1) (yg1 M1))
end
