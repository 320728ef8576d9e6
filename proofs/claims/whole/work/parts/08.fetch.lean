/-! What the check says of an instruction that is fetched. -/
theorem zokA {μ : Nat} (h : μ < 353) : zokM μ = true := by
  have key : ∀ {a n : Nat}, (List.range' a n).all zokM = true → a ≤ μ → μ < a + n → zokM μ = true := fun h1 h2 h3 => List.all_eq_true.mp h1 μ (List.mem_range'_1.mpr ⟨h2, h3⟩)
  by_cases h0 : μ < 40
  · exact key zok_0 (by omega) (by omega)
  by_cases h1 : μ < 80
  · exact key zok_1 (by omega) (by omega)
  by_cases h2 : μ < 120
  · exact key zok_2 (by omega) (by omega)
  by_cases h3 : μ < 160
  · exact key zok_3 (by omega) (by omega)
  by_cases h4 : μ < 200
  · exact key zok_4 (by omega) (by omega)
  by_cases h5 : μ < 240
  · exact key zok_5 (by omega) (by omega)
  by_cases h6 : μ < 280
  · exact key zok_6 (by omega) (by omega)
  by_cases h7 : μ < 320
  · exact key zok_7 (by omega) (by omega)
  by_cases h8 : μ < 352
  · exact key zok_8 (by omega) (by omega)
  rw [show μ = 352 by omega]
  exact zok_l
theorem zliA {μ : Nat} (h : μ < 353) : zlinM μ = true := by
  have key : ∀ {a n : Nat}, (List.range' a n).all zlinM = true → a ≤ μ → μ < a + n → zlinM μ = true := fun h1 h2 h3 => List.all_eq_true.mp h1 μ (List.mem_range'_1.mpr ⟨h2, h3⟩)
  by_cases h0 : μ < 40
  · exact key zli_0 (by omega) (by omega)
  by_cases h1 : μ < 80
  · exact key zli_1 (by omega) (by omega)
  by_cases h2 : μ < 120
  · exact key zli_2 (by omega) (by omega)
  by_cases h3 : μ < 160
  · exact key zli_3 (by omega) (by omega)
  by_cases h4 : μ < 200
  · exact key zli_4 (by omega) (by omega)
  by_cases h5 : μ < 240
  · exact key zli_5 (by omega) (by omega)
  by_cases h6 : μ < 280
  · exact key zli_6 (by omega) (by omega)
  by_cases h7 : μ < 320
  · exact key zli_7 (by omega) (by omega)
  by_cases h8 : μ < 352
  · exact key zli_8 (by omega) (by omega)
  rw [show μ = 352 by omega]
  exact zli_l
theorem zlookup_mem {β : Type} {l : List (Nat × β)} {a : Nat} {b : β} (h : l.lookup a = some b) : (a, b) ∈ l := by
  induction l with
  | nil => cases h
  | cons q l ih =>
    obtain ⟨c, d⟩ := q
    rw [List.lookup_cons] at h
    split at h
    · rename_i hc
      cases h
      rw [show a = c by simpa using hc]
      exact List.mem_cons_self
    · exact List.mem_cons_of_mem _ (ih h)
theorem zgetD_mem {α : Type} {l : List α} {i : Nat} {d a : α} (h : l.getD i d = a) (hd : a ≠ d) : a ∈ l := by
  rw [List.getD_eq_getElem?_getD] at h
  cases e : l[i]? with
  | none => rw [e] at h; exact absurd h.symm hd
  | some b => rw [e] at h; rw [← h]; exact List.mem_of_getElem? e
theorem zfetch_mem {μ pc : Nat} {e : ZI} (h : zfetch μ pc = some e) : ∃ ch ∈ zcode.getD μ [], (pc, e) ∈ ch := by
  unfold zfetch at h
  have hm := zlookup_mem h
  refine ⟨_, zgetD_mem rfl ?_, hm⟩
  intro q
  rw [q] at hm
  cases hm
theorem zsw_at : ∀ q ∈ zsws, ∀ e : ZI, zfetch q.1 q.2 = some e → decode (zM q.1).2.1 q.2 = .ok (e.1, e.2.1) := by
  have key : ∀ (m pc : Nat) (i : Instr) (n : Nat), decode (zM m).2.1 pc = .ok (i, n) → (∃ k x y, zfetch m pc = some (i, n, k, x, y)) → ∀ e : ZI, zfetch m pc = some e → decode (zM m).2.1 pc = .ok (e.1, e.2.1) := by
    rintro m pc i n h1 ⟨k, x, y, h2⟩ e h3
    cases h2.symm.trans h3
    exact h1
  unfold zsws
  refine List.forall_mem_cons.mpr ⟨key _ _ _ _ zsw_0 ⟨_, _, _, rfl⟩, List.forall_mem_cons.mpr ⟨key _ _ _ _ zsw_1 ⟨_, _, _, rfl⟩, List.forall_mem_cons.mpr ⟨key _ _ _ _ zsw_2 ⟨_, _, _, rfl⟩, List.forall_mem_cons.mpr ⟨key _ _ _ _ zsw_3 ⟨_, _, _, rfl⟩, List.forall_mem_cons.mpr ⟨key _ _ _ _ zsw_4 ⟨_, _, _, rfl⟩, List.forall_mem_cons.mpr ⟨key _ _ _ _ zsw_5 ⟨_, _, _, rfl⟩, List.forall_mem_cons.mpr ⟨key _ _ _ _ zsw_6 ⟨_, _, _, rfl⟩, List.forall_mem_cons.mpr ⟨key _ _ _ _ zsw_7 ⟨_, _, _, rfl⟩, List.forall_mem_cons.mpr ⟨key _ _ _ _ zsw_8 ⟨_, _, _, rfl⟩, List.forall_mem_cons.mpr ⟨key _ _ _ _ zsw_9 ⟨_, _, _, rfl⟩, List.forall_mem_cons.mpr ⟨key _ _ _ _ zsw_10 ⟨_, _, _, rfl⟩, fun _ h => absurd h List.not_mem_nil⟩⟩⟩⟩⟩⟩⟩⟩⟩⟩⟩
/-- all that the check says of a fetched instruction -/
theorem zfetch_ok {μ pc : Nat} {e : ZI} (hμ : μ < 353) (h : zfetch μ pc = some e) : decode (zM μ).2.1 pc = .ok (e.1, e.2.1) ∧ (zlen e.1 = 0 ∨ zlen e.1 = e.2.1) ∧ zokm μ pc e = true := by
  obtain ⟨ch, h1, h2⟩ := zfetch_mem h
  have hk := List.all_eq_true.mp (List.all_eq_true.mp (zokA hμ) ch h1) (pc, e) h2
  have hk : ((zlen e.1 == 0 || zlen e.1 == e.2.1) && zokm μ pc e) = true := hk
  rw [Bool.and_eq_true] at hk
  refine ⟨?_, by simpa using hk.1, hk.2⟩
  cases hs : zskip e.1 with
  | false =>
    refine zlin_ok _ 0 _ (zliA hμ) (fun j a hj => ?_) (pc, e) (List.mem_flatten.mpr ⟨ch, h1, h2⟩) hs
    rw [Nat.zero_add]
    unfold zbn
    rw [← List.getElem?_map]
    exact hj
  | true =>
    have h3 := List.all_eq_true.mp (List.all_eq_true.mp (List.all_eq_true.mp zsw_all μ (List.mem_range.mpr hμ)) ch h1) (pc, e) h2
    have h3 : (!zskip e.1 || zsws.contains (μ, pc)) = true := h3
    rw [hs] at h3
    have h3 : (μ, pc) ∈ zsws := by simpa using h3
    exact zsw_at _ h3 e h
