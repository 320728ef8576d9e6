/-! What the JVM's heap and locals hold, when the small machine's are so; steps on locals, stack and program counter. -/
theorem zcl_get {x : Nat} (h : x < 9) : zcl[x]? = some (zC x) := by
  have : ∀ y, y < 9 → zcl[y]?.map (fun c => c.1) = some (zC y).1 := by decide +kernel
  match x, h with
  | 0, _ => rfl
  | 1, _ => rfl
  | 2, _ => rfl
  | 3, _ => rfl
  | 4, _ => rfl
  | 5, _ => rfl
  | 6, _ => rfl
  | 7, _ => rfl
  | 8, _ => rfl
theorem zLL_all : ∀ x, x < 9 → ∀ k, k < (zC x).2.2 → (x, k) ∈ zLL := by decide +kernel
theorem zlay_in {x : Nat} (h : x < 9) : ∀ w ∈ u_ws (zC x).1 (zC x).2.1 (zC x).2.2, w ∈ zGW := by
  intro w hw
  obtain ⟨k, hk, rfl⟩ := List.mem_map.mp hw
  exact zwL_in _ (List.mem_map.mpr ⟨(x, k), zLL_all x h k (List.mem_range.mp hk), rfl⟩)
def zty (x : Nat) : Nat → FieldType := zTys.getD x fun _ => .byte
theorem zty_ok : ∀ x, x < 9 → ∀ k, k < (zC x).2.2 → parseFieldDescriptor ((zC x).2.1 k).2.2.1 = some (zty x k) := by decide +kernel
theorem znm_ok : ∀ x, x < 9 → ∀ a, a < (zC x).2.2 → ∀ b, b < (zC x).2.2 → a ≠ b → ((zC x).2.1 a).2.1 ≠ ((zC x).2.1 b).2.1 := by decide +kernel
theorem zdef_len : ∀ x, x < 9 → (zdef.getD x []).length = (zC x).2.2 := by decide +kernel
theorem zdef_ok : ∀ x, x < 9 → ∀ k, k < (zC x).2.2 → defaultValue (zty x k) = vp_V (zdef.getD x []) k := by decide +kernel
/-- a value, with addresses for the numbers of objects and of texts -/
def zcv (tx ad : Nat → Nat) : Value → Value
  | .ref i => .ref (ad i)
  | .retAddr k => .ref (tx k)
  | .int x => .int x
  | .long x => .long x
  | .float x => .float x
  | .double x => .double x
  | .null => .null
theorem zcv_cat (tx ad : Nat → Nat) (v : Value) : (zcv tx ad v).category = v.category := by cases v <;> rfl
def zcR (ad : Nat → Nat) (a : (Nat → Int32) ⊕ (Nat → Int64) ⊕ (Nat → UInt32) ⊕ (Nat → UInt64) ⊕ (Nat → Option Nat)) : (Nat → Int32) ⊕ (Nat → Int64) ⊕ (Nat → UInt32) ⊕ (Nat → UInt64) ⊕ (Nat → Option Nat) := match a with
  | .inl f => .inl f
  | .inr (.inl f) => .inr (.inl f)
  | .inr (.inr (.inl f)) => .inr (.inr (.inl f))
  | .inr (.inr (.inr (.inl f))) => .inr (.inr (.inr (.inl f)))
  | .inr (.inr (.inr (.inr f))) => .inr (.inr (.inr (.inr fun j => (f j).map ad)))
abbrev ZD : Type := va_G × (Nat → ClassId)
def zcE (D : ZD) (tx ad : Nat → Nat) (e : ZE) : va_E := match e with
  | .inl a => .inl (D.2 a.1, a.2.1, zcR ad a.2.2)
  | .inr o => .inr (o.1, o.2.map (zcv tx ad))
def zws (D : ZD) (tx ad : Nat → Nat) (h : ZH) (nx : Nat) : va_W := (List.range nx).map fun i => (ad i, zcE D tx ad (h i))
def zokV (nx : Nat) : Value → Prop
  | .ref i => i < nx
  | _ => True
def zokR (nx : Nat) (a : (Nat → Int32) ⊕ (Nat → Int64) ⊕ (Nat → UInt32) ⊕ (Nat → UInt64) ⊕ (Nat → Option Nat)) : Prop := match a with
  | .inr (.inr (.inr (.inr f))) => ∀ j b, f j = some b → b < nx
  | _ => True
def zokE (nx : Nat) (e : ZE) : Prop := match e with
  | .inl a => zokR nx a.2.2
  | .inr o => ∀ v ∈ o.2, zokV nx v
def zokL (nx : Nat) (L : List Value) : Prop := ∀ v ∈ L, zokV nx v
/-- the heap H holds the small machine's heap -/
def zrep (D : ZD) (tx ad : Nat → Nat) (A : Nat → Prop) (S : ZS) (H : Heap) : Prop :=
  va_P D.1 zcl (zws D tx ad S.1 S.2.1) H ∧ va_D A (zws D tx ad S.1 S.2.1) ∧ (∀ i, S.2.1 ≤ i → S.1 i = zNo) ∧ ∀ i, zokE S.2.1 (S.1 i)
def ztys (D : ZD) : List (ClassId × FieldType) := [(D.2 0, .int), (D.2 1, .long), (D.2 2, .float), (D.2 3, .double), (D.2 4, .boolean), (D.2 5, .object "SparePager$Machine")]
theorem zws_get {D : ZD} {tx ad : Nat → Nat} {h : ZH} {nx i : Nat} (hi : i < nx) : (zws D tx ad h nx)[i]? = some (ad i, zcE D tx ad (h i)) := by
  unfold zws
  rw [List.getElem?_map, List.getElem?_range hi]
  rfl
theorem zws_set {D : ZD} {tx ad : Nat → Nat} {h : ZH} {nx i : Nat} (e : ZE) : (zws D tx ad h nx).set i (ad i, zcE D tx ad e) = zws D tx ad (zset h i e) nx := by
  apply List.ext_getElem?
  intro k
  unfold zws
  rw [List.getElem?_set, List.getElem?_map, List.getElem?_map]
  by_cases hk : i = k
  · subst hk
    by_cases hl : i < nx
    · simp [hl, zset]
    · simp [hl]
  · rw [if_neg hk]
    by_cases hl : k < nx
    · simp [hl, zset, Ne.symm hk]
    · simp [hl]
theorem zokV_le {n m : Nat} (h : n ≤ m) {v : Value} (hv : zokV n v) : zokV m v := by
  cases v <;> first | trivial | exact Nat.lt_of_lt_of_le hv h
theorem zokE_le {n m : Nat} (h : n ≤ m) {e : ZE} (he : zokE n e) : zokE m e := by
  obtain ⟨t, k, f | f | f | f | f⟩ | o := e
  · trivial
  · trivial
  · trivial
  · trivial
  · exact fun j b hb => Nat.lt_of_lt_of_le (he j b hb) h
  · exact fun v hv => zokV_le h (he v hv)
theorem zcv_ext {tx ad ad' : Nat → Nat} {nx : Nat} (h : ∀ i, i < nx → ad' i = ad i) {v : Value} (hv : zokV nx v) : zcv tx ad' v = zcv tx ad v := by
  cases v <;> first | rfl | exact congrArg Value.ref (h _ hv)
theorem zcE_ext {D : ZD} {tx ad ad' : Nat → Nat} {nx : Nat} (h : ∀ i, i < nx → ad' i = ad i) {e : ZE} (he : zokE nx e) : zcE D tx ad' e = zcE D tx ad e := by
  obtain ⟨t, k, f | f | f | f | f⟩ | o := e
  · rfl
  · rfl
  · rfl
  · rfl
  · show Sum.inl (D.2 t, k, Sum.inr (Sum.inr (Sum.inr (Sum.inr fun j => (f j).map ad')))) = Sum.inl (D.2 t, k, Sum.inr (Sum.inr (Sum.inr (Sum.inr fun j => (f j).map ad))))
    congr 7
    funext j
    cases e : f j with
    | none => rfl
    | some b => exact congrArg some (h b (he j b e))
  · show Sum.inr (o.1, o.2.map (zcv tx ad')) = Sum.inr (o.1, o.2.map (zcv tx ad))
    congr 2
    exact List.map_congr_left fun v hv => zcv_ext h (he v hv)
theorem zmap_ext {tx ad ad' : Nat → Nat} {nx : Nat} (h : ∀ i, i < nx → ad' i = ad i) {L : List Value} (hL : zokL nx L) : L.map (zcv tx ad') = L.map (zcv tx ad) := List.map_congr_left fun v hv => zcv_ext h (hL v hv)
/-- one cell more -/
theorem zws_push {D : ZD} {tx ad : Nat → Nat} {h : ZH} {nx a : Nat} {e : ZE} (hok : ∀ i, zokE nx (h i)) (he : zokE nx e) :
    zws D tx ad h nx ++ [(a, zcE D tx ad e)] = zws D tx (va_up ad nx a) (zset h nx e) (nx + 1) := by
  have hx : ∀ i, i < nx → va_up ad nx a i = ad i := fun i hi => va_up_ne _ _ (Nat.ne_of_lt hi)
  unfold zws
  rw [List.range_succ, List.map_append, List.map_singleton, va_up_self]
  congr 1
  · refine List.map_congr_left fun i hi => ?_
    have hi := List.mem_range.mp hi
    rw [hx i hi, zset, if_neg (Nat.ne_of_lt hi), zcE_ext hx (hok i)]
  · rw [zset, if_pos rfl, zcE_ext hx he]
-- locals
def zlv (tx ad : Nat → Nat) (L : List Value) : List (Nat × Value) := (List.range L.length).filterMap fun i => match L[i]? with
  | some v => if zmark v = true then none else some (i, zcv tx ad v)
  | none => none
def zloc (tx ad : Nat → Nat) (L : List Value) (ls : Array Slot) : Prop := lv_has ls L.length (zlv tx ad L)
theorem zlv_mem {tx ad : Nat → Nat} {L : List Value} {i : Nat} {w : Value} : (i, w) ∈ zlv tx ad L ↔ ∃ v, L[i]? = some v ∧ zmark v = false ∧ w = zcv tx ad v := by
  unfold zlv
  rw [List.mem_filterMap]
  constructor
  · rintro ⟨j, hj, h⟩
    split at h
    · rename_i v hv
      split at h
      · cases h
      · rename_i hm
        cases h
        exact ⟨v, hv, by simpa using hm, rfl⟩
    · cases h
  · rintro ⟨v, hv, hm, rfl⟩
    refine ⟨i, List.mem_range.mpr (List.getElem?_eq_some_iff.mp hv).1, ?_⟩
    rw [hv]
    simp [hm]
theorem zloc_at {tx ad : Nat → Nat} {L : List Value} {ls : Array Slot} (h : zloc tx ad L ls) {i : Nat} {v : Value} (hv : L[i]? = some v) (hm : zmark v = false) : ls[i]? = some (.val (zcv tx ad v)) :=
  h.2.2 (i, zcv tx ad v) (zlv_mem.mpr ⟨v, hv, hm, rfl⟩)
theorem zldi_at {tx ad : Nat → Nat} {L : List Value} {ls : Array Slot} (h : zloc tx ad L ls) {i : Nat} {x : Int32} (e : zldi L i = some x) : L[i]? = some (.int x) ∧ ls[i]? = some (.val (.int x)) := by
  unfold zldi at e
  split at e
  · rename_i y hy
    cases e
    exact ⟨hy, zloc_at h hy rfl⟩
  · cases e
theorem zldl_at {tx ad : Nat → Nat} {L : List Value} {ls : Array Slot} (h : zloc tx ad L ls) {i : Nat} {x : Int64} (e : zldl L i = some x) : ls[i]? = some (.val (.long x)) := by
  unfold zldl at e
  split at e
  · rename_i y hy
    cases e
    exact zloc_at h hy rfl
  · cases e
theorem zldf_at {tx ad : Nat → Nat} {L : List Value} {ls : Array Slot} (h : zloc tx ad L ls) {i : Nat} {x : UInt32} (e : zldf L i = some x) : ls[i]? = some (.val (.float x)) := by
  unfold zldf at e
  split at e
  · rename_i y hy
    cases e
    exact zloc_at h hy rfl
  · cases e
theorem zldd_at {tx ad : Nat → Nat} {L : List Value} {ls : Array Slot} (h : zloc tx ad L ls) {i : Nat} {x : UInt64} (e : zldd L i = some x) : ls[i]? = some (.val (.double x)) := by
  unfold zldd at e
  split at e
  · rename_i y hy
    cases e
    exact zloc_at h hy rfl
  · cases e
theorem zlda_in {L : List Value} {i : Nat} {v : Value} (e : zlda L i = some v) : L[i]? = some v ∧ zisr v = true := by
  unfold zlda at e
  split at e
  · rename_i w hw
    split at e
    · rename_i hr
      cases e
      exact ⟨hw, hr⟩
    · cases e
  · cases e
theorem zlda_at {tx ad : Nat → Nat} {L : List Value} {ls : Array Slot} (h : zloc tx ad L ls) {i : Nat} {v : Value} (e : zlda L i = some v) : ∃ a, zcv tx ad v = .ref a ∧ ls[i]? = some (.val (.ref a)) := by
  obtain ⟨hw, hr⟩ := zlda_in e
  cases v with
  | ref a => exact ⟨ad a, rfl, zloc_at h hw rfl⟩
  | retAddr k =>
    have hk : k < 1000 := by simpa [zisr] using hr
    exact ⟨tx k, rfl, zloc_at h hw (by simp [zmark]; omega)⟩
  | _ => simp [zisr] at hr
theorem zprev_spec {L : List Value} {i j : Nat} {v : Value} (h : zprev L i = true) (hj : j + 1 = i) (hv : L[j]? = some v) : v.category = 1 := by
  subst hj
  simp only [zprev, hv] at h
  simpa using h
/-- a store of one slot, or of the mark -/
theorem zst1_at {tx ad : Nat → Nat} {L L' : List Value} {ls : Array Slot} {i : Nat} {v w : Value} (h : zloc tx ad L ls) (e : zst1 L i v = some L') (hm : zmark v = true ∨ zcv tx ad v = w) :
    i < L.length ∧ ∀ ls' : Array Slot, lv_has ls' L.length ((i, w) :: (zlv tx ad L).filter (fun q => !(q.1 == i) && !(q.1 + 1 == i && q.2.category == 2))) → zloc tx ad L' ls' := by
  unfold zst1 at e
  split at e
  · rename_i hc
    cases e
    refine ⟨hc.1, fun ls' hl => ⟨by rw [List.length_set]; exact hl.1, hl.2.1, ?_⟩⟩
    rintro ⟨j, u⟩ hq
    obtain ⟨z, h1, h2, h3⟩ := zlv_mem.mp hq
    subst h3
    by_cases hj : i = j
    · subst hj
      rw [List.getElem?_set_self hc.1] at h1
      cases h1
      rcases hm with hm | hm
      · rw [hm] at h2; cases h2
      · rw [hm]
        exact hl.2.2 _ List.mem_cons_self
    · rw [List.getElem?_set_ne hj] at h1
      refine hl.2.2 _ (List.mem_cons_of_mem _ (List.mem_filter.mpr ⟨zlv_mem.mpr ⟨z, h1, h2, rfl⟩, ?_⟩))
      simp only [Bool.and_eq_true, Bool.not_eq_true', beq_eq_false_iff_ne, ne_eq, Bool.and_eq_false_iff]
      refine ⟨fun q => hj q.symm, ?_⟩
      by_cases hp : j + 1 = i
      · right
        rw [zcv_cat, zprev_spec hc.2 hp h1]
        decide
      · exact Or.inl hp
  · cases e
theorem zst2_at {tx ad : Nat → Nat} {L L' : List Value} {ls : Array Slot} {i : Nat} {v w : Value} (h : zloc tx ad L ls) (e : zst2 L i v = some L') (hw : zcv tx ad v = w) :
    i + 1 < L.length ∧ ∀ ls' : Array Slot, lv_has ls' L.length ((i, w) :: (zlv tx ad L).filter (fun q => !(q.1 == i) && (!(q.1 == i + 1) && !(q.1 + 1 == i && q.2.category == 2)))) → zloc tx ad L' ls' := by
  unfold zst2 at e
  split at e
  · rename_i hc
    cases e
    refine ⟨hc.1, fun ls' hl => ⟨by rw [List.length_set, List.length_set]; exact hl.1, hl.2.1, ?_⟩⟩
    rintro ⟨j, u⟩ hq
    obtain ⟨z, h1, h2, h3⟩ := zlv_mem.mp hq
    subst h3
    by_cases hj2 : i + 1 = j
    · subst hj2
      rw [List.getElem?_set_self (by rw [List.length_set]; exact hc.1)] at h1
      cases h1
      simp [zmark, zJ] at h2
    · rw [List.getElem?_set_ne hj2] at h1
      by_cases hj : i = j
      · subst hj
        rw [List.getElem?_set_self (by omega)] at h1
        cases h1
        rw [hw]
        exact hl.2.2 _ List.mem_cons_self
      · rw [List.getElem?_set_ne hj] at h1
        refine hl.2.2 _ (List.mem_cons_of_mem _ (List.mem_filter.mpr ⟨zlv_mem.mpr ⟨z, h1, h2, rfl⟩, ?_⟩))
        simp only [Bool.and_eq_true, Bool.not_eq_true', beq_eq_false_iff_ne, ne_eq, Bool.and_eq_false_iff]
        refine ⟨fun q => hj q.symm, fun q => hj2 q.symm, ?_⟩
        by_cases hp : j + 1 = i
        · right
          rw [zcv_cat, zprev_spec hc.2 hp h1]
          decide
        · exact Or.inl hp
  · cases e
