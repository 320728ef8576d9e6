/-! What stays of values and facts, step by step. -/
theorem zst1_ok {n i : Nat} {L L' : List Value} {v : Value} (h : zst1 L i v = some L') (hL : zokL n L) (hv : zokV n v) : zokL n L' ∧ L'.length = L.length := by
  unfold zst1 at h
  split at h
  · cases h
    refine ⟨fun u hu => ?_, List.length_set⟩
    rcases List.mem_or_eq_of_mem_set hu with q | q
    · exact hL u q
    · rw [q]; exact hv
  · cases h
theorem zst2_ok {n i : Nat} {L L' : List Value} {v : Value} (h : zst2 L i v = some L') (hL : zokL n L) (hv : zokV n v) : zokL n L' ∧ L'.length = L.length := by
  unfold zst2 at h
  split at h
  · cases h
    refine ⟨fun u hu => ?_, by rw [List.length_set, List.length_set]⟩
    rcases List.mem_or_eq_of_mem_set hu with q | q
    · rcases List.mem_or_eq_of_mem_set q with q | q
      · exact hL u q
      · rw [q]; exact hv
    · rw [q]; exact trivial
  · cases h
theorem zlda_ok {n i : Nat} {L : List Value} {v : Value} (h : zlda L i = some v) (hL : zokL n L) : zokV n v := hL v (List.mem_of_getElem? (zlda_in h).1)
set_option maxHeartbeats 4000000 in
theorem zpure_ok {ins : Instr} {x n : Nat} {L st L' st' : List Value} (h : zpure ins x L st = some (L', st')) (hL : zokL n L) (hst : zokL n st) : (zokL n L' ∧ L'.length = L.length) ∧ zokL n st' := by
  have t1 : ∀ {v : Value} {st : List Value}, zokL n (v :: st) → zokL n st := fun h => (zokL_cons.mp h).2
  have c1 : ∀ {v : Value} {st : List Value}, zokV n v → zokL n st → zokL n (v :: st) := fun h1 h2 => zokL_cons.mpr ⟨h1, h2⟩
  unfold zpure at h
  split at h
  all_goals first
    | (cases h; done)
    | (cases h; exact ⟨⟨hL, rfl⟩, c1 trivial hst⟩)
    | (cases h; exact ⟨⟨hL, rfl⟩, c1 trivial (t1 hst)⟩)
    | (cases h; exact ⟨⟨hL, rfl⟩, c1 trivial (t1 (t1 hst))⟩)
    | (obtain ⟨v, h1, h2⟩ := zbind_eq.mp h
       first
         | (cases h2; exact ⟨⟨hL, rfl⟩, c1 trivial hst⟩)
         | (cases h2; exact ⟨⟨hL, rfl⟩, c1 (zlda_ok h1 hL) hst⟩)
         | (cases h2; exact ⟨zst1_ok h1 hL (zokL_cons.mp hst).1, t1 hst⟩)
         | (cases h2; exact ⟨zst2_ok h1 hL (zokL_cons.mp hst).1, t1 hst⟩)
         | (obtain ⟨u, h3, h4⟩ := zbind_eq.mp h2
            cases h4
            exact ⟨zst1_ok h3 hL trivial, hst⟩))
    | (split at h
       · first
           | (cases h; exact ⟨⟨hL, rfl⟩, c1 trivial hst⟩)
           | (cases h; exact ⟨⟨hL, rfl⟩, c1 trivial (t1 hst)⟩)
           | (cases h; exact ⟨⟨hL, rfl⟩, c1 trivial (t1 (t1 hst))⟩)
           | (cases h; exact ⟨⟨hL, rfl⟩, c1 (zokL_cons.mp hst).1 hst⟩)
           | (cases h; exact ⟨⟨hL, rfl⟩, c1 (zokL_cons.mp hst).1 (c1 (zokL_cons.mp (t1 hst)).1 hst)⟩)
           | (cases h; exact ⟨⟨hL, rfl⟩, t1 hst⟩)
           | (cases h; done)
       · first
           | (cases h; exact ⟨⟨hL, rfl⟩, c1 trivial (t1 (t1 hst))⟩)
           | (cases h; done))
theorem zjump_ok {ins : Instr} {pc pc' n : Nat} {st st' : List Value} (h : zjump ins pc st = some (pc', st')) (hst : zokL n st) : zokL n st' := by
  have t1 : ∀ {v : Value} {st : List Value}, zokL n (v :: st) → zokL n st := fun h => (zokL_cons.mp h).2
  unfold zjump at h
  split at h
  · split at h
    · cases h; exact hst
    · cases h
  · obtain ⟨-, -, h3⟩ := zzif_eq h
    rw [h3]; exact t1 hst
  · obtain ⟨-, -, h3⟩ := zzif_eq h
    rw [h3]; exact t1 (t1 hst)
  · cases h; exact t1 hst
  · split at h
    · cases h; exact t1 hst
    · cases h
  · obtain ⟨a, h1, h2⟩ := zbind_eq.mp h
    cases h2; exact t1 hst
  · obtain ⟨a, h1, h2⟩ := zbind_eq.mp h
    cases h2; exact t1 hst
  · cases h
theorem zheap_grow {ins : Instr} {x y : Nat} {st st' : List Value} {S S' : ZS} (h : zheap ins x y st S = some (st', S')) : S.2.1 ≤ S'.2.1 ∧ S.2.2.1 ≤ S'.2.2.1 ∧ S.2.2.2 ≤ S'.2.2.2 := by
  have rf : ∀ h : ZH, S.2.1 ≤ ((h, S.2) : ZS).2.1 ∧ S.2.2.1 ≤ ((h, S.2) : ZS).2.2.1 ∧ S.2.2.2 ≤ ((h, S.2) : ZS).2.2.2 := fun _ => ⟨Nat.le_refl _, Nat.le_refl _, Nat.le_refl _⟩
  unfold zheap at h
  split at h
  all_goals first
    | (cases h; done)
    | (obtain ⟨v, h1, h2⟩ := zbind_eq.mp h
       first
         | (cases h2; exact rf S.1)
         | (cases h2; exact rf _)
         | (cases h2; exact ⟨Nat.le_succ _, Nat.le_succ _, Nat.le_add_right _ _⟩)
         | (split at h2
            · cases h2; exact ⟨Nat.le_succ _, Nat.le_succ _, Nat.le_add_right _ _⟩
            · cases h2))
    | (split at h
       · first
           | (cases h; exact ⟨Nat.le_succ _, Nat.le_succ _, Nat.le_add_right _ _⟩)
           | (obtain ⟨v, h1, h2⟩ := zbind_eq.mp h
              cases h2
              exact rf _)
       · cases h)
theorem znat_ok {x n : Nat} {st st' : List Value} {S S' : ZS} (h : znat x st S = some (st', S')) (hst : zokL n st) : S'.2 = S.2 ∧ zokL n st' := by
  have t1 : ∀ {v : Value} {st : List Value}, zokL n (v :: st) → zokL n st := fun h => (zokL_cons.mp h).2
  unfold znat at h
  split at h
  · cases h; exact ⟨rfl, t1 hst⟩
  · obtain ⟨v, h1, h2⟩ := zbind_eq.mp h
    cases h2; exact ⟨rfl, fun _ h => by cases h⟩
  · obtain ⟨v, h1, h2⟩ := zbind_eq.mp h
    cases h2; exact ⟨rfl, zokL_cons.mpr ⟨trivial, t1 hst⟩⟩
  · obtain ⟨v, h1, h2⟩ := zbind_eq.mp h
    split at h2
    · cases h2
    · obtain ⟨v, h3, h4⟩ := zbind_eq.mp h2
      cases h4; exact ⟨rfl, zokL_cons.mpr ⟨trivial, t1 (t1 hst)⟩⟩
  · cases h; exact ⟨rfl, zokL_cons.mpr ⟨trivial, t1 (t1 hst)⟩⟩
  · cases h; exact ⟨rfl, zokL_cons.mpr ⟨trivial, t1 (t1 hst)⟩⟩
  · cases h
theorem zscr_ok {X : ZX} {ins : Instr} {n : Nat} {st st' : List Value} (h : zscr X ins st = some st') (hst : zokL n st) : zokL n st' := by
  have t1 : ∀ {v : Value} {st : List Value}, zokL n (v :: st) → zokL n st := fun h => (zokL_cons.mp h).2
  unfold zscr at h
  split at h
  · split at h
    · cases h; exact zokL_cons.mpr ⟨trivial, t1 hst⟩
    · cases h
  · split at h
    · cases h; exact zokL_cons.mpr ⟨trivial, t1 (t1 hst)⟩
    · cases h
  · cases h
section ZGR
variable {X : ZX}
theorem zback_grow {F : Nat → List Value → List Value → ZS → Option ZR} (hF : ∀ pc L st (S : ZS) (r : ZR), F pc L st S = some r → S.2.1 ≤ r.2.2.1 ∧ S.2.2.1 ≤ r.2.2.2.1 ∧ S.2.2.2 ≤ r.2.2.2.2) {μ pc len : Nat} {L rest : List Value} {q r : ZR} (h : zback F μ pc len L rest q = some r) : q.2.2.1 ≤ r.2.2.1 ∧ q.2.2.2.1 ≤ r.2.2.2.1 ∧ q.2.2.2.2 ≤ r.2.2.2.2 := by
  unfold zback at h
  split at h
  · exact hF _ _ _ _ _ h
  · split at h
    · cases h; exact ⟨Nat.le_refl _, Nat.le_refl _, Nat.le_refl _⟩
    · simp only [zbind_eq] at h
      obtain ⟨a, -, c, -, h3⟩ := h
      split at h3
      · obtain ⟨L', -, h5⟩ := zbind_eq.mp h3
        exact hF _ _ _ _ _ h5
      · obtain ⟨L', -, h5⟩ := zbind_eq.mp h3
        exact hF _ _ _ _ _ h5
      · cases h3
theorem znat_grow {x : Nat} {st st' : List Value} {S S' : ZS} (h : znat x st S = some (st', S')) : S'.2 = S.2 := by
  unfold znat at h
  split at h
  · cases h; rfl
  · obtain ⟨v, h1, h2⟩ := zbind_eq.mp h
    cases h2; rfl
  · obtain ⟨v, h1, h2⟩ := zbind_eq.mp h
    cases h2; rfl
  · obtain ⟨v, h1, h2⟩ := zbind_eq.mp h
    split at h2
    · cases h2
    · obtain ⟨v, h3, h4⟩ := zbind_eq.mp h2
      cases h4; rfl
  · cases h; rfl
  · cases h; rfl
  · cases h
theorem zexec_grow : ∀ (f μ pc : Nat) (L st : List Value) (S : ZS) (r : ZR), zexec X f μ pc L st S = some r → S.2.1 ≤ r.2.2.1 ∧ S.2.2.1 ≤ r.2.2.2.1 ∧ S.2.2.2 ≤ r.2.2.2.2 := by
  intro f
  induction f with
  | zero => intro μ pc L st S r h; cases h
  | succ f ih =>
    intro μ pc L st S r h
    rw [zexec] at h
    obtain ⟨e, he, h⟩ := zbind_eq.mp h
    split at h
    · obtain ⟨a, h1, h2⟩ := zbind_eq.mp h
      exact ih _ _ _ _ _ _ h2
    · obtain ⟨⟨st', S'⟩, h1, h2⟩ := zbind_eq.mp h
      obtain ⟨g1, g2, g3⟩ := zheap_grow h1
      obtain ⟨g4, g5, g6⟩ := ih _ _ _ _ _ _ h2
      exact ⟨Nat.le_trans g1 g4, Nat.le_trans g2 g5, Nat.le_trans g3 g6⟩
    · obtain ⟨a, h1, h2⟩ := zbind_eq.mp h
      exact ih _ _ _ _ _ _ h2
    · obtain ⟨a, h1, h2⟩ := zbind_eq.mp h
      cases h2; exact ⟨Nat.le_refl _, Nat.le_refl _, Nat.le_refl _⟩
    · split at h
      · obtain ⟨a, h1, h2⟩ := zbind_eq.mp h
        obtain ⟨g1, g2, g3⟩ := ih _ _ _ _ _ _ h1
        obtain ⟨g4, g5, g6⟩ := zback_grow (fun pc L st S r h => ih _ _ _ _ _ _ h) h2
        exact ⟨Nat.le_trans g1 g4, Nat.le_trans g2 g5, Nat.le_trans g3 g6⟩
      · cases h
    · split at h
      · cases h; exact ⟨Nat.le_refl _, Nat.le_succ _, Nat.le_add_right _ _⟩
      · cases h
    · split at h
      · obtain ⟨⟨st', S'⟩, h1, h2⟩ := zbind_eq.mp h
        have g := znat_grow h1
        have g4 := ih _ _ _ _ _ _ h2
        rw [g] at g4
        exact g4
      · cases h
    · obtain ⟨a, h1, h2⟩ := zbind_eq.mp h
      exact ih _ _ _ _ _ _ h2
    · obtain ⟨a, h1, h2⟩ := zbind_eq.mp h
      exact ih _ _ _ _ _ _ h2
    · cases h
end ZGR
def zDN : List String := ["java/lang/Throwable", "java/lang/Exception", "java/lang/RuntimeException"]
/-- what the walk takes of the tables and of the start, wherever it stands -/
def zfacts (tx : Nat → Nat) (A : Nat → Prop) (U : State) : Prop :=
  vx_Zq Bundle.tN "UNASSIGNED_STACK" Bundle.steD A U U.heap ∧ vx_Zq Bundle.tN "SUPPRESSED_SENTINEL" Bundle.listD A U U.heap ∧
  (∀ q ∈ zLT, ∃ t, vk_R (zO q.1) q.2.1 t (tx q.2.2) U) ∧ (∀ q ∈ zLS, q.1 = 7 → ∃ a, vk_R (zO 7) q.2.1 q.2.2 a U) ∧
  (∀ q ∈ zLN, va_Nw (.methodLinkNest (zO q.1) q.2.1 (zM q.2.2).1 "SparePager") U) ∧ (∀ k, k < 3 → va_Nw (.castable (zE k) (zE k)) U) ∧ (∀ k j, k < 3 → j < 3 → k ≠ j → va_Nc (zE k) (zE j) U) ∧ va_AO "SparePager$Machine" U ∧
  (∀ k t, ztxt[k]? = some t → ∃ b, zjs (tx k) b t A U U.heap) ∧ ∀ n ∈ zDN, va_Nw (.declares ⟨n, "<init>", "(Ljava/lang/String;)V"⟩) U
theorem zfacts_moved {tx : Nat → Nat} {A B : Nat → Prop} {U V : State} (hW : U.WarmedH V.vm) (hk : ∀ a : Nat, a < U.heap.size → ¬ A a → V.heap[a]? = U.heap[a]?) (hAB : ∀ q, B q → A q) (h : zfacts tx A U) : zfacts tx B V := by
  obtain ⟨h1, h2, h3, h4, h5, h6, h7, h8, h9, h10⟩ := h
  refine ⟨((h1.kept hk).moved hW.alike).narrow hAB, ((h2.kept hk).moved hW.alike).narrow hAB, fun q hq => ?_, fun q hq h7 => ?_, fun q hq => va_Nw.warmM hW (h5 q hq), fun k hk => va_Nw.warmC hW (h6 k hk), fun k j hk hj hn => va_Nc.moved hW.alike (h7 k j hk hj hn), h8.moved hW.alike, fun k t ht => ?_, fun n hn => va_Nw.warmD hW (h10 n hn)⟩
  · obtain ⟨t, ht⟩ := h3 q hq
    exact ⟨t, ht.warm hW⟩
  · obtain ⟨t, ht⟩ := h4 q hq h7
    exact ⟨t, ht.warm hW⟩
  · obtain ⟨b, hb⟩ := h9 k t ht
    exact ⟨b, ((hb.kept hk).moved hW.alike).narrow hAB⟩
/-- the locals of an entry -/
theorem zargsL_at {tx ad : Nat → Nat} : ∀ (vs : List Value) (k i : Nat) (v : Value), (zargsL vs)[i]? = some v → zmark v = false → (k + i, zcv tx ad v) ∈ lv_args k (vs.map (zcv tx ad))
  | [], k, i, v, h, _ => by cases i <;> cases h
  | w :: vs, k, i, v, h, hm => by
    have ih := zargsL_at (tx := tx) (ad := ad) vs
    rw [zargsL] at h
    rw [List.map_cons, lv_args, zcv_cat]
    by_cases hc : w.category = 2
    · rw [if_pos hc] at h ⊢
      match i, h with
      | 0, h => cases h; exact List.mem_cons_self
      | 1, h => cases h; exact absurd hm (by decide)
      | i + 2, h =>
        have := ih (k + 2) i v h hm
        rw [show k + 2 + i = k + (i + 2) by omega] at this
        exact List.mem_cons_of_mem _ this
    · rw [if_neg hc] at h ⊢
      match i, h with
      | 0, h => cases h; exact List.mem_cons_self
      | i + 1, h =>
        have := ih (k + 1) i v h hm
        rw [show k + 1 + i = k + (i + 1) by omega] at this
        exact List.mem_cons_of_mem _ this
theorem zargsL_len {tx ad : Nat → Nat} : ∀ vs : List Value, (lg_sl (vs.map (zcv tx ad))).length = (zargsL vs).length
  | [] => rfl
  | w :: vs => by
    have ih := zargsL_len (tx := tx) (ad := ad) vs
    have e : lg_sl ((w :: vs).map (zcv tx ad)) = (if (zcv tx ad w).category = 2 then [Slot.val (zcv tx ad w), .second] else [Slot.val (zcv tx ad w)]) ++ lg_sl (vs.map (zcv tx ad)) := by
      unfold lg_sl
      rw [List.map_cons, List.flatMap_cons]
    rw [e, zcv_cat, zargsL, List.length_append, ih]
    split
    · show 2 + _ = _
      rw [List.length_cons, List.length_cons]; omega
    · show 1 + _ = _
      rw [List.length_cons]; omega
theorem zentry_loc {tx ad : Nat → Nat} {vs : List Value} {n : Nat} (h : (zargsL vs).length ≤ n) : (zentry n vs).length = n ∧
    zloc tx ad (zentry n vs) ((lg_sl (vs.map (zcv tx ad)) ++ List.replicate (n - (lg_sl (vs.map (zcv tx ad))).length) Slot.unset).toArray) := by
  have hlen : (zentry n vs).length = n := by
    unfold zentry
    rw [List.length_append, List.length_replicate]
    omega
  refine ⟨hlen, ?_⟩
  have hl := lv_entry (vs.map (zcv tx ad)) (n := n) (by rw [zargsL_len]; exact h)
  refine ⟨by rw [hlen]; exact hl.1, hl.2.1, ?_⟩
  rintro ⟨i, w⟩ hq
  obtain ⟨v, h1, h2, h3⟩ := zlv_mem.mp hq
  subst h3
  unfold zentry at h1
  by_cases hi : i < (zargsL vs).length
  · rw [List.getElem?_append_left hi] at h1
    have := zargsL_at (tx := tx) (ad := ad) vs 0 i v h1 h2
    rw [Nat.zero_add] at this
    exact hl.2.2 _ this
  · rw [List.getElem?_append_right (by omega)] at h1
    have := List.mem_of_getElem? h1
    rw [(List.mem_replicate.mp this).2] at h2
    exact absurd h2 (by decide)
theorem zokL_entry {n N : Nat} {vs : List Value} (h : zokL N vs) : zokL N (zentry n vs) := by
  have key : ∀ vs : List Value, zokL N vs → zokL N (zargsL vs) := by
    intro vs
    induction vs with
    | nil => intro _ v hv; cases hv
    | cons w vs ih =>
      intro h
      rw [zargsL]
      have h1 := (zokL_cons.mp h).1
      have h2 := ih (zokL_cons.mp h).2
      split
      · exact zokL_cons.mpr ⟨h1, zokL_cons.mpr ⟨trivial, h2⟩⟩
      · exact zokL_cons.mpr ⟨h1, h2⟩
  intro v hv
  unfold zentry at hv
  rcases List.mem_append.mp hv with q | q
  · exact key vs h v q
  · rw [(List.mem_replicate.mp q).2]; exact trivial
theorem zrep_kept {D : ZD} {tx ad : Nat → Nat} {A : Nat → Prop} {S S' : ZS} {H H1 : Heap} (hr : zrep D tx ad A S H) (h1 : S'.1 = S.1) (h2 : S'.2.1 = S.2.1) (hk : ∀ q : Nat, q < H.size → H1[q]? = H[q]?) : zrep D tx ad A S' H1 := by
  unfold zrep
  rw [h1, h2]
  exact ⟨hr.1.kept fun k x hx => hk x.1 ((hr.1 k x hx).lt), hr.2.1, hr.2.2.1, hr.2.2.2⟩
theorem zrep_weaken {D : ZD} {tx ad : Nat → Nat} {A B : Nat → Prop} {S : ZS} {H : Heap} (hr : zrep D tx ad A S H) (hAB : ∀ q, A q → B q) : zrep D tx ad B S H := ⟨hr.1, hr.2.1.weaken fun _ _ _ h => hAB _ h, hr.2.2.1, hr.2.2.2⟩
theorem zrep_self {D : ZD} {tx ad : Nat → Nat} {A : Nat → Prop} {S : ZS} {H : Heap} {sz : Nat} (hr : zrep D tx ad A S H) : zrep D tx ad (va_A (zws D tx ad S.1 S.2.1) sz) S H := ⟨hr.1, hr.2.1.self, hr.2.2.1, hr.2.2.2⟩
/-- the callee's cells and those that it makes are the caller's -/
theorem zsubA {D : ZD} {tx ad : Nat → Nat} {A : Nat → Prop} {S : ZS} {H H0 : Heap} {locs : List Loc} (hr : zrep D tx ad A S H) (hS : va_S A H0 H locs) (hA : ∀ q, H0.size ≤ q → A q) : ∀ q, va_A (zws D tx ad S.1 S.2.1) H.size q → A q := by
  rintro q (⟨k, e, h⟩ | h)
  · exact hr.2.1.2 k (q, e) h
  · exact hA q (Nat.le_trans hS.1 h)
