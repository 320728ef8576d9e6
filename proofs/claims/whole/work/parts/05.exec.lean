/-! The small machine runs. zexec: with fuel; zev: its limit. -/
def zfetch (μ pc : Nat) : Option ZI := ((zcode.getD μ []).getD (pc / 16) []).lookup pc
def zsig (μ : Nat) : Nat × Nat × Option FieldType := zsigs.getD μ (0, 0, none)
def zhand (μ : Nat) : List (Nat × Nat × Nat × Nat × Nat) := (zhands.lookup μ).getD []
def zcatch : List (Nat × Nat × Nat × Nat × Nat) → Nat → Nat → Option Nat
  | [], _, _ => none
  | q :: r, pc, E => if (q.1 ≤ pc ∧ pc < q.2.1) ∧ q.2.2.2.2 = E then some q.2.2.1 else zcatch r pc E
def zfit (t : FieldType) (v : Value) : Bool := match t, v with
  | .int, .int _ => true
  | .boolean, .int x => x == 0 || x == 1
  | .object _, .ref _ => true
  | .array _, .ref _ => true
  | _, _ => false
def znewT : ArrayType → Option (Nat × ((Nat → Int32) ⊕ (Nat → Int64) ⊕ (Nat → UInt32) ⊕ (Nat → UInt64) ⊕ (Nat → Option Nat)))
  | .int => some (0, .inl fun _ => 0)
  | .long => some (1, .inr (.inl fun _ => 0))
  | .float => some (2, .inr (.inr (.inl fun _ => 0)))
  | .double => some (3, .inr (.inr (.inr (.inl fun _ => 0))))
  | .boolean => some (4, .inl fun _ => 0)
  | _ => none
def zalloc (S : ZS) (e : ZE) (n : Nat) : ZS := (zset S.1 S.2.1 e, S.2.1 + 1, S.2.2.1 + 1, S.2.2.2 + n)
def zwid (n : Int32) : Bool := decide (0 ≤ n) && decide (n.toNatClampNeg ≤ 100000)
/-- what reads or writes the heap, or makes a cell -/
def zheap (ins : Instr) (x y : Nat) (st : List Value) (S : ZS) : Option (List Value × ZS) := match ins, st with
  | .getfield _, .ref i :: st => zbind (zgetF S.1 i x y) fun v => some (v :: st, S)
  | .putfield _, v :: .ref i :: st => if zfit (zTys.getD x (fun _ => .byte) y) v = true then zbind (zputF S.1 i x y v) fun h => some (st, (h, S.2)) else none
  | .arraylength, .ref i :: st => zbind (zalen S.1 i) fun v => some (.int v :: st, S)
  | .iaload, .int j :: .ref i :: st => zbind (zild S.1 i j) fun v => some (.int v :: st, S)
  | .laload, .int j :: .ref i :: st => zbind (zlld S.1 i j) fun v => some (.long v :: st, S)
  | .faload, .int j :: .ref i :: st => zbind (zfld S.1 i j) fun v => some (.float v :: st, S)
  | .daload, .int j :: .ref i :: st => zbind (zdld S.1 i j) fun v => some (.double v :: st, S)
  | .baload, .int j :: .ref i :: st => zbind (zbld S.1 i j) fun v => some (.int v :: st, S)
  | .aaload, .int j :: .ref i :: st => zbind (zald S.1 i j) fun v => some (.ref v :: st, S)
  | .iastore, .int v :: .int j :: .ref i :: st => zbind (zist S.1 i j v) fun h => some (st, (h, S.2))
  | .lastore, .long v :: .int j :: .ref i :: st => zbind (zlst S.1 i j v) fun h => some (st, (h, S.2))
  | .fastore, .float v :: .int j :: .ref i :: st => zbind (zfst S.1 i j v) fun h => some (st, (h, S.2))
  | .dastore, .double v :: .int j :: .ref i :: st => zbind (zdst S.1 i j v) fun h => some (st, (h, S.2))
  | .bastore, .int v :: .int j :: .ref i :: st => zbind (zbst S.1 i j v) fun h => some (st, (h, S.2))
  | .aastore, .ref b :: .int j :: .ref i :: st => zbind (zast S.1 i j b 2) fun h => some (st, (h, S.2))
  | .new _, st => zbind zdef[x]? fun fs => some (.ref S.2.1 :: st, zalloc S (.inr (x, fs)) fs.length)
  | .newarray t, .int n :: st => zbind (znewT t) fun q => if zwid n = true then some (.ref S.2.1 :: st, zalloc S (.inl (q.1, n.toNatClampNeg, q.2)) n.toNatClampNeg) else none
  | .anewarray _, .int n :: st => if zwid n = true then some (.ref S.2.1 :: st, zalloc S (.inl (5, n.toNatClampNeg, .inr (.inr (.inr (.inr fun _ => none))))) n.toNatClampNeg) else none
  | _, _ => none
def ztxt : List (List Int32) := [[102, 114, 97, 109, 101, 115], [114, 117, 110], [105, 110], [112, 105, 110], [98, 108, 117, 102, 102], [102, 114, 97, 109, 101, 115], [114, 117, 110], [105, 110], [112, 105, 110], [98, 108, 117, 102, 102]]
/-- members of the JDK that stand for themselves: 0 Object(), 1 arraycopy, 2 a text's length, 3 a text's char, 4 Math.max, 5 Math.min (the machine runs an entry in place of Math's bytecode) -/
def znat (x : Nat) (st : List Value) (S : ZS) : Option (List Value × ZS) := match x, st with
  | 0, .ref _ :: st => some (st, S)
  | 1, [.int n, .int dp, .ref b, .int sp, .ref a] => zbind (zcpy S.1 a b sp dp n) fun h => some ([], (h, S.2))
  | 2, .retAddr k :: st => zbind ztxt[k]? fun t => some (.int (Int32.ofNat t.length) :: st, S)
  | 3, .int j :: .retAddr k :: st => zbind ztxt[k]? fun t => if j < 0 then none else zbind t[j.toNatClampNeg]? fun c => some (.int c :: st, S)
  | 4, .int y :: .int x :: st => some (.int (if x < y then y else x) :: st, S)
  | 5, .int y :: .int x :: st => some (.int (if y < x then y else x) :: st, S)
  | _, _ => none
def zsum (st : List Value) : Nat := (st.map fun v => v.category).sum
/-- the receiver: of class k (10 + k), some cell (2, 3), none (1) -/
def zrcv (z : Nat) (as : List Value) (h : ZH) : Bool := match z, as with
  | 1, _ => true
  | 2, .ref _ :: _ => true
  | 3, .ref _ :: _ => true
  | k + 10, .ref i :: _ => match h i with
    | .inr o => o.1 == k
    | .inl _ => false
  | _, _ => false
/-- behind a call -/
def zback (f : Nat → List Value → List Value → ZS → Option ZR) (μ pc len : Nat) (L rest : List Value) (r : ZR) : Option ZR := match r.1 with
  | .inl v => f (pc + len) L (v.toList ++ rest) r.2
  | .inr E => match zhand μ with
    | [] => some r
    | hs => zbind (zcatch hs pc E) fun h => zbind (zfetch μ h) fun e => match e.1 with
      | .astore_n k => zbind (zst1 L k zJ) fun L' => f (h + 1) L' [] r.2
      | .astore k => zbind (zst1 L k zJ) fun L' => f (h + 2) L' [] r.2
      | _ => none
/-- the law's script, its length and its ints: read only, no cell of the heap's -/
abbrev ZX : Type := Nat × (Nat → Int32)
def zscr (X : ZX) (ins : Instr) (st : List Value) : Option (List Value) := match ins, st with
  | .arraylength, .retAddr k :: st => if k = 999 then some (.int (Int32.ofNat X.1) :: st) else none
  | .iaload, .int j :: .retAddr k :: st => if k = 999 ∧ ¬ (j < 0 ∨ X.1 ≤ j.toNatClampNeg) then some (.int (X.2 j.toNatClampNeg) :: st) else none
  | _, _ => none
def zexec (X : ZX) : Nat → Nat → Nat → List Value → List Value → ZS → Option ZR
  | 0, _, _, _, _, _ => none
  | f + 1, μ, pc, L, st, S => zbind (zfetch μ pc) fun e => match e.2.2.1 with
    | 0 => zbind (zpure e.1 e.2.2.2.1 L st) fun q => zexec X f μ (pc + e.2.1) q.1 q.2 S
    | 1 => zbind (zheap e.1 e.2.2.2.1 e.2.2.2.2 st S) fun q => zexec X f μ (pc + e.2.1) L q.1 q.2
    | 2 => zbind (zjump e.1 pc st) fun q => zexec X f μ q.1 L q.2 S
    | 3 => zbind (zret e.1 (zsig μ).2.2 st) fun v => some (.inl v, S)
    | 4 => if ((zsig e.2.2.2.1).1 ≤ st.length ∧ (zsum (st.drop (zsig e.2.2.2.1).1) ≤ 8 ∧ (zargsL (st.take (zsig e.2.2.2.1).1).reverse).length ≤ (zsig e.2.2.2.1).2.1)) ∧ zrcv e.2.2.2.2 (st.take (zsig e.2.2.2.1).1).reverse S.1 = true then
        zbind (zexec X f e.2.2.2.1 0 (zentry (zsig e.2.2.2.1).2.1 (st.take (zsig e.2.2.2.1).1).reverse) [] S) fun r => zback (zexec X f μ) μ pc e.2.1 L (st.drop (zsig e.2.2.2.1).1) r
      else none
    | 5 => if st = [] ∧ zhand μ = [] then some (.inr e.2.2.2.1, (S.1, S.2.1, S.2.2.1 + 1, S.2.2.2 + 6)) else none
    | 6 => if zsum st ≤ 8 then zbind (znat e.2.2.2.1 st S) fun q => zexec X f μ (pc + e.2.1) L q.1 q.2 else none
    | 7 => zbind (zscr X e.1 st) fun q => zexec X f μ (pc + e.2.1) L q S
    | 8 => zbind (zscr X e.1 st) fun q => zexec X f μ (pc + e.2.1) L q S
    | _ => none
section ZXV
variable {X : ZX}
theorem zbind_eq {α β : Type} {x : Option α} {f : α → Option β} {b : β} : zbind x f = some b ↔ ∃ a, x = some a ∧ f a = some b := by
  cases x <;> simp [zbind]
theorem zback_mono {F G : Nat → List Value → List Value → ZS → Option ZR} (h : ∀ pc L st S r, F pc L st S = some r → G pc L st S = some r) {μ pc len : Nat} {L rest : List Value} {q r : ZR} (e : zback F μ pc len L rest q = some r) : zback G μ pc len L rest q = some r := by
  unfold zback at e ⊢
  split at e
  · rename_i v hv
    exact h _ _ _ _ _ e
  · rename_i E hE
    split at e
    · rename_i hh
      exact e
    · rename_i hs hh
      simp only [zbind_eq] at e ⊢
      obtain ⟨a, h1, c, h2, h3⟩ := e
      refine ⟨a, h1, c, h2, ?_⟩
      split at h3
      · simp only [zbind_eq] at h3 ⊢
        obtain ⟨L', h4, h5⟩ := h3
        exact ⟨L', h4, h _ _ _ _ _ h5⟩
      · simp only [zbind_eq] at h3 ⊢
        obtain ⟨L', h4, h5⟩ := h3
        exact ⟨L', h4, h _ _ _ _ _ h5⟩
      · exact h3
theorem zexec_succ : ∀ (f μ pc : Nat) (L st : List Value) (S : ZS) (r : ZR), zexec X f μ pc L st S = some r → zexec X (f + 1) μ pc L st S = some r := by
  intro f
  induction f with
  | zero => intro μ pc L st S r h; cases h
  | succ f ih =>
    intro μ pc L st S r h
    rw [zexec] at h ⊢
    simp only [zbind_eq] at h ⊢
    obtain ⟨e, he, h⟩ := h
    refine ⟨e, he, ?_⟩
    split at h
    · simp only [zbind_eq] at h ⊢
      obtain ⟨a, h1, h2⟩ := h
      exact ⟨a, h1, ih _ _ _ _ _ _ h2⟩
    · simp only [zbind_eq] at h ⊢
      obtain ⟨a, h1, h2⟩ := h
      exact ⟨a, h1, ih _ _ _ _ _ _ h2⟩
    · simp only [zbind_eq] at h ⊢
      obtain ⟨a, h1, h2⟩ := h
      exact ⟨a, h1, ih _ _ _ _ _ _ h2⟩
    · exact h
    · split at h
      · rename_i hc
        rw [if_pos hc]
        simp only [zbind_eq] at h ⊢
        obtain ⟨a, h1, h2⟩ := h
        exact ⟨a, ih _ _ _ _ _ _ h1, zback_mono (fun _ _ _ _ _ h => ih _ _ _ _ _ _ h) h2⟩
      · cases h
    · exact h
    · split at h
      · rename_i hc
        rw [if_pos hc]
        simp only [zbind_eq] at h ⊢
        obtain ⟨a, h1, h2⟩ := h
        exact ⟨a, h1, ih _ _ _ _ _ _ h2⟩
      · cases h
    · simp only [zbind_eq] at h ⊢
      obtain ⟨a, h1, h2⟩ := h
      exact ⟨a, h1, ih _ _ _ _ _ _ h2⟩
    · simp only [zbind_eq] at h ⊢
      obtain ⟨a, h1, h2⟩ := h
      exact ⟨a, h1, ih _ _ _ _ _ _ h2⟩
    · exact h
theorem zexec_le {f g μ pc : Nat} {L st : List Value} {S : ZS} {r : ZR} (hle : f ≤ g) (h : zexec X f μ pc L st S = some r) : zexec X g μ pc L st S = some r := by
  induction g with
  | zero => rw [Nat.le_zero.mp hle] at h; exact h
  | succ g ih =>
    rcases Nat.lt_or_ge f (g + 1) with q | q
    · exact zexec_succ _ _ _ _ _ _ _ (ih (Nat.lt_succ_iff.mp q))
    · rw [Nat.le_antisymm hle q] at h; exact h
theorem zexec_one {f g μ pc : Nat} {L st : List Value} {S : ZS} {r q : ZR} (h : zexec X f μ pc L st S = some r) (h2 : zexec X g μ pc L st S = some q) : r = q := by
  have a := zexec_le (Nat.le_max_left f g) h
  have b := zexec_le (Nat.le_max_right f g) h2
  exact Option.some.inj (a.symm.trans b)
noncomputable def zev (X : ZX) (μ pc : Nat) (L st : List Value) (S : ZS) : Option ZR := @dite (Option ZR) (∃ (r : ZR) (f : Nat), zexec X f μ pc L st S = some r) (Classical.propDecidable _) (fun h => some h.choose) (fun _ => none)
theorem zev_of {f μ pc : Nat} {L st : List Value} {S : ZS} {r : ZR} (h : zexec X f μ pc L st S = some r) : zev X μ pc L st S = some r := by
  have hx : ∃ (r : ZR) (f : Nat), zexec X f μ pc L st S = some r := ⟨r, f, h⟩
  unfold zev
  rw [dif_pos hx]
  obtain ⟨g, hg⟩ := hx.choose_spec
  rw [zexec_one hg h]
theorem zev_iff {μ pc : Nat} {L st : List Value} {S : ZS} {r : ZR} : zev X μ pc L st S = some r ↔ ∃ f : Nat, zexec X f μ pc L st S = some r := by
  constructor
  · intro h
    unfold zev at h
    split at h
    · rename_i hx
      cases h
      exact hx.choose_spec
    · cases h
  · rintro ⟨f, h⟩
    exact zev_of h
theorem zev_ext {x : Option ZR} {μ pc : Nat} {L st : List Value} {S : ZS} (h : ∀ r : ZR, x = some r ↔ ∃ f : Nat, zexec X f μ pc L st S = some r) : zev X μ pc L st S = x := by
  cases e : zev X μ pc L st S with
  | some r => exact ((h r).mpr (zev_iff.mp e)).symm
  | none =>
    cases x with
    | none => rfl
    | some r =>
      have := zev_of ((h r).mp rfl).choose_spec
      rw [this] at e
      cases e
/-- one step, said of the limit -/
theorem zev_unfold (μ pc : Nat) (L st : List Value) (S : ZS) : zev X μ pc L st S = zbind (zfetch μ pc) fun e => match e.2.2.1 with
    | 0 => zbind (zpure e.1 e.2.2.2.1 L st) fun q => zev X μ (pc + e.2.1) q.1 q.2 S
    | 1 => zbind (zheap e.1 e.2.2.2.1 e.2.2.2.2 st S) fun q => zev X μ (pc + e.2.1) L q.1 q.2
    | 2 => zbind (zjump e.1 pc st) fun q => zev X μ q.1 L q.2 S
    | 3 => zbind (zret e.1 (zsig μ).2.2 st) fun v => some (.inl v, S)
    | 4 => if ((zsig e.2.2.2.1).1 ≤ st.length ∧ (zsum (st.drop (zsig e.2.2.2.1).1) ≤ 8 ∧ (zargsL (st.take (zsig e.2.2.2.1).1).reverse).length ≤ (zsig e.2.2.2.1).2.1)) ∧ zrcv e.2.2.2.2 (st.take (zsig e.2.2.2.1).1).reverse S.1 = true then
        zbind (zev X e.2.2.2.1 0 (zentry (zsig e.2.2.2.1).2.1 (st.take (zsig e.2.2.2.1).1).reverse) [] S) fun r => zback (zev X μ) μ pc e.2.1 L (st.drop (zsig e.2.2.2.1).1) r
      else none
    | 5 => if st = [] ∧ zhand μ = [] then some (.inr e.2.2.2.1, (S.1, S.2.1, S.2.2.1 + 1, S.2.2.2 + 6)) else none
    | 6 => if zsum st ≤ 8 then zbind (znat e.2.2.2.1 st S) fun q => zev X μ (pc + e.2.1) L q.1 q.2 else none
    | 7 => zbind (zscr X e.1 st) fun q => zev X μ (pc + e.2.1) L q S
    | 8 => zbind (zscr X e.1 st) fun q => zev X μ (pc + e.2.1) L q S
    | _ => none := by
  refine zev_ext fun r => ?_
  constructor
  · intro h
    simp only [zbind_eq] at h
    obtain ⟨e, he, h⟩ := h
    have key : ∃ f : Nat, zexec X (f + 1) μ pc L st S = some r := by
      simp only [zexec, zbind_eq]
      split at h
      · rename_i hk
        simp only [zbind_eq, zev_iff] at h
        obtain ⟨a, h1, f, h2⟩ := h
        exact ⟨f, e, he, by rw [hk]; exact zbind_eq.mpr ⟨a, h1, h2⟩⟩
      · rename_i hk
        simp only [zbind_eq, zev_iff] at h
        obtain ⟨a, h1, f, h2⟩ := h
        exact ⟨f, e, he, by rw [hk]; exact zbind_eq.mpr ⟨a, h1, h2⟩⟩
      · rename_i hk
        simp only [zbind_eq, zev_iff] at h
        obtain ⟨a, h1, f, h2⟩ := h
        exact ⟨f, e, he, by rw [hk]; exact zbind_eq.mpr ⟨a, h1, h2⟩⟩
      · rename_i hk
        exact ⟨0, e, he, by rw [hk]; exact h⟩
      · rename_i hk
        split at h
        · rename_i hc
          simp only [zbind_eq, zev_iff] at h
          obtain ⟨a, ⟨f, h1⟩, h2⟩ := h
          have h3 : ∃ g : Nat, zback (zexec X g μ) μ pc e.2.1 L (st.drop (zsig e.2.2.2.1).1) a = some r := by
            unfold zback at h2 ⊢
            split at h2
            · rename_i v hv
              obtain ⟨g, hg⟩ := zev_iff.mp h2
              exact ⟨g, hg⟩
            · rename_i E hE
              split at h2
              · rename_i hh
                exact ⟨0, h2⟩
              · rename_i hs hh
                simp only [zbind_eq] at h2 ⊢
                obtain ⟨b, h4, c, h5, h6⟩ := h2
                split at h6
                · rename_i k hk2
                  simp only [zbind_eq, zev_iff] at h6
                  obtain ⟨L', h7, g, h8⟩ := h6
                  exact ⟨g, b, h4, c, h5, by rw [hk2]; exact zbind_eq.mpr ⟨L', h7, h8⟩⟩
                · rename_i k hk2
                  simp only [zbind_eq, zev_iff] at h6
                  obtain ⟨L', h7, g, h8⟩ := h6
                  exact ⟨g, b, h4, c, h5, by rw [hk2]; exact zbind_eq.mpr ⟨L', h7, h8⟩⟩
                · cases h6
          obtain ⟨g, h3⟩ := h3
          refine ⟨max f g, e, he, ?_⟩
          rw [hk]
          show (if _ then _ else _) = _
          rw [if_pos hc]
          exact zbind_eq.mpr ⟨a, zexec_le (Nat.le_max_left f g) h1, zback_mono (fun _ _ _ _ _ h => zexec_le (Nat.le_max_right f g) h) h3⟩
        · cases h
      · rename_i hk
        exact ⟨0, e, he, by rw [hk]; exact h⟩
      · rename_i hk
        split at h
        · rename_i hc
          simp only [zbind_eq, zev_iff] at h
          obtain ⟨a, h1, f, h2⟩ := h
          refine ⟨f, e, he, ?_⟩
          rw [hk]
          show (if _ then _ else _) = _
          rw [if_pos hc]
          exact zbind_eq.mpr ⟨a, h1, h2⟩
        · cases h
      · rename_i hk
        simp only [zbind_eq, zev_iff] at h
        obtain ⟨a, h1, f, h2⟩ := h
        exact ⟨f, e, he, by rw [hk]; exact zbind_eq.mpr ⟨a, h1, h2⟩⟩
      · rename_i hk
        simp only [zbind_eq, zev_iff] at h
        obtain ⟨a, h1, f, h2⟩ := h
        exact ⟨f, e, he, by rw [hk]; exact zbind_eq.mpr ⟨a, h1, h2⟩⟩
      · cases h
    obtain ⟨f, hf⟩ := key
    exact ⟨f + 1, hf⟩
  · rintro ⟨f, h⟩
    cases f with
    | zero => cases h
    | succ f =>
      simp only [zexec, zbind_eq] at h ⊢
      obtain ⟨e, he, h⟩ := h
      refine ⟨e, he, ?_⟩
      split at h
      · simp only [zbind_eq] at h ⊢
        obtain ⟨a, h1, h2⟩ := h
        exact ⟨a, h1, zev_of h2⟩
      · simp only [zbind_eq] at h ⊢
        obtain ⟨a, h1, h2⟩ := h
        exact ⟨a, h1, zev_of h2⟩
      · simp only [zbind_eq] at h ⊢
        obtain ⟨a, h1, h2⟩ := h
        exact ⟨a, h1, zev_of h2⟩
      · exact h
      · split at h
        · rename_i hc
          rw [if_pos hc]
          simp only [zbind_eq] at h ⊢
          obtain ⟨a, h1, h2⟩ := h
          exact ⟨a, zev_of h1, zback_mono (fun _ _ _ _ _ h => zev_of h) h2⟩
        · cases h
      · exact h
      · split at h
        · rename_i hc
          rw [if_pos hc]
          simp only [zbind_eq] at h ⊢
          obtain ⟨a, h1, h2⟩ := h
          exact ⟨a, h1, zev_of h2⟩
        · cases h
      · simp only [zbind_eq] at h ⊢
        obtain ⟨a, h1, h2⟩ := h
        exact ⟨a, h1, zev_of h2⟩
      · simp only [zbind_eq] at h ⊢
        obtain ⟨a, h1, h2⟩ := h
        exact ⟨a, h1, zev_of h2⟩
      · exact h
end ZXV
