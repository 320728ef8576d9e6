/-! The small machine over the law's heap: every cell's place is known; what changes is the ints (D), and the law's two answer rows (O). -/
/-- an object (class, fields: none = an int that changes, inl = a reference, inr = an int that stays), or an array (kind, length, references) -/
abbrev ZK : Type := (Nat × List (Option (Nat ⊕ Int32))) ⊕ (Nat × Nat × List Nat)
abbrev ZD2 : Type := Nat → Nat → Int32
abbrev ZO2 : Type := (Nat → Int64) × (Nat → UInt64)
def zkM (m : Nat) : List ZK := [.inl (2, [some (.inl (m + 1)), some (.inl (m + 3)), some (.inl (m + 5)), some (.inl (m + 7)), some (.inl (m + 9)), some (.inl (m + 11)), none]),
  .inl (5, [some (.inr 1), some (.inr 5), some (.inl (m + 2))]), .inr (0, 5, []), .inl (5, [some (.inr 1), some (.inr 15), some (.inl (m + 4))]), .inr (0, 15, []),
  .inl (5, [some (.inr 6), some (.inr 12), some (.inl (m + 6))]), .inr (0, 72, []), .inl (5, [some (.inr 72), some (.inr 5), some (.inl (m + 8))]), .inr (0, 360, []),
  .inl (5, [some (.inr 64), some (.inr 3), some (.inl (m + 10))]), .inr (0, 192, []), .inl (5, [some (.inr 6), some (.inr 1), some (.inl (m + 12))]), .inr (0, 6, [])]
def zsk : List ZK :=
  [.inl (7, [some (.inl 1), some (.inl 2), some (.inl 4), some (.inl 17), some (.inl 18), some (.inl 20), some (.inl 33), some (.inl 46), some (.inl 59), some (.inl 165), none, none]),
   .inl (4, [some (.inl 2), some (.inl 4), none, none, none, none, none, none, none]),
   .inl (0, [some (.inl 3), none]), .inr (0, 600, [])] ++ (zkM 4 ++
  ([.inl (6, [some (.inl 18)]), .inl (0, [some (.inl 19), none]), .inr (0, 1024, [])] ++ (zkM 20 ++ (zkM 33 ++ (zkM 46 ++
  ([.inl (1, [some (.inl 60), none, none]), .inr (5, 8, [61, 74, 87, 100, 113, 126, 139, 152])] ++ (zkM 61 ++ (zkM 74 ++ (zkM 87 ++ (zkM 100 ++ (zkM 113 ++ (zkM 126 ++ (zkM 139 ++ (zkM 152 ++
  [.inl (3, [some (.inl 166), some (.inl 167), none]), .inr (0, 72, []), .inr (2, 72, []),
   .inl (8, [none, none, none, none, none, none, none, none, some (.inl 169), some (.inl 170), some (.inl 171), some (.inl 172), some (.inl 173), some (.inl 174), none, some (.inl 175), some (.inl 176), none, none, none, none, none, none, none, none, none, none, none, none, none, none, none, none, none, some (.inl 177), some (.inl 178), some (.inl 179), some (.inl 180), some (.inl 181), none, none, some (.inl 182), none]),
   .inr (0, 36, []), .inr (0, 6, []), .inr (0, 6, []), .inr (0, 540, []), .inr (0, 540, []), .inr (0, 5400, []), .inr (4, 2, []), .inr (0, 600, []), .inr (0, 540, []), .inr (0, 36, []), .inr (0, 6, []), .inr (0, 6, []), .inr (0, 72, []), .inr (0, 1200, []), .inr (1, 1, []), .inr (3, 1, [])]))))))))))))))
theorem zsk_len : zsk.length = 185 := rfl
def zfl (D : Nat → Int32) : Nat → List (Option (Nat ⊕ Int32)) → List Value
  | _, [] => []
  | k, none :: r => .int (D k) :: zfl D (k + 1) r
  | k, some (.inl a) :: r => .ref a :: zfl D (k + 1) r
  | k, some (.inr c) :: r => .int c :: zfl D (k + 1) r
def zent (D : Nat → Int32) (O : ZO2) : ZK → ZE
  | .inl o => .inr (o.1, zfl D 0 o.2)
  | .inr (0, n, _) => .inl (0, n, .inl D)
  | .inr (1, n, _) => .inl (1, n, .inr (.inl O.1))
  | .inr (2, n, _) => .inl (2, n, .inr (.inr (.inl fun j => (D j).toUInt32)))
  | .inr (3, n, _) => .inl (3, n, .inr (.inr (.inr (.inl O.2))))
  | .inr (4, n, _) => .inl (4, n, .inl D)
  | .inr (_, n, l) => .inl (5, n, .inr (.inr (.inr (.inr fun j => l[j]?))))
def zHP (D : ZD2) (O : ZO2) : ZH := fun a => match zsk[a]? with
  | none => zNo
  | some k => zent (D a) O k
/-- one int written -/
def zw (D : ZD2) (a k : Nat) (v : Int32) : ZD2 := fun b j => if b = a ∧ j = k then v else D b j
theorem zw_self (D : ZD2) (a k : Nat) (v : Int32) : zw D a k v a k = v := if_pos ⟨rfl, rfl⟩
theorem zw_ne {D : ZD2} {a k b j : Nat} {v : Int32} (h : ¬ (b = a ∧ j = k)) : zw D a k v b j = D b j := if_neg h
theorem zw_nea {D : ZD2} {a k b j : Nat} {v : Int32} (h : b ≠ a) : zw D a k v b j = D b j := if_neg fun q => h q.1
theorem zw_row {D : ZD2} {a k b : Nat} {v : Int32} (h : b ≠ a) : zw D a k v b = D b := funext fun _ => zw_nea h
theorem zw_upd (D : ZD2) (a k : Nat) (v : Int32) : zw D a k v a = upd (D a) k v := by
  funext j
  unfold zw upd
  by_cases h : j = k <;> simp [h]
theorem zHP_ne {D : ZD2} {O : ZO2} {a k b : Nat} {v : Int32} (h : b ≠ a) : zHP (zw D a k v) O b = zHP D O b := by
  unfold zHP
  rw [zw_row h]
theorem zfl_len (D : Nat → Int32) : ∀ (l : List (Option (Nat ⊕ Int32))) (k : Nat), (zfl D k l).length = l.length
  | [], _ => rfl
  | none :: r, k => by rw [zfl, List.length_cons, List.length_cons, zfl_len D r]
  | some (.inl a) :: r, k => by rw [zfl, List.length_cons, List.length_cons, zfl_len D r]
  | some (.inr c) :: r, k => by rw [zfl, List.length_cons, List.length_cons, zfl_len D r]
theorem zfl_upd {D : Nat → Int32} {v : Int32} : ∀ (l : List (Option (Nat ⊕ Int32))) (k i : Nat), l[i]? = some none → zfl (upd D (k + i) v) k l = (zfl D k l).set i (.int v)
  | [], k, i, h => by cases i <;> cases h
  | x :: r, k, 0, h => by
    have hx : x = none := Option.some.inj h
    subst hx
    rw [zfl, zfl, List.set_cons_zero]
    have e1 : upd D (k + 0) v k = v := by unfold upd; simp
    have e2 : ∀ (l : List (Option (Nat ⊕ Int32))) (j : Nat), k < j → zfl (upd D (k + 0) v) j l = zfl D j l := by
      intro l
      induction l with
      | nil => intro j _; rfl
      | cons y l ih =>
        intro j hj
        match y with
        | none =>
          rw [zfl, zfl, ih (j + 1) (by omega)]
          have : upd D (k + 0) v j = D j := by unfold upd; rw [if_neg (by omega)]
          rw [this]
        | some (.inl a) => rw [zfl, zfl, ih (j + 1) (by omega)]
        | some (.inr c) => rw [zfl, zfl, ih (j + 1) (by omega)]
    rw [e1, e2 r (k + 1) (by omega)]
  | x :: r, k, i + 1, h => by
    have ih := zfl_upd (D := D) (v := v) r (k + 1) i h
    rw [show k + 1 + i = k + (i + 1) by omega] at ih
    have e1 : upd D (k + (i + 1)) v k = D k := by unfold upd; rw [if_neg (by omega)]
    match x with
    | none => rw [zfl, zfl, List.set_cons_succ, ih, e1]
    | some (.inl a) => rw [zfl, zfl, List.set_cons_succ, ih]
    | some (.inr c) => rw [zfl, zfl, List.set_cons_succ, ih]
theorem zHP_set {D : ZD2} {O : ZO2} {a k : Nat} {v : Int32} {e : ZE} (h : zHP (zw D a k v) O a = e) : zset (zHP D O) a e = zHP (zw D a k v) O := by
  funext b
  unfold zset
  by_cases hb : b = a
  · rw [if_pos hb, hb, h]
  · rw [if_neg hb, zHP_ne hb]
theorem zHP_putF {D : ZD2} {O : ZO2} {a c k : Nat} {fs : List (Option (Nat ⊕ Int32))} {v : Int32} (h : zsk[a]? = some (.inl (c, fs))) (hk : fs[k]? = some none) : zputF (zHP D O) a c k (.int v) = some (zHP (zw D a k v) O) := by
  have e1 : zHP D O a = .inr (c, zfl (D a) 0 fs) := by unfold zHP; rw [h]; rfl
  have e2 : zHP (zw D a k v) O a = .inr (c, (zfl (D a) 0 fs).set k (.int v)) := by
    have e3 : zHP (zw D a k v) O a = .inr (c, zfl (zw D a k v a) 0 fs) := by unfold zHP; rw [h]; rfl
    have e4 := zfl_upd (D := D a) (v := v) fs 0 k hk
    rw [Nat.zero_add] at e4
    rw [e3, zw_upd, e4]
  unfold zputF
  rw [e1]
  show (if c = c ∧ k < (zfl (D a) 0 fs).length then some (zset (zHP D O) a (.inr (c, (zfl (D a) 0 fs).set k (.int v)))) else none) = _
  rw [if_pos ⟨rfl, by rw [zfl_len]; exact (List.getElem?_eq_some_iff.mp hk).1⟩, zHP_set e2]
theorem zHP_ist {D : ZD2} {O : ZO2} {a n : Nat} {l : List Nat} {j v : Int32} (h : zsk[a]? = some (.inr (0, n, l))) : zist (zHP D O) a j v = if j < 0 ∨ n ≤ j.toNatClampNeg then none else some (zHP (zw D a j.toNatClampNeg v) O) := by
  have e1 : ∀ D, zHP D O a = .inl (0, n, .inl (D a)) := fun D => by unfold zHP; rw [h]; rfl
  unfold zist
  rw [e1]
  dsimp only
  split
  · rfl
  · rw [zHP_set]
    rw [e1, zw_upd]
theorem zHP_bst {D : ZD2} {O : ZO2} {a n : Nat} {l : List Nat} {j v : Int32} (h : zsk[a]? = some (.inr (4, n, l))) : zbst (zHP D O) a j v = if j < 0 ∨ n ≤ j.toNatClampNeg then none else some (zHP (zw D a j.toNatClampNeg (vp_nar .boolean v)) O) := by
  have e1 : ∀ D, zHP D O a = .inl (4, n, .inl (D a)) := fun D => by unfold zHP; rw [h]; rfl
  unfold zbst
  rw [e1]
  dsimp only
  split
  · rfl
  · rw [zHP_set]
    rw [e1, zw_upd]
theorem zHP_fst {D : ZD2} {O : ZO2} {a n : Nat} {l : List Nat} {j : Int32} {v : UInt32} (h : zsk[a]? = some (.inr (2, n, l))) : zfst (zHP D O) a j v = if j < 0 ∨ n ≤ j.toNatClampNeg then none else some (zHP (zw D a j.toNatClampNeg v.toInt32) O) := by
  have e1 : ∀ D, zHP D O a = .inl (2, n, .inr (.inr (.inl fun j => (D a j).toUInt32))) := fun D => by unfold zHP; rw [h]; rfl
  unfold zfst
  rw [e1]
  dsimp only
  split
  · rfl
  · rw [zHP_set]
    rw [e1, zw_upd]
    congr 5
    funext q
    unfold upd vf_upd
    split <;> rfl
theorem zHP_ild {D : ZD2} {O : ZO2} {a n : Nat} {l : List Nat} {j : Int32} (h : zsk[a]? = some (.inr (0, n, l))) : zild (zHP D O) a j = if j < 0 ∨ n ≤ j.toNatClampNeg then none else some (D a j.toNatClampNeg) := by
  have e1 : zHP D O a = .inl (0, n, .inl (D a)) := by unfold zHP; rw [h]; rfl
  unfold zild
  rw [e1]
theorem zHP_bld {D : ZD2} {O : ZO2} {a n : Nat} {l : List Nat} {j : Int32} (h : zsk[a]? = some (.inr (4, n, l))) : zbld (zHP D O) a j = if j < 0 ∨ n ≤ j.toNatClampNeg then none else some (D a j.toNatClampNeg) := by
  have e1 : zHP D O a = .inl (4, n, .inl (D a)) := by unfold zHP; rw [h]; rfl
  unfold zbld
  rw [e1]
theorem zHP_fld {D : ZD2} {O : ZO2} {a n : Nat} {l : List Nat} {j : Int32} (h : zsk[a]? = some (.inr (2, n, l))) : zfld (zHP D O) a j = if j < 0 ∨ n ≤ j.toNatClampNeg then none else some (D a j.toNatClampNeg).toUInt32 := by
  have e1 : zHP D O a = .inl (2, n, .inr (.inr (.inl fun j => (D a j).toUInt32))) := by unfold zHP; rw [h]; rfl
  unfold zfld
  rw [e1]
theorem zHP_alen {D : ZD2} {O : ZO2} {a t n : Nat} {l : List Nat} (h : zsk[a]? = some (.inr (t, n, l))) : zalen (zHP D O) a = some (Int32.ofNat n) := by
  unfold zalen zHP
  rw [h]
  match t with
  | 0 => rfl
  | 1 => rfl
  | 2 => rfl
  | 3 => rfl
  | 4 => rfl
  | t + 5 => rfl
theorem zHP_getF {D : ZD2} {O : ZO2} {a c k : Nat} {fs : List (Option (Nat ⊕ Int32))} {v : Value} (h : zsk[a]? = some (.inl (c, fs))) (hk : (zfl (D a) 0 fs)[k]? = some v) : zgetF (zHP D O) a c k = some v := by
  have e1 : zHP D O a = .inr (c, zfl (D a) 0 fs) := by unfold zHP; rw [h]; rfl
  unfold zgetF
  rw [e1]
  show (if c = c then (zfl (D a) 0 fs)[k]? else none) = some v
  rw [if_pos rfl, hk]
/-! Steps of zev. -/
def zcon (x : Option ZR) (f : Option Value → ZS → Option ZR) : Option ZR := match x with
  | none => none
  | some (.inl v, S) => f v S
  | some (.inr E, S) => some (.inr E, S)
theorem zcon_none (f : Option Value → ZS → Option ZR) : zcon none f = none := rfl
theorem zcon_inl (v : Option Value) (S : ZS) (f : Option Value → ZS → Option ZR) : zcon (some (.inl v, S)) f = f v S := rfl
theorem zcon_inr (E : Nat) (S : ZS) (f : Option Value → ZS → Option ZR) : zcon (some (.inr E, S)) f = some (.inr E, S) := rfl
def zite (P : Prop) [Decidable P] (a b : Option ZR) : Option ZR := if P then a else b
section ZST
variable {X : ZX} {μ pc len x y : Nat} {L L' st st' : List Value} {S S' : ZS} {ins : Instr}
theorem zst_0 (hf : zfetch μ pc = some (ins, len, 0, x, y)) (h : zpure ins x L st = some (L', st')) : zev X μ pc L st S = zev X μ (pc + len) L' st' S := by
  rw [zev_unfold, hf]
  show zbind (zpure ins x L st) _ = _
  rw [h]
  rfl
theorem zst_1 (hf : zfetch μ pc = some (ins, len, 1, x, y)) (h : zheap ins x y st S = some (st', S')) : zev X μ pc L st S = zev X μ (pc + len) L st' S' := by
  rw [zev_unfold, hf]
  show zbind (zheap ins x y st S) _ = _
  rw [h]
  rfl
theorem zst_1n (hf : zfetch μ pc = some (ins, len, 1, x, y)) (h : zheap ins x y st S = none) : zev X μ pc L st S = none := by
  rw [zev_unfold, hf]
  show zbind (zheap ins x y st S) _ = _
  rw [h]
  rfl
theorem zst_2 {pc' : Nat} (hf : zfetch μ pc = some (ins, len, 2, x, y)) (h : zjump ins pc st = some (pc', st')) : zev X μ pc L st S = zev X μ pc' L st' S := by
  rw [zev_unfold, hf]
  show zbind (zjump ins pc st) _ = _
  rw [h]
  rfl
theorem zst_3 {v : Option Value} (hf : zfetch μ pc = some (ins, len, 3, x, y)) (h : zret ins (zsig μ).2.2 st = some v) : zev X μ pc L st S = some (.inl v, S) := by
  rw [zev_unfold, hf]
  show zbind (zret ins (zsig μ).2.2 st) _ = _
  rw [h]
  rfl
theorem zst_5 (hf : zfetch μ pc = some (ins, len, 5, x, y)) (hh : zhand μ = []) : zev X μ pc L [] S = some (.inr x, (S.1, S.2.1, S.2.2.1 + 1, S.2.2.2 + 6)) := by
  rw [zev_unfold, hf]
  show (if _ then _ else _) = _
  rw [if_pos ⟨rfl, hh⟩]
theorem zst_6 (hf : zfetch μ pc = some (ins, len, 6, x, y)) (h8 : zsum st ≤ 8) (h : znat x st S = some (st', S')) : zev X μ pc L st S = zev X μ (pc + len) L st' S' := by
  rw [zev_unfold, hf]
  show (if _ then _ else _) = _
  rw [if_pos h8, h]
  rfl
/-- a call's words and rest, where it may be done -/
def zcw (x z : Nat) (st : List Value) (h : ZH) : Option (List Value × List Value) :=
  if ((zsig x).1 ≤ st.length ∧ (zsum (st.drop (zsig x).1) ≤ 8 ∧ (zargsL (st.take (zsig x).1).reverse).length ≤ (zsig x).2.1)) ∧ zrcv z (st.take (zsig x).1).reverse h = true then some (zentry (zsig x).2.1 (st.take (zsig x).1).reverse, st.drop (zsig x).1) else none
theorem zst_4 {L1 rest : List Value} (hf : zfetch μ pc = some (ins, len, 4, x, y)) (hh : zhand μ = []) (hc : zcw x y st S.1 = some (L1, rest)) : zev X μ pc L st S = zcon (zev X x 0 L1 [] S) fun v S' => zev X μ (pc + len) L (v.toList ++ rest) S' := by
  rw [zev_unfold, hf]
  unfold zcw at hc
  split at hc
  · rename_i hcd
    cases hc
    show (if _ then _ else _) = _
    rw [if_pos hcd]
    cases e : zev X x 0 (zentry (zsig x).2.1 (st.take (zsig x).1).reverse) [] S with
    | none => rfl
    | some r =>
      obtain ⟨o, S1⟩ := r
      cases o with
      | inl v => rfl
      | inr E =>
        show zback (zev X μ) μ pc len L _ (Sum.inr E, S1) = _
        unfold zback
        rw [hh]
        rfl
  · cases hc
theorem zst_if {cd : ClassFile.Cond} {off : Int} {a : Int32} (hf : zfetch μ pc = some (.ifCond cd off, 3, 2, x, y)) (h0 : 0 ≤ (pc : Int) + off) : zev X μ pc L (.int a :: st) S = if zcnd cd a 0 = true then zev X μ (ztgt pc off) L st S else zev X μ (pc + 3) L st S := by
  rw [zev_unfold, hf]
  show zbind (zzif pc off (zcnd cd a 0) st) _ = _
  unfold zzif
  rw [if_pos h0]
  show zev X μ (if zcnd cd a 0 = true then ztgt pc off else pc + 3) L st S = _
  split <;> rfl
theorem zst_icmp {cd : ClassFile.Cond} {off : Int} {a b : Int32} (hf : zfetch μ pc = some (.if_icmp cd off, 3, 2, x, y)) (h0 : 0 ≤ (pc : Int) + off) : zev X μ pc L (.int b :: .int a :: st) S = if zcnd cd a b = true then zev X μ (ztgt pc off) L st S else zev X μ (pc + 3) L st S := by
  rw [zev_unfold, hf]
  show zbind (zzif pc off (zcnd cd a b) st) _ = _
  unfold zzif
  rw [if_pos h0]
  show zev X μ (if zcnd cd a b = true then ztgt pc off else pc + 3) L st S = _
  split <;> rfl
end ZST
/-- many pure steps and gotos at once -/
def zpr : Nat → Nat → Nat → List Value → List Value → Option (Nat × List Value × List Value)
  | 0, _, pc, L, st => some (pc, L, st)
  | f + 1, μ, pc, L, st => match zfetch μ pc with
    | some (.goto off, _, 2, _, _) => if 0 ≤ (pc : Int) + off then zpr f μ (ztgt pc off) L st else none
    | some (ins, len, 0, x, _) => match zpure ins x L st with
      | some q => zpr f μ (pc + len) q.1 q.2
      | none => none
    | _ => none
theorem zst_p {X : ZX} {μ : Nat} {S : ZS} : ∀ (n : Nat) {pc pc' : Nat} {L L' st st' : List Value}, zpr n μ pc L st = some (pc', L', st') → zev X μ pc L st S = zev X μ pc' L' st' S
  | 0, pc, pc', L, L', st, st', h => by cases h; rfl
  | n + 1, pc, pc', L, L', st, st', h => by
    rw [zpr] at h
    split at h
    · rename_i off len x y hf
      split at h
      · rename_i h0
        refine (zst_2 hf (pc' := ztgt pc off) (st' := st) ?_).trans (zst_p n h)
        show (if 0 ≤ (pc : Int) + off then some (ztgt pc off, st) else none) = _
        rw [if_pos h0]
      · cases h
    · rename_i ins len x y hne hf
      split at h
      · rename_i q hq
        exact (zst_0 hf hq).trans (zst_p n h)
      · cases h
    · cases h
