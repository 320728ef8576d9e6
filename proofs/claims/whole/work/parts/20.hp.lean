/-! The small machine over the law's heap: every cell's place is known; what changes is the ints (D), and the law's two answer rows (O). -/
/-- an object (class, fields: none = an int that changes, inl = a reference, inr = an int that stays), or an array (kind, length, references) -/
abbrev ZK : Type := (Nat × List (Option (Nat ⊕ Int32))) ⊕ (Nat × Nat × List Nat)
abbrev ZD2 : Type := Nat → Nat → Int32
abbrev ZO2 : Type := (Nat → Int64) × (Nat → UInt64)
def zkM (m : Nat) : List ZK := [.inl (2, [some (.inl (m + 1)), some (.inl (m + 3)), some (.inl (m + 5)), some (.inl (m + 7)), some (.inl (m + 9)), some (.inl (m + 11)), none]),
  .inl (5, [some (.inr 1), some (.inr 5), some (.inl (m + 2))]), .inr (0, 5, []), .inl (5, [some (.inr 1), some (.inr 15), some (.inl (m + 4))]), .inr (0, 15, []),
  .inl (5, [some (.inr 6), some (.inr 12), some (.inl (m + 6))]), .inr (0, 72, []), .inl (5, [some (.inr 72), some (.inr 5), some (.inl (m + 8))]), .inr (0, 360, []),
  .inl (5, [some (.inr 64), some (.inr 3), some (.inl (m + 10))]), .inr (0, 192, []), .inl (5, [some (.inr 6), some (.inr 1), some (.inl (m + 12))]), .inr (0, 6, [])]
def zsk : List ZK :=
  [.inl (7, [some (.inl 1), some (.inl 2), some (.inl 4), some (.inl 17), some (.inl 18), some (.inl 20), some (.inl 33), some (.inl 46), some (.inl 59), some (.inl 165), none, none]),
   .inl (4, [some (.inl 2), some (.inl 4), none, none, none, none, none, none, none]),
   .inl (0, [some (.inl 3), none]), .inr (0, 600, [])] ++ (zkM 4 ++
  ([.inl (6, [some (.inl 18)]), .inl (0, [some (.inl 19), none]), .inr (0, 1024, [])] ++ (zkM 20 ++ (zkM 33 ++ (zkM 46 ++
  ([.inl (1, [some (.inl 60), none, none]), .inr (5, 8, [61, 74, 87, 100, 113, 126, 139, 152])] ++ (zkM 61 ++ (zkM 74 ++ (zkM 87 ++ (zkM 100 ++ (zkM 113 ++ (zkM 126 ++ (zkM 139 ++ (zkM 152 ++
  [.inl (3, [some (.inl 166), some (.inl 167), none]), .inr (0, 72, []), .inr (2, 72, []),
   .inl (8, [none, none, none, none, none, none, none, none, some (.inl 169), some (.inl 170), some (.inl 171), some (.inl 172), some (.inl 173), some (.inl 174), none, some (.inl 175), some (.inl 176), none, none, none, none, none, none, none, none, none, none, none, none, none, none, none, none, none, some (.inl 177), some (.inl 178), some (.inl 179), some (.inl 180), some (.inl 181), none, none, some (.inl 182), none]),
   .inr (0, 36, []), .inr (0, 6, []), .inr (0, 6, []), .inr (0, 540, []), .inr (0, 540, []), .inr (0, 5400, []), .inr (4, 2, []), .inr (0, 600, []), .inr (0, 540, []), .inr (0, 36, []), .inr (0, 6, []), .inr (0, 6, []), .inr (0, 72, []), .inr (0, 1200, []), .inr (1, 1, []), .inr (3, 1, [])]))))))))))))))
theorem zsk_len : zsk.length = 185 := by decide +kernel
def zfl (D : Nat → Int32) : Nat → List (Option (Nat ⊕ Int32)) → List Value
  | _, [] => []
  | k, none :: r => .int (D k) :: zfl D (k + 1) r
  | k, some (.inl a) :: r => .ref a :: zfl D (k + 1) r
  | k, some (.inr c) :: r => .int c :: zfl D (k + 1) r
def zent (D : Nat → Int32) (O : ZO2) : ZK → ZE
  | .inl o => .inr (o.1, zfl D 0 o.2)
  | .inr (0, n, _) => .inl (0, n, .inl D)
  | .inr (1, n, _) => .inl (1, n, .inr (.inl O.1))
  | .inr (2, n, _) => .inl (2, n, .inr (.inr (.inl fun j => (D j).toUInt32)))
  | .inr (3, n, _) => .inl (3, n, .inr (.inr (.inr (.inl O.2))))
  | .inr (4, n, _) => .inl (4, n, .inl D)
  | .inr (_, n, l) => .inl (5, n, .inr (.inr (.inr (.inr fun j => l[j]?))))
def zHP (D : ZD2) (O : ZO2) : ZH := fun a => match zsk[a]? with
  | none => zNo
  | some k => zent (D a) O k
/-- one int written -/
def zw (D : ZD2) (a k : Nat) (v : Int32) : ZD2 := fun b j => if b = a ∧ j = k then v else D b j
theorem zw_self (D : ZD2) (a k : Nat) (v : Int32) : zw D a k v a k = v := if_pos ⟨rfl, rfl⟩
theorem zw_ne {D : ZD2} {a k b j : Nat} {v : Int32} (h : ¬ (b = a ∧ j = k)) : zw D a k v b j = D b j := if_neg h
theorem zw_nea {D : ZD2} {a k b j : Nat} {v : Int32} (h : b ≠ a) : zw D a k v b j = D b j := if_neg fun q => h q.1
theorem zw_row {D : ZD2} {a k b : Nat} {v : Int32} (h : b ≠ a) : zw D a k v b = D b := funext fun _ => zw_nea h
theorem zw_upd (D : ZD2) (a k : Nat) (v : Int32) : zw D a k v a = upd (D a) k v := by
  funext j
  unfold zw upd
  by_cases h : j = k <;> simp [h]
theorem zHP_ne {D : ZD2} {O : ZO2} {a k b : Nat} {v : Int32} (h : b ≠ a) : zHP (zw D a k v) O b = zHP D O b := by
  unfold zHP
  rw [zw_row h]
theorem zfl_len (D : Nat → Int32) : ∀ (l : List (Option (Nat ⊕ Int32))) (k : Nat), (zfl D k l).length = l.length
  | [], _ => rfl
  | none :: r, k => by rw [zfl, List.length_cons, List.length_cons, zfl_len D r]
  | some (.inl a) :: r, k => by rw [zfl, List.length_cons, List.length_cons, zfl_len D r]
  | some (.inr c) :: r, k => by rw [zfl, List.length_cons, List.length_cons, zfl_len D r]
theorem zfl_upd {D : Nat → Int32} {v : Int32} : ∀ (l : List (Option (Nat ⊕ Int32))) (k i : Nat), l[i]? = some none → zfl (upd D (k + i) v) k l = (zfl D k l).set i (.int v)
  | [], k, i, h => by cases i <;> cases h
  | x :: r, k, 0, h => by
    have hx : x = none := Option.some.inj h
    subst hx
    rw [zfl, zfl, List.set_cons_zero]
    have e1 : upd D (k + 0) v k = v := by unfold upd; simp
    have e2 : ∀ (l : List (Option (Nat ⊕ Int32))) (j : Nat), k < j → zfl (upd D (k + 0) v) j l = zfl D j l := by
      intro l
      induction l with
      | nil => intro j _; rfl
      | cons y l ih =>
        intro j hj
        match y with
        | none =>
          rw [zfl, zfl, ih (j + 1) (by omega)]
          have : upd D (k + 0) v j = D j := by unfold upd; rw [if_neg (by omega)]
          rw [this]
        | some (.inl a) => rw [zfl, zfl, ih (j + 1) (by omega)]
        | some (.inr c) => rw [zfl, zfl, ih (j + 1) (by omega)]
    rw [e1, e2 r (k + 1) (by omega)]
  | x :: r, k, i + 1, h => by
    have ih := zfl_upd (D := D) (v := v) r (k + 1) i h
    rw [show k + 1 + i = k + (i + 1) by omega] at ih
    have e1 : upd D (k + (i + 1)) v k = D k := by unfold upd; rw [if_neg (by omega)]
    match x with
    | none => rw [zfl, zfl, List.set_cons_succ, ih, e1]
    | some (.inl a) => rw [zfl, zfl, List.set_cons_succ, ih]
    | some (.inr c) => rw [zfl, zfl, List.set_cons_succ, ih]
theorem zHP_set {D : ZD2} {O : ZO2} {a k : Nat} {v : Int32} {e : ZE} (h : zHP (zw D a k v) O a = e) : zset (zHP D O) a e = zHP (zw D a k v) O := by
  funext b
  unfold zset
  by_cases hb : b = a
  · rw [if_pos hb, hb, h]
  · rw [if_neg hb, zHP_ne hb]
theorem zHP_putF {D : ZD2} {O : ZO2} {a c k : Nat} {fs : List (Option (Nat ⊕ Int32))} {v : Int32} (h : zsk[a]? = some (.inl (c, fs))) (hk : fs[k]? = some none) : zputF (zHP D O) a c k (.int v) = some (zHP (zw D a k v) O) := by
  have e1 : zHP D O a = .inr (c, zfl (D a) 0 fs) := by unfold zHP; rw [h]; rfl
  have e2 : zHP (zw D a k v) O a = .inr (c, (zfl (D a) 0 fs).set k (.int v)) := by
    have e3 : zHP (zw D a k v) O a = .inr (c, zfl (zw D a k v a) 0 fs) := by unfold zHP; rw [h]; rfl
    have e4 := zfl_upd (D := D a) (v := v) fs 0 k hk
    rw [Nat.zero_add] at e4
    rw [e3, zw_upd, e4]
  unfold zputF
  rw [e1]
  show (if c = c ∧ k < (zfl (D a) 0 fs).length then some (zset (zHP D O) a (.inr (c, (zfl (D a) 0 fs).set k (.int v)))) else none) = _
  rw [if_pos ⟨rfl, by rw [zfl_len]; exact (List.getElem?_eq_some_iff.mp hk).1⟩, zHP_set e2]
theorem zHP_ist {D : ZD2} {O : ZO2} {a n : Nat} {l : List Nat} {j v : Int32} (h : zsk[a]? = some (.inr (0, n, l))) : zist (zHP D O) a j v = if j < 0 ∨ n ≤ j.toNatClampNeg then none else some (zHP (zw D a j.toNatClampNeg v) O) := by
  have e1 : ∀ D, zHP D O a = .inl (0, n, .inl (D a)) := fun D => by unfold zHP; rw [h]; rfl
  unfold zist
  rw [e1]
  show (if j < 0 ∨ n ≤ j.toNatClampNeg then none else some (zset (zHP D O) a (.inl (0, n, .inl (upd (D a) j.toNatClampNeg v))))) = _
  split
  · rfl
  · rw [zHP_set]
    rw [e1, zw_upd]
theorem zHP_bst {D : ZD2} {O : ZO2} {a n : Nat} {l : List Nat} {j v : Int32} (h : zsk[a]? = some (.inr (4, n, l))) : zbst (zHP D O) a j v = if j < 0 ∨ n ≤ j.toNatClampNeg then none else some (zHP (zw D a j.toNatClampNeg (vp_nar .boolean v)) O) := by
  have e1 : ∀ D, zHP D O a = .inl (4, n, .inl (D a)) := fun D => by unfold zHP; rw [h]; rfl
  unfold zbst
  rw [e1]
  show (if j < 0 ∨ n ≤ j.toNatClampNeg then none else some (zset (zHP D O) a (.inl (4, n, .inl (upd (D a) j.toNatClampNeg (vp_nar .boolean v)))))) = _
  split
  · rfl
  · rw [zHP_set]
    rw [e1, zw_upd]
theorem zHP_fst {D : ZD2} {O : ZO2} {a n : Nat} {l : List Nat} {j : Int32} {v : UInt32} (h : zsk[a]? = some (.inr (2, n, l))) : zfst (zHP D O) a j v = if j < 0 ∨ n ≤ j.toNatClampNeg then none else some (zHP (zw D a j.toNatClampNeg v.toInt32) O) := by
  have e1 : ∀ D, zHP D O a = .inl (2, n, .inr (.inr (.inl fun j => (D a j).toUInt32))) := fun D => by unfold zHP; rw [h]; rfl
  unfold zfst
  rw [e1]
  show (if j < 0 ∨ n ≤ j.toNatClampNeg then none else some (zset (zHP D O) a (.inl (2, n, .inr (.inr (.inl (vf_upd (fun j => (D a j).toUInt32) j.toNatClampNeg v))))))) = _
  split
  · rfl
  · rw [zHP_set]
    rw [e1, zw_upd]
    congr 6
    funext q
    unfold upd vf_upd
    split <;> rfl
theorem zHP_ild {D : ZD2} {O : ZO2} {a n : Nat} {l : List Nat} {j : Int32} (h : zsk[a]? = some (.inr (0, n, l))) : zild (zHP D O) a j = if j < 0 ∨ n ≤ j.toNatClampNeg then none else some (D a j.toNatClampNeg) := by
  have e1 : zHP D O a = .inl (0, n, .inl (D a)) := by unfold zHP; rw [h]; rfl
  unfold zild
  rw [e1]
  rfl
theorem zHP_bld {D : ZD2} {O : ZO2} {a n : Nat} {l : List Nat} {j : Int32} (h : zsk[a]? = some (.inr (4, n, l))) : zbld (zHP D O) a j = if j < 0 ∨ n ≤ j.toNatClampNeg then none else some (D a j.toNatClampNeg) := by
  have e1 : zHP D O a = .inl (4, n, .inl (D a)) := by unfold zHP; rw [h]; rfl
  unfold zbld
  rw [e1]
  rfl
theorem zHP_fld {D : ZD2} {O : ZO2} {a n : Nat} {l : List Nat} {j : Int32} (h : zsk[a]? = some (.inr (2, n, l))) : zfld (zHP D O) a j = if j < 0 ∨ n ≤ j.toNatClampNeg then none else some (D a j.toNatClampNeg).toUInt32 := by
  have e1 : zHP D O a = .inl (2, n, .inr (.inr (.inl fun j => (D a j).toUInt32))) := by unfold zHP; rw [h]; rfl
  unfold zfld
  rw [e1]
  rfl
theorem zHP_alen {D : ZD2} {O : ZO2} {a t n : Nat} {l : List Nat} (h : zsk[a]? = some (.inr (t, n, l))) : zalen (zHP D O) a = some (Int32.ofNat n) := by
  unfold zalen zHP
  rw [h]
  match t with
  | 0 => rfl
  | 1 => rfl
  | 2 => rfl
  | 3 => rfl
  | 4 => rfl
  | t + 5 => rfl
theorem zHP_getF {D : ZD2} {O : ZO2} {a c k : Nat} {fs : List (Option (Nat ⊕ Int32))} {v : Value} (h : zsk[a]? = some (.inl (c, fs))) (hk : (zfl (D a) 0 fs)[k]? = some v) : zgetF (zHP D O) a c k = some v := by
  have e1 : zHP D O a = .inr (c, zfl (D a) 0 fs) := by unfold zHP; rw [h]; rfl
  unfold zgetF
  rw [e1]
  show (if c = c then (zfl (D a) 0 fs)[k]? else none) = some v
  rw [if_pos rfl, hk]
/-! Steps of zev. -/
def zcon (x : Option ZR) (f : Option Value → ZS → Option ZR) : Option ZR := match x with
  | none => none
  | some (.inl v, S) => f v S
  | some (.inr E, S) => some (.inr E, S)
theorem zcon_none (f : Option Value → ZS → Option ZR) : zcon none f = none := rfl
theorem zcon_inl (v : Option Value) (S : ZS) (f : Option Value → ZS → Option ZR) : zcon (some (.inl v, S)) f = f v S := rfl
theorem zcon_inr (E : Nat) (S : ZS) (f : Option Value → ZS → Option ZR) : zcon (some (.inr E, S)) f = some (.inr E, S) := rfl
section ZST
variable {X : ZX} {μ pc len x y : Nat} {L L' st st' : List Value} {S S' : ZS} {ins : Instr}
theorem zst_0 (hf : zfetch μ pc = some (ins, len, 0, x, y)) (h : zpure ins x L st = some (L', st')) : zev X μ pc L st S = zev X μ (pc + len) L' st' S := by
  rw [zev_unfold, hf]
  show zbind (zpure ins x L st) _ = _
  rw [h]
  rfl
theorem zst_1 (hf : zfetch μ pc = some (ins, len, 1, x, y)) (h : zheap ins x y st S = some (st', S')) : zev X μ pc L st S = zev X μ (pc + len) L st' S' := by
  rw [zev_unfold, hf]
  show zbind (zheap ins x y st S) _ = _
  rw [h]
  rfl
theorem zst_1n (hf : zfetch μ pc = some (ins, len, 1, x, y)) (h : zheap ins x y st S = none) : zev X μ pc L st S = none := by
  rw [zev_unfold, hf]
  show zbind (zheap ins x y st S) _ = _
  rw [h]
  rfl
theorem zst_2 {pc' : Nat} (hf : zfetch μ pc = some (ins, len, 2, x, y)) (h : zjump ins pc st = some (pc', st')) : zev X μ pc L st S = zev X μ pc' L st' S := by
  rw [zev_unfold, hf]
  show zbind (zjump ins pc st) _ = _
  rw [h]
  rfl
theorem zst_3 {v : Option Value} (hf : zfetch μ pc = some (ins, len, 3, x, y)) (h : zret ins (zsig μ).2.2 st = some v) : zev X μ pc L st S = some (.inl v, S) := by
  rw [zev_unfold, hf]
  show zbind (zret ins (zsig μ).2.2 st) _ = _
  rw [h]
  rfl
theorem zst_5 (hf : zfetch μ pc = some (ins, len, 5, x, y)) (hh : zhand μ = []) : zev X μ pc L [] S = some (.inr x, (S.1, S.2.1, S.2.2.1 + 1, S.2.2.2 + 6)) := by
  rw [zev_unfold, hf]
  show (if _ then _ else _) = _
  rw [if_pos ⟨rfl, hh⟩]
theorem zst_6 (hf : zfetch μ pc = some (ins, 3, 6, x, y)) (h8 : zsum st ≤ 8) (h : znat x st S = some (st', S')) : zev X μ pc L st S = zev X μ (pc + 3) L st' S' := by
  rw [zev_unfold, hf]
  show (if _ then _ else _) = _
  rw [if_pos h8, h]
  rfl
/-- a call's words and rest, where it may be done -/
def zcw (x z : Nat) (st : List Value) (h : ZH) : Option (List Value × List Value) :=
  if ((zsig x).1 ≤ st.length ∧ (zsum (st.drop (zsig x).1) ≤ 8 ∧ (zargsL (st.take (zsig x).1).reverse).length ≤ (zsig x).2.1)) ∧ zrcv z (st.take (zsig x).1).reverse h = true then some (zentry (zsig x).2.1 (st.take (zsig x).1).reverse, st.drop (zsig x).1) else none
theorem zst_4 {L1 rest : List Value} (hf : zfetch μ pc = some (ins, 3, 4, x, y)) (hh : zhand μ = []) (hc : zcw x y st S.1 = some (L1, rest)) : zev X μ pc L st S = zcon (zev X x 0 L1 [] S) fun v S' => zev X μ (pc + 3) L (v.toList ++ rest) S' := by
  rw [zev_unfold, hf]
  unfold zcw at hc
  split at hc
  · rename_i hcd
    cases hc
    show (if _ then _ else _) = _
    rw [if_pos hcd]
    cases e : zev X x 0 (zentry (zsig x).2.1 (st.take (zsig x).1).reverse) [] S with
    | none => rfl
    | some r =>
      obtain ⟨o, S1⟩ := r
      cases o with
      | inl v => rfl
      | inr E =>
        show zback (zev X μ) μ pc 3 L (st.drop (zsig x).1) (Sum.inr E, S1) = _
        unfold zback
        rw [hh]
        rfl
  · cases hc
theorem zst_if {cd : ClassFile.Cond} {off : Int} {a : Int32} (hf : zfetch μ pc = some (.ifCond cd off, 3, 2, x, y)) (h0 : 0 ≤ (pc : Int) + off) : zev X μ pc L (.int a :: st) S = if zcnd cd a 0 = true then zev X μ (ztgt pc off) L st S else zev X μ (pc + 3) L st S := by
  rw [zev_unfold, hf]
  show zbind (zzif pc off (zcnd cd a 0) st) _ = _
  unfold zzif
  rw [if_pos h0]
  show zev X μ (if zcnd cd a 0 = true then ztgt pc off else pc + 3) L st S = _
  split <;> rfl
theorem zst_icmp {cd : ClassFile.Cond} {off : Int} {a b : Int32} (hf : zfetch μ pc = some (.if_icmp cd off, 3, 2, x, y)) (h0 : 0 ≤ (pc : Int) + off) : zev X μ pc L (.int b :: .int a :: st) S = if zcnd cd a b = true then zev X μ (ztgt pc off) L st S else zev X μ (pc + 3) L st S := by
  rw [zev_unfold, hf]
  show zbind (zzif pc off (zcnd cd a b) st) _ = _
  unfold zzif
  rw [if_pos h0]
  show zev X μ (if zcnd cd a b = true then ztgt pc off else pc + 3) L st S = _
  split <;> rfl
end ZST
/-- many pure steps and gotos at once -/
def zpr : Nat → Nat → Nat → List Value → List Value → Option (Nat × List Value × List Value)
  | 0, _, pc, L, st => some (pc, L, st)
  | f + 1, μ, pc, L, st => match zfetch μ pc with
    | some (.goto off, _, 2, _, _) => if 0 ≤ (pc : Int) + off then zpr f μ (ztgt pc off) L st else none
    | some (ins, len, 0, x, _) => match zpure ins x L st with
      | some q => zpr f μ (pc + len) q.1 q.2
      | none => none
    | _ => none
theorem zst_p {X : ZX} {μ : Nat} {S : ZS} : ∀ (n : Nat) {pc pc' : Nat} {L L' st st' : List Value}, zpr n μ pc L st = some (pc', L', st') → zev X μ pc L st S = zev X μ pc' L' st' S
  | 0, pc, pc', L, L', st, st', h => by cases h; rfl
  | n + 1, pc, pc', L, L', st, st', h => by
    rw [zpr] at h
    split at h
    · rename_i off len x y hf
      split at h
      · rename_i h0
        refine (zst_2 hf (pc' := ztgt pc off) (st' := st) ?_).trans (zst_p n h)
        show (if 0 ≤ (pc : Int) + off then some (ztgt pc off, st) else none) = _
        rw [if_pos h0]
      · cases h
    · rename_i ins len x y hne hf
      split at h
      · rename_i q hq
        exact (zst_0 hf hq).trans (zst_p n h)
      · cases h
    · cases h
/-! Steps over the known heap. -/
section ZSH
variable {X : ZX} {μ pc len x y a b n t : Nat} {i : Nat} {L st : List Value} {S : ZS} {D : ZD2} {O : ZO2} {k : Nat × Nat × Nat} {l : List Nat} {fs : List (Option (Nat ⊕ Int32))} {j v w : Int32}
theorem zst_gf {u : Value} (hf : zfetch μ pc = some (.getfield i, 3, 1, x, y)) (hk : zsk[a]? = some (.inl (x, fs))) (hv : (zfl (D a) 0 fs)[y]? = some u) : zev X μ pc L (.ref a :: st) (zHP D O, k) = zev X μ (pc + 3) L (u :: st) (zHP D O, k) :=
  zst_1 hf (zbind_eq.mpr ⟨u, zHP_getF hk hv, rfl⟩)
theorem zst_pf (hf : zfetch μ pc = some (.putfield i, 3, 1, x, y)) (hk : zsk[a]? = some (.inl (x, fs))) (hy : fs[y]? = some none) (hfit : zfit (zTys.getD x (fun _ => .byte) y) (.int v) = true) : zev X μ pc L (.int v :: .ref a :: st) (zHP D O, k) = zev X μ (pc + 3) L st (zHP (zw D a y v) O, k) := by
  refine zst_1 hf ?_
  show (if zfit (zTys.getD x (fun _ => .byte) y) (.int v) = true then zbind (zputF (zHP D O) a x y (.int v)) fun h => some (st, (h, k)) else none) = _
  rw [if_pos hfit, zHP_putF hk hy]
  rfl
theorem zst_pfb (hf : zfetch μ pc = some (.putfield i, 3, 1, x, y)) (hk : zsk[a]? = some (.inl (x, fs))) (hy : fs[y]? = some none) (hty : zTys.getD x (fun _ => .byte) y = .boolean) : zev X μ pc L (.int v :: .ref a :: st) (zHP D O, k) = if v = 0 ∨ v = 1 then zev X μ (pc + 3) L st (zHP (zw D a y v) O, k) else none := by
  split
  · rename_i h
    exact zst_pf hf hk hy (by rw [hty]; rcases h with rfl | rfl <;> rfl)
  · rename_i h
    refine zst_1n hf ?_
    show (if zfit (zTys.getD x (fun _ => .byte) y) (.int v) = true then zbind (zputF (zHP D O) a x y (.int v)) fun h => some (st, (h, k)) else none) = _
    rw [if_neg]
    rw [hty]
    show ¬ ((v == 0 || v == 1) = true)
    simpa using h
theorem zst_al (hf : zfetch μ pc = some (.arraylength, 1, 1, x, y)) (hk : zsk[a]? = some (.inr (t, n, l))) : zev X μ pc L (.ref a :: st) (zHP D O, k) = zev X μ (pc + 1) L (.int (Int32.ofNat n) :: st) (zHP D O, k) :=
  zst_1 hf (zbind_eq.mpr ⟨_, zHP_alen hk, rfl⟩)
theorem zst_iald (hf : zfetch μ pc = some (.iaload, 1, 1, x, y)) (hk : zsk[a]? = some (.inr (0, n, l))) : zev X μ pc L (.int j :: .ref a :: st) (zHP D O, k) = if j < 0 ∨ n ≤ j.toNatClampNeg then none else zev X μ (pc + 1) L (.int (D a j.toNatClampNeg) :: st) (zHP D O, k) := by
  split
  · rename_i h
    refine zst_1n hf ?_
    show zbind (zild (zHP D O) a j) _ = none
    rw [zHP_ild hk, if_pos h]
    rfl
  · rename_i h
    refine zst_1 hf ?_
    show zbind (zild (zHP D O) a j) _ = _
    rw [zHP_ild hk, if_neg h]
    rfl
theorem zst_bald (hf : zfetch μ pc = some (.baload, 1, 1, x, y)) (hk : zsk[a]? = some (.inr (4, n, l))) : zev X μ pc L (.int j :: .ref a :: st) (zHP D O, k) = if j < 0 ∨ n ≤ j.toNatClampNeg then none else zev X μ (pc + 1) L (.int (D a j.toNatClampNeg) :: st) (zHP D O, k) := by
  split
  · rename_i h
    refine zst_1n hf ?_
    show zbind (zbld (zHP D O) a j) _ = none
    rw [zHP_bld hk, if_pos h]
    rfl
  · rename_i h
    refine zst_1 hf ?_
    show zbind (zbld (zHP D O) a j) _ = _
    rw [zHP_bld hk, if_neg h]
    rfl
theorem zst_fald (hf : zfetch μ pc = some (.faload, 1, 1, x, y)) (hk : zsk[a]? = some (.inr (2, n, l))) : zev X μ pc L (.int j :: .ref a :: st) (zHP D O, k) = if j < 0 ∨ n ≤ j.toNatClampNeg then none else zev X μ (pc + 1) L (.float (D a j.toNatClampNeg).toUInt32 :: st) (zHP D O, k) := by
  split
  · rename_i h
    refine zst_1n hf ?_
    show zbind (zfld (zHP D O) a j) _ = none
    rw [zHP_fld hk, if_pos h]
    rfl
  · rename_i h
    refine zst_1 hf ?_
    show zbind (zfld (zHP D O) a j) _ = _
    rw [zHP_fld hk, if_neg h]
    rfl
theorem zst_iast (hf : zfetch μ pc = some (.iastore, 1, 1, x, y)) (hk : zsk[a]? = some (.inr (0, n, l))) : zev X μ pc L (.int v :: .int j :: .ref a :: st) (zHP D O, k) = if j < 0 ∨ n ≤ j.toNatClampNeg then none else zev X μ (pc + 1) L st (zHP (zw D a j.toNatClampNeg v) O, k) := by
  split
  · rename_i h
    refine zst_1n hf ?_
    show zbind (zist (zHP D O) a j v) _ = none
    rw [zHP_ist hk, if_pos h]
    rfl
  · rename_i h
    refine zst_1 hf ?_
    show zbind (zist (zHP D O) a j v) _ = _
    rw [zHP_ist hk, if_neg h]
    rfl
theorem zst_bast (hf : zfetch μ pc = some (.bastore, 1, 1, x, y)) (hk : zsk[a]? = some (.inr (4, n, l))) : zev X μ pc L (.int v :: .int j :: .ref a :: st) (zHP D O, k) = if j < 0 ∨ n ≤ j.toNatClampNeg then none else zev X μ (pc + 1) L st (zHP (zw D a j.toNatClampNeg (vp_nar .boolean v)) O, k) := by
  split
  · rename_i h
    refine zst_1n hf ?_
    show zbind (zbst (zHP D O) a j v) _ = none
    rw [zHP_bst hk, if_pos h]
    rfl
  · rename_i h
    refine zst_1 hf ?_
    show zbind (zbst (zHP D O) a j v) _ = _
    rw [zHP_bst hk, if_neg h]
    rfl
theorem zst_fast {u : UInt32} (hf : zfetch μ pc = some (.fastore, 1, 1, x, y)) (hk : zsk[a]? = some (.inr (2, n, l))) : zev X μ pc L (.float u :: .int j :: .ref a :: st) (zHP D O, k) = if j < 0 ∨ n ≤ j.toNatClampNeg then none else zev X μ (pc + 1) L st (zHP (zw D a j.toNatClampNeg u.toInt32) O, k) := by
  split
  · rename_i h
    refine zst_1n hf ?_
    show zbind (zfst (zHP D O) a j u) _ = none
    rw [zHP_fst hk, if_pos h]
    rfl
  · rename_i h
    refine zst_1 hf ?_
    show zbind (zfst (zHP D O) a j u) _ = _
    rw [zHP_fst hk, if_neg h]
    rfl
theorem zst_fdiv {u w : UInt32} (hf : zfetch μ pc = some (.fdiv, 1, 0, x, y)) : zev X μ pc L (.float w :: .float u :: st) S = if FP.fdiv u w &&& 0x7fffffff ≤ 0x7f800000 then zev X μ (pc + 1) L (.float (FP.fdiv u w) :: st) S else none := by
  rw [zev_unfold, hf]
  show zbind (if FP.fdiv u w &&& 0x7fffffff ≤ 0x7f800000 then some (L, .float (FP.fdiv u w) :: st) else none) _ = _
  split <;> rfl
theorem zst_ddiv {u w : UInt64} (hf : zfetch μ pc = some (.ddiv, 1, 0, x, y)) : zev X μ pc L (.double w :: .double u :: st) S = if FP.ddiv u w &&& 0x7fffffffffffffff ≤ 0x7ff0000000000000 then zev X μ (pc + 1) L (.double (FP.ddiv u w) :: st) S else none := by
  rw [zev_unfold, hf]
  show zbind (if FP.ddiv u w &&& 0x7fffffffffffffff ≤ 0x7ff0000000000000 then some (L, .double (FP.ddiv u w) :: st) else none) _ = _
  split <;> rfl
theorem zst_f2d {u : UInt32} (hf : zfetch μ pc = some (.f2d, 1, 0, x, y)) : zev X μ pc L (.float u :: st) S = if FP.f2d u &&& 0x7fffffffffffffff ≤ 0x7ff0000000000000 then zev X μ (pc + 1) L (.double (FP.f2d u) :: st) S else none := by
  rw [zev_unfold, hf]
  show zbind (if FP.f2d u &&& 0x7fffffffffffffff ≤ 0x7ff0000000000000 then some (L, .double (FP.f2d u) :: st) else none) _ = _
  split <;> rfl
end ZSH
/-! Branches, with '=' and '<' alone. -/
theorem z01_of {a : Int32} (h : a &&& 1 = a) : a = 0 ∨ a = 1 := by
  have h1 : a.toUInt32 &&& 1 = a.toUInt32 := congrArg Int32.toUInt32 h
  have h2 : a.toUInt32.toNat % 2 = a.toUInt32.toNat := by
    have := congrArg UInt32.toNat h1
    rw [UInt32.toNat_and] at this
    rw [← Nat.and_one_is_mod]
    exact this
  have h3 : a.toUInt32.toNat = 0 ∨ a.toUInt32.toNat = 1 := by omega
  rcases h3 with h3 | h3
  · left
    have : a.toUInt32 = 0 := UInt32.toNat.inj h3
    exact congrArg Int32.ofUInt32 this
  · right
    have : a.toUInt32 = 1 := UInt32.toNat.inj h3
    exact congrArg Int32.ofUInt32 this
section ZSB
variable {X : ZX} {μ pc tgt x y : Nat} {L st : List Value} {S : ZS} {off : Int} {a b : Int32}
theorem ztgt_of (h : (pc : Int) + off = (tgt : Int)) : 0 ≤ (pc : Int) + off ∧ ztgt pc off = tgt := ⟨by omega, by unfold ztgt; omega⟩
theorem zb_eq (hf : zfetch μ pc = some (.ifCond .eq off, 3, 2, x, y)) (ht : (pc : Int) + off = (tgt : Int)) : zev X μ pc L (.int a :: st) S = if a = 0 then zev X μ tgt L st S else zev X μ (pc + 3) L st S := by
  rw [zst_if hf (ztgt_of ht).1, (ztgt_of ht).2]
  by_cases h : a = 0 <;> simp [zcnd, h]
theorem zb_ne (hf : zfetch μ pc = some (.ifCond .ne off, 3, 2, x, y)) (ht : (pc : Int) + off = (tgt : Int)) : zev X μ pc L (.int a :: st) S = if a = 0 then zev X μ (pc + 3) L st S else zev X μ tgt L st S := by
  rw [zst_if hf (ztgt_of ht).1, (ztgt_of ht).2]
  by_cases h : a = 0 <;> simp [zcnd, h]
theorem zb_lt (hf : zfetch μ pc = some (.ifCond .lt off, 3, 2, x, y)) (ht : (pc : Int) + off = (tgt : Int)) : zev X μ pc L (.int a :: st) S = if a < 0 then zev X μ tgt L st S else zev X μ (pc + 3) L st S := by
  rw [zst_if hf (ztgt_of ht).1, (ztgt_of ht).2]
  by_cases h : a < 0 <;> simp [zcnd, h]
theorem zb_ge (hf : zfetch μ pc = some (.ifCond .ge off, 3, 2, x, y)) (ht : (pc : Int) + off = (tgt : Int)) : zev X μ pc L (.int a :: st) S = if a < 0 then zev X μ (pc + 3) L st S else zev X μ tgt L st S := by
  rw [zst_if hf (ztgt_of ht).1, (ztgt_of ht).2]
  by_cases h : a < 0
  · rw [if_pos h, if_neg (by simpa [zcnd] using Int32.not_le.mpr h)]
  · rw [if_neg h, if_pos (by simpa [zcnd] using Int32.not_lt.mp h)]
theorem zb_gt (hf : zfetch μ pc = some (.ifCond .gt off, 3, 2, x, y)) (ht : (pc : Int) + off = (tgt : Int)) : zev X μ pc L (.int a :: st) S = if 0 < a then zev X μ tgt L st S else zev X μ (pc + 3) L st S := by
  rw [zst_if hf (ztgt_of ht).1, (ztgt_of ht).2]
  by_cases h : 0 < a <;> simp [zcnd, h]
theorem zb_le (hf : zfetch μ pc = some (.ifCond .le off, 3, 2, x, y)) (ht : (pc : Int) + off = (tgt : Int)) : zev X μ pc L (.int a :: st) S = if 0 < a then zev X μ (pc + 3) L st S else zev X μ tgt L st S := by
  rw [zst_if hf (ztgt_of ht).1, (ztgt_of ht).2]
  by_cases h : 0 < a
  · rw [if_pos h, if_neg (by simpa [zcnd] using Int32.not_le.mpr h)]
  · rw [if_neg h, if_pos (by simpa [zcnd] using Int32.not_lt.mp h)]
theorem zc_eq (hf : zfetch μ pc = some (.if_icmp .eq off, 3, 2, x, y)) (ht : (pc : Int) + off = (tgt : Int)) : zev X μ pc L (.int b :: .int a :: st) S = if a = b then zev X μ tgt L st S else zev X μ (pc + 3) L st S := by
  rw [zst_icmp hf (ztgt_of ht).1, (ztgt_of ht).2]
  by_cases h : a = b <;> simp [zcnd, h]
theorem zc_ne (hf : zfetch μ pc = some (.if_icmp .ne off, 3, 2, x, y)) (ht : (pc : Int) + off = (tgt : Int)) : zev X μ pc L (.int b :: .int a :: st) S = if a = b then zev X μ (pc + 3) L st S else zev X μ tgt L st S := by
  rw [zst_icmp hf (ztgt_of ht).1, (ztgt_of ht).2]
  by_cases h : a = b <;> simp [zcnd, h]
theorem zc_lt (hf : zfetch μ pc = some (.if_icmp .lt off, 3, 2, x, y)) (ht : (pc : Int) + off = (tgt : Int)) : zev X μ pc L (.int b :: .int a :: st) S = if a < b then zev X μ tgt L st S else zev X μ (pc + 3) L st S := by
  rw [zst_icmp hf (ztgt_of ht).1, (ztgt_of ht).2]
  by_cases h : a < b <;> simp [zcnd, h]
theorem zc_ge (hf : zfetch μ pc = some (.if_icmp .ge off, 3, 2, x, y)) (ht : (pc : Int) + off = (tgt : Int)) : zev X μ pc L (.int b :: .int a :: st) S = if a < b then zev X μ (pc + 3) L st S else zev X μ tgt L st S := by
  rw [zst_icmp hf (ztgt_of ht).1, (ztgt_of ht).2]
  by_cases h : a < b
  · rw [if_pos h, if_neg (by simpa [zcnd] using Int32.not_le.mpr h)]
  · rw [if_neg h, if_pos (by simpa [zcnd] using Int32.not_lt.mp h)]
theorem zc_gt (hf : zfetch μ pc = some (.if_icmp .gt off, 3, 2, x, y)) (ht : (pc : Int) + off = (tgt : Int)) : zev X μ pc L (.int b :: .int a :: st) S = if b < a then zev X μ tgt L st S else zev X μ (pc + 3) L st S := by
  rw [zst_icmp hf (ztgt_of ht).1, (ztgt_of ht).2]
  by_cases h : b < a <;> simp [zcnd, h]
theorem zc_le (hf : zfetch μ pc = some (.if_icmp .le off, 3, 2, x, y)) (ht : (pc : Int) + off = (tgt : Int)) : zev X μ pc L (.int b :: .int a :: st) S = if b < a then zev X μ (pc + 3) L st S else zev X μ tgt L st S := by
  rw [zst_icmp hf (ztgt_of ht).1, (ztgt_of ht).2]
  by_cases h : b < a
  · rw [if_pos h, if_neg (by simpa [zcnd] using Int32.not_le.mpr h)]
  · rw [if_neg h, if_pos (by simpa [zcnd] using Int32.not_lt.mp h)]
theorem zst_sw {dflt lo hi : Int} {offs : Array Int} {len : Nat} (hf : zfetch μ pc = some (.tableswitch dflt lo hi offs, len, 2, x, y)) : zev X μ pc L (.int a :: st) S = zbind (zswi pc dflt lo hi offs a) fun t => zev X μ t L st S := by
  rw [zev_unfold, hf]
  show zbind (zbind (zswi pc dflt lo hi offs a) fun t => some (t, st)) _ = _
  cases zswi pc dflt lo hi offs a <;> rfl
theorem zst_lk {dflt : Int} {ps : Array (Int × Int)} {len : Nat} (hf : zfetch μ pc = some (.lookupswitch dflt ps, len, 2, x, y)) : zev X μ pc L (.int a :: st) S = zbind (zlook pc dflt ps a) fun t => zev X μ t L st S := by
  rw [zev_unfold, hf]
  show zbind (zbind (zlook pc dflt ps a) fun t => some (t, st)) _ = _
  cases zlook pc dflt ps a <;> rfl
theorem zst_ri {pc : Nat} {len : Nat} (hf : zfetch μ pc = some (.ireturn, len, 3, x, y)) (ht : (zsig μ).2.2 = some .int) : zev X μ pc L [.int a] S = some (.inl (some (.int a)), S) := zst_3 hf (by
  rw [ht]
  show (if narrow .int (.int a) = .int a ∧ _ then _ else _) = _
  rw [if_pos ⟨rfl, Or.inl rfl⟩])
theorem zst_rz {pc : Nat} {len : Nat} (hf : zfetch μ pc = some (.ireturn, len, 3, x, y)) (ht : (zsig μ).2.2 = some .boolean) (ha : a &&& 1 = a) : zev X μ pc L [.int a] S = some (.inl (some (.int a)), S) := zst_3 hf (by
  rw [ht]
  show (if narrow .boolean (.int a) = .int a ∧ _ then _ else _) = _
  rw [if_pos ⟨congrArg Value.int ha, Or.inr (Or.inl rfl)⟩])
theorem zst_rc {pc : Nat} {len : Nat} (hf : zfetch μ pc = some (.ireturn, len, 3, x, y)) (ht : (zsig μ).2.2 = some .char) (ha : narrow .char (.int a) = .int a) : zev X μ pc L [.int a] S = some (.inl (some (.int a)), S) := zst_3 hf (by
  rw [ht]
  show (if narrow .char (.int a) = .int a ∧ _ then _ else _) = _
  rw [if_pos ⟨ha, Or.inr (Or.inr rfl)⟩])
theorem zst_rzg {pc : Nat} {len : Nat} (hf : zfetch μ pc = some (.ireturn, len, 3, x, y)) (ht : (zsig μ).2.2 = some .boolean) : zev X μ pc L [.int a] S = if a = 0 ∨ a = 1 then some (.inl (some (.int a)), S) else none := by
  split
  · rename_i h
    rcases h with rfl | rfl
    · exact zst_rz hf ht rfl
    · exact zst_rz hf ht rfl
  · rename_i h
    rw [zev_unfold, hf]
    show zbind (zret .ireturn (zsig μ).2.2 [.int a]) _ = _
    rw [ht]
    show zbind (if narrow .boolean (.int a) = .int a ∧ _ then _ else _) _ = _
    rw [if_neg]
    · rfl
    · rintro ⟨h1, -⟩
      have h2 : a &&& 1 = a := Value.int.inj h1
      exact h (z01_of h2)
end ZSB
theorem zig {c : Prop} [Decidable c] {a b b' : Option ZR} (h : b = b') : (if c then a else b) = (if c then a else b') := by rw [h]
theorem zigt {c : Prop} [Decidable c] {a a' b : Option ZR} (h : a = a') : (if c then a else b) = (if c then a' else b) := by rw [h]
theorem zig2 {c : Prop} [Decidable c] {a a' b b' : Option ZR} (h1 : a = a') (h2 : b = b') : (if c then a else b) = (if c then a' else b') := by rw [h1, h2]
def zcw0 (x : Nat) (st : List Value) : Option (List Value × List Value × List Value) :=
  if (zsig x).1 ≤ st.length ∧ (zsum (st.drop (zsig x).1) ≤ 8 ∧ (zargsL (st.take (zsig x).1).reverse).length ≤ (zsig x).2.1) then some ((st.take (zsig x).1).reverse, zentry (zsig x).2.1 (st.take (zsig x).1).reverse, st.drop (zsig x).1) else none
theorem zst_4g {X : ZX} {μ pc x y : Nat} {L st as L1 rest : List Value} {S : ZS} {ins : Instr} (hf : zfetch μ pc = some (ins, 3, 4, x, y)) (hh : zhand μ = []) (hc : zcw0 x st = some (as, L1, rest)) (hr : zrcv y as S.1 = true) : zev X μ pc L st S = zcon (zev X x 0 L1 [] S) fun v S' => zev X μ (pc + 3) L (v.toList ++ rest) S' := by
  refine zst_4 hf hh ?_
  unfold zcw0 at hc
  split at hc
  · rename_i hcd
    cases hc
    unfold zcw
    rw [if_pos ⟨hcd, hr⟩]
  · cases hc
theorem zrcv_of {a c : Nat} {fs : List (Option (Nat ⊕ Int32))} {as : List Value} {D : ZD2} {O : ZO2} (h : zsk[a]? = some (.inl (c, fs))) : zrcv (c + 10) (.ref a :: as) (zHP D O) = true := by
  have e1 : zHP D O a = .inr (c, zfl (D a) 0 fs) := by unfold zHP; rw [h]; rfl
  show (match zHP D O a with | .inr o => o.1 == c | .inl _ => false) = true
  rw [e1]
  exact beq_self_eq_true c
def zisT (t : Nat) (r c : Int32) (n : Nat) : Prop := zsk[t]? = some (.inl (5, [some (.inr r), some (.inr c), some (.inl (t + 1))])) ∧ zsk[t + 1]? = some (.inr (0, n, []))
def zisM (m : Nat) : Prop := zsk[m]? = some (.inl (2, [some (.inl (m + 1)), some (.inl (m + 3)), some (.inl (m + 5)), some (.inl (m + 7)), some (.inl (m + 9)), some (.inl (m + 11)), none])) ∧
  zisT (m + 1) 1 5 5 ∧ zisT (m + 3) 1 15 15 ∧ zisT (m + 5) 6 12 72 ∧ zisT (m + 7) 72 5 360 ∧ zisT (m + 9) 64 3 192 ∧ zisT (m + 11) 6 1 6
def zisB (b n : Nat) : Prop := zsk[b]? = some (.inl (0, [some (.inl (b + 1)), none])) ∧ zsk[b + 1]? = some (.inr (0, n, []))
theorem zisB_2 : zisB 2 600 := ⟨rfl, rfl⟩
theorem zisB_18 : zisB 18 1024 := ⟨rfl, rfl⟩
def zMs : List Nat := [4, 20, 33, 46, 61, 74, 87, 100, 113, 126, 139, 152]
theorem zisM_of : ∀ m ∈ zMs, zisM m := by
  unfold zMs
  refine List.forall_mem_cons.mpr ⟨?_, List.forall_mem_cons.mpr ⟨?_, List.forall_mem_cons.mpr ⟨?_, List.forall_mem_cons.mpr ⟨?_, List.forall_mem_cons.mpr ⟨?_, List.forall_mem_cons.mpr ⟨?_, List.forall_mem_cons.mpr ⟨?_, List.forall_mem_cons.mpr ⟨?_, List.forall_mem_cons.mpr ⟨?_, List.forall_mem_cons.mpr ⟨?_, List.forall_mem_cons.mpr ⟨?_, List.forall_mem_cons.mpr ⟨?_, fun _ h => absurd h List.not_mem_nil⟩⟩⟩⟩⟩⟩⟩⟩⟩⟩⟩⟩
  all_goals exact ⟨rfl, ⟨rfl, rfl⟩, ⟨rfl, rfl⟩, ⟨rfl, rfl⟩, ⟨rfl, rfl⟩, ⟨rfl, rfl⟩, ⟨rfl, rfl⟩⟩
/-- ints copied from a row to a row -/
def zcp (D : ZD2) (a b sp dp n : Nat) : ZD2 := fun c j => if c = b ∧ (dp ≤ j ∧ j < dp + n) then D a (sp + (j - dp)) else D c j
theorem zcp_row {D : ZD2} {a b sp dp n c : Nat} (h : c ≠ b) : zcp D a b sp dp n c = D c := funext fun _ => if_neg fun q => h q.1
theorem zst_cp {X : ZX} {μ pc a b n0 n1 y : Nat} {i : Nat} {L : List Value} {D : ZD2} {O : ZO2} {k : Nat × Nat × Nat} {la lb : List Nat} {sp dp n : Int32} (hf : zfetch μ pc = some (.invokestatic i, 3, 6, 1, y)) (ha : zsk[a]? = some (.inr (0, n0, la))) (hb : zsk[b]? = some (.inr (0, n1, lb))) :
    zev X μ pc L [.int n, .int dp, .ref b, .int sp, .ref a] (zHP D O, k) = if sp < 0 ∨ dp < 0 ∨ n < 0 ∨ n0 < sp.toNatClampNeg + n.toNatClampNeg ∨ n1 < dp.toNatClampNeg + n.toNatClampNeg then none else zev X μ (pc + 3) L [] (zHP (zcp D a b sp.toNatClampNeg dp.toNatClampNeg n.toNatClampNeg) O, k) := by
  have e1 : ∀ D, zHP D O a = .inl (0, n0, .inl (D a)) := fun D => by unfold zHP; rw [ha]; rfl
  have e2 : ∀ D, zHP D O b = .inl (0, n1, .inl (D b)) := fun D => by unfold zHP; rw [hb]; rfl
  have e3 : zcpy (zHP D O) a b sp dp n = if sp < 0 ∨ dp < 0 ∨ n < 0 ∨ n0 < sp.toNatClampNeg + n.toNatClampNeg ∨ n1 < dp.toNatClampNeg + n.toNatClampNeg then none else some (zset (zHP D O) b (.inl (0, n1, .inl (va_cpy (D a) (D b) sp.toNatClampNeg dp.toNatClampNeg n.toNatClampNeg)))) := by
    unfold zcpy
    rw [e1, e2]
    rfl
  rw [zev_unfold, hf]
  show (if zsum [.int n, .int dp, .ref b, .int sp, .ref a] ≤ 8 then zbind (zbind (zcpy (zHP D O) a b sp dp n) fun h => some ([], (h, k))) _ else none) = _
  rw [if_pos (Nat.le_of_ble_eq_true rfl), e3]
  split
  · rfl
  · have e4 : zset (zHP D O) b (.inl (0, n1, .inl (va_cpy (D a) (D b) sp.toNatClampNeg dp.toNatClampNeg n.toNatClampNeg))) = zHP (zcp D a b sp.toNatClampNeg dp.toNatClampNeg n.toNatClampNeg) O := by
      funext c
      unfold zset
      by_cases hc : c = b
      · rw [if_pos hc, hc, e2]
        congr 4
        funext j
        unfold va_cpy zcp
        by_cases hj : dp.toNatClampNeg ≤ j ∧ j < dp.toNatClampNeg + n.toNatClampNeg
        · rw [if_pos hj, if_pos ⟨rfl, hj⟩]
        · rw [if_neg hj, if_neg fun q => hj q.2]
      · rw [if_neg hc]
        unfold zHP
        rw [zcp_row hc]
    rw [e4]
    rfl
theorem zst_ch {X : ZX} {μ pc i y q : Nat} {L st : List Value} {S : ZS} {j : Int32} {t : List Int32} (hf : zfetch μ pc = some (.invokevirtual i, 3, 6, 3, y)) (h8 : zsum (.int j :: .retAddr q :: st) ≤ 8) (ht : ztxt[q]? = some t) :
    zev X μ pc L (.int j :: .retAddr q :: st) S = if j < 0 then none else zbind t[j.toNatClampNeg]? fun c => zev X μ (pc + 3) L (.int c :: st) S := by
  rw [zev_unfold, hf]
  show (if zsum (.int j :: .retAddr q :: st) ≤ 8 then zbind (zbind ztxt[q]? fun t => if j < 0 then none else zbind t[j.toNatClampNeg]? fun c => some (.int c :: st, S)) _ else none) = _
  rw [if_pos h8, ht]
  show zbind (if j < 0 then none else zbind t[j.toNatClampNeg]? fun c => some (.int c :: st, S)) _ = _
  split
  · rfl
  · cases t[j.toNatClampNeg]? <;> rfl
theorem zst_dv {X : ZX} {μ pc x y : Nat} {L st : List Value} {S : ZS} {a b : Int32} (hf : zfetch μ pc = some (.idiv, 1, 0, x, y)) : zev X μ pc L (.int b :: .int a :: st) S = if b = 0 then none else zev X μ (pc + 1) L (.int (a / b) :: st) S := by
  rw [zev_unfold, hf]
  show zbind (if b = 0 then none else some (L, .int (a / b) :: st)) _ = _
  split <;> rfl
