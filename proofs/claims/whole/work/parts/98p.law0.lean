/-! Steps of the law: its answer rows, its script, calls that may throw. -/
def zlo (O : ZO2) (v : Int64) : ZO2 := (vp_updL O.1 0 v, O.2)
def zdo (O : ZO2) (v : UInt64) : ZO2 := (O.1, vf_upd O.2 0 v)
theorem zk1_183 : ∀ a, a < 185 → ∀ n l, zsk[a]? = some (.inr (1, n, l)) → a = 183 := by
  have h : ((List.range 185).all fun a => a == 183 || match zsk[a]? with | some (.inr (1, _, _)) => false | _ => true) = true := by decide +kernel
  intro a ha n l e
  have g := List.all_eq_true.mp h a (List.mem_range.mpr ha)
  rw [e] at g
  simpa using g
theorem zk3_184 : ∀ a, a < 185 → ∀ n l, zsk[a]? = some (.inr (3, n, l)) → a = 184 := by
  have h : ((List.range 185).all fun a => a == 184 || match zsk[a]? with | some (.inr (3, _, _)) => false | _ => true) = true := by decide +kernel
  intro a ha n l e
  have g := List.all_eq_true.mp h a (List.mem_range.mpr ha)
  rw [e] at g
  simpa using g
theorem zk_lt {a : Nat} {k : ZK} (h : zsk[a]? = some k) : a < 185 := by
  have g := (List.getElem?_eq_some_iff.mp h).1
  rw [zsk_len] at g
  exact g
theorem zk183 : zsk[183]? = some (.inr (1, 1, [])) := rfl
theorem zk184 : zsk[184]? = some (.inr (3, 1, [])) := rfl
theorem zHP_183 (D : ZD2) (O : ZO2) : zHP D O 183 = .inl (1, 1, .inr (.inl O.1)) := by
  unfold zHP
  rw [zk183]
  rfl
theorem zHP_184 (D : ZD2) (O : ZO2) : zHP D O 184 = .inl (3, 1, .inr (.inr (.inr (.inl O.2)))) := by
  unfold zHP
  rw [zk184]
  rfl
theorem zHP_O1 {D : ZD2} {O : ZO2} {f : Nat → Int64} {a : Nat} (h : a ≠ 183) : zHP D (f, O.2) a = zHP D O a := by
  unfold zHP
  cases e : zsk[a]? with
  | none => rfl
  | some k =>
    have hl := zk_lt e
    cases k with
    | inl o => rfl
    | inr q =>
      obtain ⟨t, n, l⟩ := q
      match t, e with
      | 0, _ => rfl
      | 1, e => exact absurd (zk1_183 a hl n l e) h
      | 2, _ => rfl
      | 3, _ => rfl
      | 4, _ => rfl
      | t + 5, _ => rfl
theorem zHP_O2 {D : ZD2} {O : ZO2} {f : Nat → UInt64} {a : Nat} (h : a ≠ 184) : zHP D (O.1, f) a = zHP D O a := by
  unfold zHP
  cases e : zsk[a]? with
  | none => rfl
  | some k =>
    have hl := zk_lt e
    cases k with
    | inl o => rfl
    | inr q =>
      obtain ⟨t, n, l⟩ := q
      match t, e with
      | 0, _ => rfl
      | 1, _ => rfl
      | 2, _ => rfl
      | 3, e => exact absurd (zk3_184 a hl n l e) h
      | 4, _ => rfl
      | t + 5, _ => rfl
section
variable {X : ZX} {μ pc x y : Nat} {L st : List Value} {D : ZD2} {O : ZO2} {S S' : ZS} {k : Nat × Nat × Nat}
theorem zst_4h {as L1 rest : List Value} {ins : Instr} {r : ZR} (hf : zfetch μ pc = some (ins, 3, 4, x, y)) (hc : zcw0 x st = some (as, L1, rest)) (hr : zrcv y as S.1 = true) (h : zev X x 0 L1 [] S = some r) : zev X μ pc L st S = zback (zev X μ) μ pc 3 L rest r := by
  rw [zev_unfold, hf]
  unfold zcw0 at hc
  split at hc
  · rename_i hcd
    cases hc
    show (if _ then _ else _) = _
    rw [if_pos ⟨hcd, hr⟩, h]
    rfl
  · cases hc
/-- a call that returns -/
theorem zst_4v {as L1 rest : List Value} {ins : Instr} {v : Value} (hf : zfetch μ pc = some (ins, 3, 4, x, y)) (hc : zcw0 x st = some (as, L1, rest)) (hr : zrcv y as S.1 = true) (h : zev X x 0 L1 [] S = some (.inl (some v), S')) : zev X μ pc L st S = zev X μ (pc + 3) L (v :: rest) S' := zst_4h hf hc hr h
/-- a call that throws, caught -/
theorem zst_4t {as L1 rest L' : List Value} {ins : Instr} {E h1 : Nat} (hf : zfetch μ pc = some (ins, 3, 4, x, y)) (hc : zcw0 x st = some (as, L1, rest)) (hr : zrcv y as S.1 = true) (h : zev X x 0 L1 [] S = some (.inr E, S')) (hb : ∀ S, zback (zev X μ) μ pc 3 L rest (.inr E, S) = zev X μ h1 L' [] S) : zev X μ pc L st S = zev X μ h1 L' [] S' := (zst_4h hf hc hr h).trans (hb S')
theorem zst_lsto {v : Int64} (hf : zfetch μ pc = some (.lastore, 1, 1, x, y)) : zev X μ pc L (.long v :: .int 0 :: .ref 183 :: st) (zHP D O, k) = zev X μ (pc + 1) L st (zHP D (zlo O v), k) := by
  refine zst_1 hf ?_
  show zbind (zlst (zHP D O) 183 0 v) (fun h => some (st, (h, k))) = _
  have e : zlst (zHP D O) 183 0 v = some (zHP D (zlo O v)) := by
    unfold zlst
    rw [zHP_183]
    show some (zset (zHP D O) 183 (.inl (1, 1, .inr (.inl (vp_updL O.1 0 v))))) = _
    refine congrArg some (funext fun a => ?_)
    unfold zset
    split
    · rename_i ha
      rw [ha, zHP_183]
      rfl
    · rename_i ha
      exact (zHP_O1 ha).symm
  rw [e]
  rfl
theorem zst_dsto {v : UInt64} (hf : zfetch μ pc = some (.dastore, 1, 1, x, y)) : zev X μ pc L (.double v :: .int 0 :: .ref 184 :: st) (zHP D O, k) = zev X μ (pc + 1) L st (zHP D (zdo O v), k) := by
  refine zst_1 hf ?_
  show zbind (zdst (zHP D O) 184 0 v) (fun h => some (st, (h, k))) = _
  have e : zdst (zHP D O) 184 0 v = some (zHP D (zdo O v)) := by
    unfold zdst
    rw [zHP_184]
    show some (zset (zHP D O) 184 (.inl (3, 1, .inr (.inr (.inr (.inl (vf_upd O.2 0 v))))))) = _
    refine congrArg some (funext fun a => ?_)
    unfold zset
    split
    · rename_i ha
      rw [ha, zHP_184]
      rfl
    · rename_i ha
      exact (zHP_O2 ha).symm
  rw [e]
  rfl
theorem zst_lld (hf : zfetch μ pc = some (.laload, 1, 1, x, y)) : zev X μ pc L (.int 0 :: .ref 183 :: st) (zHP D O, k) = zev X μ (pc + 1) L (.long (O.1 0) :: st) (zHP D O, k) := by
  refine zst_1 hf ?_
  show zbind (zlld (zHP D O) 183 0) (fun v => some (.long v :: st, (zHP D O, k))) = _
  have e : zlld (zHP D O) 183 0 = some (O.1 0) := by
    unfold zlld
    rw [zHP_183]
    rfl
  rw [e]
  rfl
theorem zst_dld (hf : zfetch μ pc = some (.daload, 1, 1, x, y)) : zev X μ pc L (.int 0 :: .ref 184 :: st) (zHP D O, k) = zev X μ (pc + 1) L (.double (O.2 0) :: st) (zHP D O, k) := by
  refine zst_1 hf ?_
  show zbind (zdld (zHP D O) 184 0) (fun v => some (.double v :: st, (zHP D O, k))) = _
  have e : zdld (zHP D O) 184 0 = some (O.2 0) := by
    unfold zdld
    rw [zHP_184]
    rfl
  rw [e]
  rfl
theorem zlo_0 {v : Int64} : (zlo O v).1 0 = v := by
  show (if (0 : Nat) = 0 then v else O.1 0) = v
  exact if_pos rfl
theorem zdo_0 {v : UInt64} : (zdo O v).2 0 = v := by
  show (if (0 : Nat) = 0 then v else O.2 0) = v
  exact if_pos rfl
theorem zst_len (hf : zfetch μ pc = some (.arraylength, 1, 7, x, y)) : zev X μ pc L (.retAddr 999 :: st) S = zev X μ (pc + 1) L (.int (Int32.ofNat X.1) :: st) S := by
  rw [zev_unfold, hf]
  rfl
theorem zst_sc {j : Int32} {q : Nat} (hf : zfetch μ pc = some (.iaload, 1, 8, x, y)) (hj : j = zi q) (hq : q < X.1) (h3 : X.1 ≤ 3072) : zev X μ pc L (.int j :: .retAddr 999 :: st) S = zev X μ (pc + 1) L (.int (X.2 q) :: st) S := by
  have nb : ¬ (j < 0 ∨ X.1 ≤ j.toNatClampNeg) := by
    rw [hj, zl_0, zi_lt (by omega) (by omega), zi_toNat (by omega)]
    omega
  rw [zev_unfold, hf]
  show zbind (if 999 = 999 ∧ ¬ (j < 0 ∨ X.1 ≤ j.toNatClampNeg) then some (Value.int (X.2 j.toNatClampNeg) :: st) else none) _ = _
  rw [if_pos ⟨rfl, nb⟩, hj, zi_toNat (by omega)]
  rfl
theorem zst_if0 {a : Int32} (h : a = 0) {off : Int} {tgt : Nat} (hf : zfetch μ pc = some (.ifCond .ne off, 3, 2, x, y)) (ht : (pc : Int) + off = (tgt : Int)) : zev X μ pc L (.int a :: st) S = zev X μ (pc + 3) L st S := (zb_ne hf ht).trans (if_pos h)
theorem zst_if1 {a : Int32} (h : ¬ a = 0) {off : Int} {tgt : Nat} (hf : zfetch μ pc = some (.ifCond .ne off, 3, 2, x, y)) (ht : (pc : Int) + off = (tgt : Int)) : zev X μ pc L (.int a :: st) S = zev X μ tgt L st S := (zb_ne hf ht).trans (if_neg h)
theorem zst_e0 {a : Int32} (h : a = 0) {off : Int} {tgt : Nat} (hf : zfetch μ pc = some (.ifCond .eq off, 3, 2, x, y)) (ht : (pc : Int) + off = (tgt : Int)) : zev X μ pc L (.int a :: st) S = zev X μ tgt L st S := (zb_eq hf ht).trans (if_pos h)
theorem zst_e1 {a : Int32} (h : ¬ a = 0) {off : Int} {tgt : Nat} (hf : zfetch μ pc = some (.ifCond .eq off, 3, 2, x, y)) (ht : (pc : Int) + off = (tgt : Int)) : zev X μ pc L (.int a :: st) S = zev X μ (pc + 3) L st S := (zb_eq hf ht).trans (if_neg h)
theorem zst_c0 {a b : Int32} (h : a = b) {off : Int} {tgt : Nat} (hf : zfetch μ pc = some (.if_icmp .eq off, 3, 2, x, y)) (ht : (pc : Int) + off = (tgt : Int)) : zev X μ pc L (.int b :: .int a :: st) S = zev X μ tgt L st S := (zc_eq hf ht).trans (if_pos h)
theorem lg_self (v : Int64) : lg_cmp v v = 0 := by
  unfold lg_cmp
  rw [if_neg (Int64.lt_irrefl (a := v)), if_pos rfl]
end
section
variable {X : ZX} {μ pc x y : Nat} {L st : List Value} {S : ZS}
theorem zst_fl {a : Int32} {off : Int} {tgt pj : Nat} (hf : zfetch μ pc = some (.ifCond .eq off, 3, 2, x, y)) (ht : (pc : Int) + off = (tgt : Int)) (h0 : ∀ S, zev X μ tgt L st S = zev X μ pj L (.int (zi 0) :: st) S) (h1 : ∀ S, zev X μ (pc + 3) L st S = zev X μ pj L (.int (zi 1) :: st) S) : zev X μ pc L (.int a :: st) S = zev X μ pj L (.int (zb (!decide (a = 0))) :: st) S := by
  by_cases h : a = 0
  · rw [decide_eq_true h]
    exact (zst_e0 h hf ht).trans (h0 S)
  · rw [decide_eq_false h]
    exact (zst_e1 h hf ht).trans (h1 S)
theorem zst_fz {b : Bool} {off : Int} {tgt pj : Nat} (hf : zfetch μ pc = some (.ifCond .eq off, 3, 2, x, y)) (ht : (pc : Int) + off = (tgt : Int)) (h0 : ∀ S, zev X μ tgt L st S = zev X μ pj L (.long (0 : Int64) :: st) S) (h1 : ∀ S, zev X μ (pc + 3) L st S = zev X μ pj L (.long (1 : Int64) :: st) S) : zev X μ pc L (.int (zb b) :: st) S = zev X μ pj L (.long (if b then 1 else 0) :: st) S := by
  cases b
  · exact (zst_e0 (show zb false = 0 from rfl) hf ht).trans (h0 S)
  · exact (zst_e1 (show ¬ zb true = 0 by decide) hf ht).trans (h1 S)
theorem yc_ne {c : Nat} (h4 : c < 4) (h : c ≠ 0) : ¬ zi c = 0 := by
  rw [zl_0, zi_inj (by omega) (by omega)]
  exact h
/-- a case of the law's loop goes through -/
def zCs (n : Nat) (X : ZX) (i pc : Nat) (D : ZD2) (O : ZO2) (k : Nat × Nat × Nat) (u6 u7 u8 : Value) : Prop := ∃ D' O' k' v6 v7 v8, zev X 352 pc [.retAddr 999, .ref 0, .ref 168, .ref 183, .ref 184, .int (zi i), u6, u7, u8] [] (zHP D O, k) = zev X 352 3224 [.retAddr 999, .ref 0, .ref 168, .ref 183, .ref 184, .int (zi i), v6, v7, v8] [] (zHP D' O', k') ∧ ygG (n + 1) D' ∧ (k' = k ∨ k' = kt k)
end
