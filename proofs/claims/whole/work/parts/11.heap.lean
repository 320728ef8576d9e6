/-! One step on the heap is the JVM's. -/
theorem zild_eq {h : ZH} {i : Nat} {j : Int32} {v : Int32} (e : zild h i j = some v) : ∃ n f, h i = .inl (0, n, .inl f) ∧ vp_in j n ∧ v = f j.toNatClampNeg := by
  unfold zild at e
  split at e
  · rename_i n f hh
    split at e
    · cases e
    · rename_i hz; exact ⟨n, f, hh, hz, (Option.some.inj e).symm⟩
  · cases e
theorem zlld_eq {h : ZH} {i : Nat} {j : Int32} {v : Int64} (e : zlld h i j = some v) : ∃ n f, h i = .inl (1, n, .inr (.inl f)) ∧ vp_in j n ∧ v = f j.toNatClampNeg := by
  unfold zlld at e
  split at e
  · rename_i n f hh
    split at e
    · cases e
    · rename_i hz; exact ⟨n, f, hh, hz, (Option.some.inj e).symm⟩
  · cases e
theorem zfld_eq {h : ZH} {i : Nat} {j : Int32} {v : UInt32} (e : zfld h i j = some v) : ∃ n f, h i = .inl (2, n, .inr (.inr (.inl f))) ∧ vp_in j n ∧ v = f j.toNatClampNeg := by
  unfold zfld at e
  split at e
  · rename_i n f hh
    split at e
    · cases e
    · rename_i hz; exact ⟨n, f, hh, hz, (Option.some.inj e).symm⟩
  · cases e
theorem zdld_eq {h : ZH} {i : Nat} {j : Int32} {v : UInt64} (e : zdld h i j = some v) : ∃ n f, h i = .inl (3, n, .inr (.inr (.inr (.inl f)))) ∧ vp_in j n ∧ v = f j.toNatClampNeg := by
  unfold zdld at e
  split at e
  · rename_i n f hh
    split at e
    · cases e
    · rename_i hz; exact ⟨n, f, hh, hz, (Option.some.inj e).symm⟩
  · cases e
theorem zbld_eq {h : ZH} {i : Nat} {j : Int32} {v : Int32} (e : zbld h i j = some v) : ∃ n f, h i = .inl (4, n, .inl f) ∧ vp_in j n ∧ v = f j.toNatClampNeg := by
  unfold zbld at e
  split at e
  · rename_i n f hh
    split at e
    · cases e
    · rename_i hz; exact ⟨n, f, hh, hz, (Option.some.inj e).symm⟩
  · cases e
theorem zald_eq {h : ZH} {i : Nat} {j : Int32} {v : Nat} (e : zald h i j = some v) : ∃ n f, h i = .inl (5, n, .inr (.inr (.inr (.inr f)))) ∧ vp_in j n ∧ f j.toNatClampNeg = some v := by
  unfold zald at e
  split at e
  · rename_i n f hh
    split at e
    · cases e
    · rename_i hz; exact ⟨n, f, hh, hz, e⟩
  · cases e
theorem zist_eq {h h' : ZH} {i : Nat} {j v : Int32} (e : zist h i j v = some h') : ∃ n f, h i = .inl (0, n, .inl f) ∧ vp_in j n ∧ h' = zset h i (.inl (0, n, .inl (upd f j.toNatClampNeg v))) := by
  unfold zist at e
  split at e
  · rename_i n f hh
    split at e
    · cases e
    · rename_i hz; exact ⟨n, f, hh, hz, (Option.some.inj e).symm⟩
  · cases e
theorem zlst_eq {h h' : ZH} {i : Nat} {j : Int32} {v : Int64} (e : zlst h i j v = some h') : ∃ n f, h i = .inl (1, n, .inr (.inl f)) ∧ vp_in j n ∧ h' = zset h i (.inl (1, n, .inr (.inl (vp_updL f j.toNatClampNeg v)))) := by
  unfold zlst at e
  split at e
  · rename_i n f hh
    split at e
    · cases e
    · rename_i hz; exact ⟨n, f, hh, hz, (Option.some.inj e).symm⟩
  · cases e
theorem zfst_eq {h h' : ZH} {i : Nat} {j : Int32} {v : UInt32} (e : zfst h i j v = some h') : ∃ n f, h i = .inl (2, n, .inr (.inr (.inl f))) ∧ vp_in j n ∧ h' = zset h i (.inl (2, n, .inr (.inr (.inl (vf_upd f j.toNatClampNeg v))))) := by
  unfold zfst at e
  split at e
  · rename_i n f hh
    split at e
    · cases e
    · rename_i hz; exact ⟨n, f, hh, hz, (Option.some.inj e).symm⟩
  · cases e
theorem zdst_eq {h h' : ZH} {i : Nat} {j : Int32} {v : UInt64} (e : zdst h i j v = some h') : ∃ n f, h i = .inl (3, n, .inr (.inr (.inr (.inl f)))) ∧ vp_in j n ∧ h' = zset h i (.inl (3, n, .inr (.inr (.inr (.inl (vf_upd f j.toNatClampNeg v)))))) := by
  unfold zdst at e
  split at e
  · rename_i n f hh
    split at e
    · cases e
    · rename_i hz; exact ⟨n, f, hh, hz, (Option.some.inj e).symm⟩
  · cases e
theorem zbst_eq {h h' : ZH} {i : Nat} {j v : Int32} (e : zbst h i j v = some h') : ∃ n f, h i = .inl (4, n, .inl f) ∧ vp_in j n ∧ h' = zset h i (.inl (4, n, .inl (upd f j.toNatClampNeg (vp_nar .boolean v)))) := by
  unfold zbst at e
  split at e
  · rename_i n f hh
    split at e
    · cases e
    · rename_i hz; exact ⟨n, f, hh, hz, (Option.some.inj e).symm⟩
  · cases e
theorem zast_eq {h h' : ZH} {i : Nat} {j : Int32} {b ci : Nat} (e : zast h i j b ci = some h') : ∃ n f fs, h i = .inl (5, n, .inr (.inr (.inr (.inr f)))) ∧ h b = .inr (ci, fs) ∧ vp_in j n ∧ h' = zset h i (.inl (5, n, .inr (.inr (.inr (.inr (va_up f j.toNatClampNeg (some b))))))) := by
  unfold zast at e
  split at e
  · rename_i n f o hh hb
    split at e
    · cases e
    · rename_i hz
      obtain ⟨c, fs⟩ := o
      have hc : c = ci := by
        by_cases q : c = ci
        · exact q
        · exact absurd (Or.inr (Or.inr q)) hz
      subst hc
      exact ⟨n, f, fs, hh, hb, fun q => hz (q.elim Or.inl fun q => Or.inr (Or.inl q)), (Option.some.inj e).symm⟩
  · cases e
theorem zcpy_eq {h h' : ZH} {a b : Nat} {sp dp n : Int32} (e : zcpy h a b sp dp n = some h') : ∃ n0 f n1 g, h a = .inl (0, n0, .inl f) ∧ h b = .inl (0, n1, .inl g) ∧ ¬ sp < 0 ∧ ¬ dp < 0 ∧ ¬ n < 0 ∧ sp.toNatClampNeg + n.toNatClampNeg ≤ n0 ∧ dp.toNatClampNeg + n.toNatClampNeg ≤ n1 ∧ h' = zset h b (.inl (0, n1, .inl (va_cpy f g sp.toNatClampNeg dp.toNatClampNeg n.toNatClampNeg))) := by
  unfold zcpy at e
  split at e
  · rename_i n0 f n1 g ha hb
    split at e
    · cases e
    · rename_i hz
      simp only [not_or, Nat.not_lt] at hz
      exact ⟨n0, f, n1, g, ha, hb, hz.1, hz.2.1, hz.2.2.1, hz.2.2.2.1, hz.2.2.2.2, (Option.some.inj e).symm⟩
  · cases e
theorem zgetF_eq {h : ZH} {i ci k : Nat} {v : Value} (e : zgetF h i ci k = some v) : ∃ fs, h i = .inr (ci, fs) ∧ fs[k]? = some v := by
  unfold zgetF at e
  split at e
  · rename_i o hh
    obtain ⟨c, fs⟩ := o
    split at e
    · rename_i hc
      subst hc
      exact ⟨fs, hh, e⟩
    · cases e
  · cases e
theorem zputF_eq {h h' : ZH} {i ci k : Nat} {v : Value} (e : zputF h i ci k v = some h') : ∃ fs, h i = .inr (ci, fs) ∧ k < fs.length ∧ h' = zset h i (.inr (ci, fs.set k v)) := by
  unfold zputF at e
  split at e
  · rename_i o hh
    obtain ⟨c, fs⟩ := o
    split at e
    · rename_i hc
      obtain ⟨h1, h2⟩ := hc
      cases h1
      exact ⟨fs, hh, h2, (Option.some.inj e).symm⟩
    · cases e
  · cases e
theorem zlF_in {o i x y : Nat} (h : (zlF o i == 1 + 100 * x + y) = true) (hy : decide (y < 100) = true) : zwF (o, i, x, y) ∈ zGW := by
  have h : zlF o i = 1 + 100 * x + y := by simpa using h
  have hy : y < 100 := by simpa using hy
  have ho : o < 9 := by
    by_cases q : o < 9
    · exact q
    · have : zlF o i = 0 := by
        unfold zlF
        have e : zLFt.getD o [] = [] := by
          rw [List.getD_eq_getElem?_getD, List.getElem?_eq_none (by show zLFt.length ≤ o; have : zLFt.length = 9 := rfl; omega)]
          rfl
        rw [e]
        rfl
      omega
  have hi : i < (zLFt.getD o []).length := by
    by_cases q : i < (zLFt.getD o []).length
    · exact q
    · have : zlF o i = 0 := by
        unfold zlF
        rw [List.getD_eq_getElem?_getD, List.getElem?_eq_none (by omega)]
        rfl
      omega
  have h1 := List.all_eq_true.mp (List.all_eq_true.mp zlF_ok o (List.mem_range.mpr ho)) i (List.mem_range.mpr hi)
  rw [h] at h1
  have e1 : (1 + 100 * x + y - 1) / 100 = x := by omega
  have e2 : (1 + 100 * x + y - 1) % 100 = y := by omega
  have e3 : (1 + 100 * x + y == 0) = false := by rw [beq_eq_false_iff_ne]; omega
  rw [e1, e2, e3] at h1
  have h1 : zLF.contains (o, i, x, y) = true := by simpa using h1
  exact zLF_in _ (List.mem_map.mpr ⟨(o, i, x, y), by simpa using h1, rfl⟩)
theorem zrep_lt {D : ZD} {tx ad : Nat → Nat} {A : Nat → Prop} {S : ZS} {H : Heap} (hr : zrep D tx ad A S H) {i : Nat} {e : ZE} (h : S.1 i = e) (hn : e ≠ zNo) : i < S.2.1 := by
  by_cases q : i < S.2.1
  · exact q
  · exact absurd (h.symm.trans (hr.2.2.1 i (by omega))) hn
theorem zrep_at {D : ZD} {tx ad : Nat → Nat} {A : Nat → Prop} {S : ZS} {H : Heap} (hr : zrep D tx ad A S H) {i : Nat} {e : ZE} (h : S.1 i = e) (hn : e ≠ zNo) : (zws D tx ad S.1 S.2.1)[i]? = some (ad i, zcE D tx ad e) := by
  rw [zws_get (zrep_lt hr h hn), h]
theorem zne_r {x : Nat} {fs : List Value} (hx : x ≠ 1000) : (Sum.inr (x, fs) : ZE) ≠ zNo := fun q => hx (congrArg (fun z : ZE => match z with | .inr o => o.1 | .inl _ => 0) q)
theorem zne_l {a : Nat × vp_A} : (Sum.inl a : ZE) ≠ zNo := fun h => by cases h
theorem zrep_set {D : ZD} {tx ad : Nat → Nat} {A : Nat → Prop} {S : ZS} {H H1 : Heap} (hr : zrep D tx ad A S H) {i : Nat} {e : ZE} (hi : i < S.2.1) (he : zokE S.2.1 e)
    (hP : va_P D.1 zcl ((zws D tx ad S.1 S.2.1).set i (ad i, zcE D tx ad e)) H1) (hD : va_D A ((zws D tx ad S.1 S.2.1).set i (ad i, zcE D tx ad e))) : zrep D tx ad A (zset S.1 i e, S.2) H1 := by
  rw [zws_set] at hP hD
  refine ⟨hP, hD, fun j hj => ?_, fun j => ?_⟩
  · show zset S.1 i e j = zNo
    have hj : S.2.1 ≤ j := hj
    rw [zset, if_neg (by omega)]
    exact hr.2.2.1 j hj
  · show zokE S.2.1 (zset S.1 i e j)
    unfold zset
    split
    · exact he
    · exact hr.2.2.2 j
theorem zrep_push {D : ZD} {tx ad : Nat → Nat} {A : Nat → Prop} {S : ZS} {H H1 : Heap} (hr : zrep D tx ad A S H) {a n : Nat} {e : ZE} (he : zokE S.2.1 e)
    (hP : va_P D.1 zcl (zws D tx ad S.1 S.2.1 ++ [(a, zcE D tx ad e)]) H1) (hD : va_D A (zws D tx ad S.1 S.2.1 ++ [(a, zcE D tx ad e)])) : zrep D tx (va_up ad S.2.1 a) A (zalloc S e n) H1 := by
  rw [zws_push hr.2.2.2 he] at hP hD
  refine ⟨hP, hD, fun j hj => ?_, fun j => ?_⟩
  · show zset S.1 S.2.1 e j = zNo
    have hj : S.2.1 + 1 ≤ j := hj
    rw [zset, if_neg (by omega)]
    exact hr.2.2.1 j (by omega)
  · show zokE (S.2.1 + 1) (zset S.1 S.2.1 e j)
    unfold zset
    split
    · exact zokE_le (Nat.le_succ _) he
    · exact zokE_le (Nat.le_succ _) (hr.2.2.2 j)
theorem zokL_cons {n : Nat} {v : Value} {L : List Value} : zokL n (v :: L) ↔ zokV n v ∧ zokL n L := by simp [zokL]
theorem zokL_le {n m : Nat} (h : n ≤ m) {L : List Value} (hL : zokL n L) : zokL m L := fun v hv => zokV_le h (hL v hv)
theorem zfit_spec {t : FieldType} {v : Value} (tx ad : Nat → Nat) (h : zfit t v = true) : narrow t (zcv tx ad v) = zcv tx ad v ∧ fits t (zcv tx ad v) = true := by
  unfold zfit at h
  split at h
  · exact ⟨rfl, rfl⟩
  · rename_i x
    simp only [Bool.or_eq_true, beq_iff_eq] at h
    rcases h with rfl | rfl <;> exact ⟨rfl, rfl⟩
  · exact ⟨rfl, rfl⟩
  · exact ⟨rfl, rfl⟩
  · cases h
theorem zwA_ok : ∀ x, x < 9 → Cond.instantiable (zC x).1 (zC x).2.2 ∈ zwA ∧ Cond.initialized (zC x).1 ∈ zwA := by
  intro x hx
  match x, hx with
  | 0, _ => exact ⟨by decide +kernel, by decide +kernel⟩
  | 1, _ => exact ⟨by decide +kernel, by decide +kernel⟩
  | 2, _ => exact ⟨by decide +kernel, by decide +kernel⟩
  | 3, _ => exact ⟨by decide +kernel, by decide +kernel⟩
  | 4, _ => exact ⟨by decide +kernel, by decide +kernel⟩
  | 5, _ => exact ⟨by decide +kernel, by decide +kernel⟩
  | 6, _ => exact ⟨by decide +kernel, by decide +kernel⟩
  | 7, _ => exact ⟨by decide +kernel, by decide +kernel⟩
  | 8, _ => exact ⟨by decide +kernel, by decide +kernel⟩
theorem zalen_eq {h : ZH} {i : Nat} {v : Int32} (e : zalen h i = some v) : ∃ a : Nat × vp_A, h i = .inl a ∧ a.1 < 6 ∧ v = Int32.ofNat a.2.1 := by
  unfold zalen at e
  split at e
  · rename_i a hh
    split at e
    · rename_i hz
      exact ⟨a, hh, hz, (Option.some.inj e).symm⟩
    · cases e
  · cases e
theorem ztys_get (D : ZD) {t : Nat} (h : t < 6) : ∃ ty, (ztys D)[t]? = some (D.2 t, ty) := by
  match t, h with
  | 0, _ => exact ⟨_, rfl⟩
  | 1, _ => exact ⟨_, rfl⟩
  | 2, _ => exact ⟨_, rfl⟩
  | 3, _ => exact ⟨_, rfl⟩
  | 4, _ => exact ⟨_, rfl⟩
  | 5, _ => exact ⟨_, rfl⟩
theorem zdef_plain : ∀ x, x < 9 → ∀ v ∈ zdef.getD x [], v = .null ∨ v = .int 0 := by decide +kernel
theorem zdef_map {x : Nat} (h : x < 9) (tx ad : Nat → Nat) : (zdef.getD x []).map (zcv tx ad) = zdef.getD x [] ∧ ∀ n, ∀ v ∈ zdef.getD x [], zokV n v := by
  have hp := zdef_plain x h
  constructor
  · conv => rhs; rw [← List.map_id (zdef.getD x [])]
    refine List.map_congr_left fun v hv => ?_
    rcases hp v hv with rfl | rfl <;> rfl
  · intro n v hv
    rcases hp v hv with rfl | rfl <;> trivial
theorem zwid_spec {n : Int32} (h : zwid n = true) : ¬ n < 0 ∧ n.toNatClampNeg ≤ 100000 := by
  unfold zwid at h
  simp only [Bool.and_eq_true, decide_eq_true_eq] at h
  exact ⟨Int32.not_lt.mpr h.1, h.2⟩
section ZS2
variable {p : Program} {l : Launch} {e : Env} {R : Room} {s : State} {m : MethodId} {args : Array Value} {below : List Frame} {meth : Method} {c : Code} {H : Heap} {locs : List Loc} {cells slots : Nat} {Q : State → Prop}
variable {pc : Nat} {ls : Array Slot} {tx ad : Nat → Nat} {D : ZD} {A : Nat → Prop} {H0 : Heap}
set_option maxHeartbeats 8000000 in
theorem zs_heap {ins : Instr} {μ x y len k0 n0 : Nat} {st st' : List Value} {S S' : ZS} (hexec : p.tables.exec = Jvm.exec) (hb : c.code = (zM μ).2.1) (hown : s.vm.findClass (zO (zown μ)) = some m.cls) (hts : ∀ w ∈ zGW, w.before args s = true) (hname : (zM μ).1.name = "<init>" → meth.name = "<init>")
    (hAO : va_AO "SparePager$Machine" s) (hAC : ∀ ty, (ty = .int ∨ ty = .long ∨ ty = .float ∨ ty = .double ∨ ty = .boolean) → (Cond.arrayClass ty).before args s = true)
    (h : zheap ins x y st S = some (st', S')) (hdg : decode (zM μ).2.1 pc = .ok (ins, len)) (hlen : zlen ins = 0 ∨ zlen ins = len) (hm : zokm μ pc (ins, len, 1, x, y) = true)
    (hK : va_K D.1 zcl (ztys D) s) (hr : zrep D tx ad A S H) (hS : va_S A H0 H locs) (hA : ∀ q, H0.size ≤ q → A q) (hst : zokL S.2.1 st)
    (hc : cells + k0 = S.2.2.1) (hn : slots + n0 = S.2.2.2) (hrc : S'.2.2.1 ≤ R.cells + k0) (hrn : S'.2.2.2 ≤ R.slots + n0)
    (k : ∀ (ad' : Nat → Nat) (H1 : Heap) (locs1 : List Loc) (cells1 slots1 : Nat), (∀ i, i < S.2.1 → ad' i = ad i) → S.2.1 ≤ S'.2.1 → zrep D tx ad' A S' H1 → va_S A H0 H1 locs1 → zokL S'.2.1 st' → cells1 + k0 = S'.2.2.1 → slots1 + n0 = S'.2.2.2 →
      W p l e R s m args below meth c H1 locs1 cells1 slots1 Q (F0 m (pc + len) ls (st'.map (zcv tx ad')))) :
    W p l e R s m args below meth c H locs cells slots Q (F0 m pc ls (st.map (zcv tx ad))) := by
  have hlen : zlen ins ≠ 0 → len = zlen ins := fun q => by omega
  have hP := hr.1
  have hD := hr.2.1
  unfold zheap at h
  split at h
  · -- getfield
    rename_i ix i st _
    obtain ⟨v, h1, h2⟩ := zbind_eq.mp h
    cases h2; cases hlen (Nat.succ_ne_zero _)
    obtain ⟨fs, hh, hv⟩ := zgetF_eq h1
    have hm : (decide (y < (zC x).2.2) && (zlF (zown μ) ix == 1 + 100 * x + y && decide (y < 100))) = true := by rw [← Bool.and_assoc]; exact hm
    simp only [Bool.and_eq_true] at hm
    obtain ⟨m1, m2, m3⟩ := hm
    have m1 : y < (zC x).2.2 := of_decide_eq_true m1
    have hx : x < 9 := by
      by_cases q : x < 9
      · exact q
      · exfalso
        have : (zC x).2.2 = 0 := by
          unfold zC
          rw [List.getD_eq_getElem?_getD, List.getElem?_eq_none (by show zcl.length ≤ x; have : zcl.length = 9 := rfl; omega)]
          rfl
        omega
    have hne : (Sum.inr (x, fs) : ZE) ≠ zNo := fun q => by
      have : x = 1000 := congrArg (fun z : ZE => match z with | .inr o => o.1 | .inl _ => 0) q
      omega
    refine va_get (D := D.1) (ci := x) (v := zcv tx ad v) (C := (zC x).1) (T := (zC x).2.1) (N := (zC x).2.2) hexec hb hts (zlay_in hx) hown hK hP i (zrep_at hr hh hne) (zcl_get hx) y m1 (hts _ (zlF_in m2 m3)) (fun _ h => h) (by rw [List.getElem?_map, hv]; rfl) hdg ?_
    have hok : zokE S.2.1 (.inr (x, fs)) := hh ▸ hr.2.2.2 i
    exact k ad H locs cells slots (fun _ _ => rfl) (Nat.le_refl _) hr hS (zokL_cons.mpr ⟨hok v (List.mem_of_getElem? hv), (zokL_cons.mp hst).2⟩) hc hn
  · -- putfield
    rename_i ix v i st _
    split at h
    · rename_i hfit
      obtain ⟨h', h1, h2⟩ := zbind_eq.mp h
      cases h2; cases hlen (Nat.succ_ne_zero _)
      obtain ⟨fs, hh, hl, rfl⟩ := zputF_eq h1
      have hm : ((decide (y < (zC x).2.2) && (zlF (zown μ) ix == 1 + 100 * x + y && decide (y < 100))) && (!((zC x).2.1 y).2.2.2 || ((zM μ).1.name == "<init>" && ((zC x).2.1 y).1 == zO (zown μ)))) = true := by rw [← Bool.and_assoc (decide (y < (zC x).2.2))]; exact hm
      simp only [Bool.and_eq_true] at hm
      obtain ⟨⟨m1, m2, m3⟩, m4⟩ := hm
      have m1 : y < (zC x).2.2 := of_decide_eq_true m1
      have hx : x < 9 := by
        by_cases q : x < 9
        · exact q
        · exfalso
          have : (zC x).2.2 = 0 := by
            unfold zC
            rw [List.getD_eq_getElem?_getD, List.getElem?_eq_none (by show zcl.length ≤ x; have : zcl.length = 9 := rfl; omega)]
            rfl
          omega
      have hne : (Sum.inr (x, fs) : ZE) ≠ zNo := fun q => by
        have : x = 1000 := congrArg (fun z : ZE => match z with | .inr o => o.1 | .inl _ => 0) q
        omega
      obtain ⟨f1, f2⟩ := zfit_spec tx ad hfit
      have hok : zokE S.2.1 (.inr (x, fs)) := hh ▸ hr.2.2.2 i
      have hok2 : zokE S.2.1 (.inr (x, fs.set y v)) := fun u hu => by
        rcases List.mem_or_eq_of_mem_set hu with q | q
        · exact hok u q
        · rw [q]; exact (zokL_cons.mp hst).1
      have fin : ∀ (H1 : Heap) (locs1 : List Loc), va_P D.1 zcl ((zws D tx ad S.1 S.2.1).set i (ad i, .inr (x, (fs.map (zcv tx ad)).set y (zcv tx ad v)))) H1 → va_D A ((zws D tx ad S.1 S.2.1).set i (ad i, .inr (x, (fs.map (zcv tx ad)).set y (zcv tx ad v)))) → va_S A H0 H1 locs1 → W p l e R s m args below meth c H1 locs1 cells slots Q (F0 m (pc + 3) ls (st'.map (zcv tx ad))) := by
        intro H1 locs1 hP1 hD1 hS1
        rw [← List.map_set] at hP1 hD1
        exact k ad H1 locs1 cells slots (fun _ _ => rfl) (Nat.le_refl _) (zrep_set hr (zrep_lt hr hh hne) hok2 hP1 hD1) hS1 (zokL_cons.mp (zokL_cons.mp hst).2).2 hc hn
      by_cases hfin : ((zC x).2.1 y).2.2.2 = true
      · rw [hfin] at m4
        simp only [Bool.not_true, Bool.false_or, Bool.and_eq_true, beq_iff_eq] at m4
        exact va_putF (D := D.1) (ci := x) (C := (zC x).1) (T := (zC x).2.1) (N := (zC x).2.2) (ty := zty x y) hexec hb hts (zlay_in hx) (zty x) (zty_ok x hx) (znm_ok x hx) hown hK hP hD hS i (zrep_at hr hh hne) (zcl_get hx) y m1 (hts _ (zlF_in m2 m3)) (fun _ h => h) hfin (hname m4.1) m4.2 (zty_ok x hx y m1) f1 f2 (by rw [List.length_map]; exact hl) hdg fin
      · have hfin : ((zC x).2.1 y).2.2.2 = false := by simpa using hfin
        exact va_put (D := D.1) (ci := x) (C := (zC x).1) (T := (zC x).2.1) (N := (zC x).2.2) (ty := zty x y) hexec hb hts (zlay_in hx) (zty x) (zty_ok x hx) (znm_ok x hx) hown hK hP hD hS i (zrep_at hr hh hne) (zcl_get hx) y m1 (hts _ (zlF_in m2 m3)) (fun _ h => h) hfin (zty_ok x hx y m1) f1 f2 (by rw [List.length_map]; exact hl) hdg fin
    · cases h
  · -- arraylength
    obtain ⟨v, h1, h2⟩ := zbind_eq.mp h
    cases h2; cases hlen (Nat.succ_ne_zero _)
    obtain ⟨a, hh, ht, rfl⟩ := zalen_eq h1
    obtain ⟨ty, hty⟩ := ztys_get D ht
    exact va_alen hexec hb hK hP _ a.1 (zrep_at hr hh zne_l) hty rfl hdg (k ad H locs cells slots (fun _ _ => rfl) (Nat.le_refl _) hr hS (zokL_cons.mpr ⟨trivial, (zokL_cons.mp hst).2⟩) hc hn)
  · -- iaload
    obtain ⟨v, h1, h2⟩ := zbind_eq.mp h
    cases h2; cases hlen (Nat.succ_ne_zero _)
    obtain ⟨n, f, hh, hin, rfl⟩ := zild_eq h1
    exact va_iald hexec hb hK hP _ 0 (zrep_at hr hh zne_l) rfl hin hdg (k ad H locs cells slots (fun _ _ => rfl) (Nat.le_refl _) hr hS (zokL_cons.mpr ⟨trivial, (zokL_cons.mp (zokL_cons.mp hst).2).2⟩) hc hn)
  · -- laload
    obtain ⟨v, h1, h2⟩ := zbind_eq.mp h
    cases h2; cases hlen (Nat.succ_ne_zero _)
    obtain ⟨n, f, hh, hin, rfl⟩ := zlld_eq h1
    exact va_lald hexec hb hK hP _ 1 (zrep_at hr hh zne_l) rfl hin hdg (k ad H locs cells slots (fun _ _ => rfl) (Nat.le_refl _) hr hS (zokL_cons.mpr ⟨trivial, (zokL_cons.mp (zokL_cons.mp hst).2).2⟩) hc hn)
  · -- faload
    obtain ⟨v, h1, h2⟩ := zbind_eq.mp h
    cases h2; cases hlen (Nat.succ_ne_zero _)
    obtain ⟨n, f, hh, hin, rfl⟩ := zfld_eq h1
    exact va_fald hexec hb hK hP _ 2 (zrep_at hr hh zne_l) rfl hin hdg (k ad H locs cells slots (fun _ _ => rfl) (Nat.le_refl _) hr hS (zokL_cons.mpr ⟨trivial, (zokL_cons.mp (zokL_cons.mp hst).2).2⟩) hc hn)
  · -- daload
    obtain ⟨v, h1, h2⟩ := zbind_eq.mp h
    cases h2; cases hlen (Nat.succ_ne_zero _)
    obtain ⟨n, f, hh, hin, rfl⟩ := zdld_eq h1
    exact va_dald hexec hb hK hP _ 3 (zrep_at hr hh zne_l) rfl hin hdg (k ad H locs cells slots (fun _ _ => rfl) (Nat.le_refl _) hr hS (zokL_cons.mpr ⟨trivial, (zokL_cons.mp (zokL_cons.mp hst).2).2⟩) hc hn)
  · -- baload
    obtain ⟨v, h1, h2⟩ := zbind_eq.mp h
    cases h2; cases hlen (Nat.succ_ne_zero _)
    obtain ⟨n, f, hh, hin, rfl⟩ := zbld_eq h1
    exact va_zald hexec hb hK hP _ 4 (zrep_at hr hh zne_l) rfl hin hdg (k ad H locs cells slots (fun _ _ => rfl) (Nat.le_refl _) hr hS (zokL_cons.mpr ⟨trivial, (zokL_cons.mp (zokL_cons.mp hst).2).2⟩) hc hn)
  · -- aaload
    rename_i j i st _
    obtain ⟨v, h1, h2⟩ := zbind_eq.mp h
    cases h2; cases hlen (Nat.succ_ne_zero _)
    obtain ⟨n, f, hh, hin, hv⟩ := zald_eq h1
    have hok : zokE S.2.1 _ := hh ▸ hr.2.2.2 i
    refine va_aldq (C := "SparePager$Machine") hexec hb hK hP _ 5 (zrep_at hr hh zne_l) rfl hin hdg ?_
    show W p l e R s m args below meth c H locs cells slots Q (F0 m (pc + 1) ls (va_rf ((f j.toNatClampNeg).map ad) :: st.map (zcv tx ad)))
    rw [hv]
    exact k ad H locs cells slots (fun _ _ => rfl) (Nat.le_refl _) hr hS (zokL_cons.mpr ⟨hok _ _ hv, (zokL_cons.mp (zokL_cons.mp hst).2).2⟩) hc hn
  · -- iastore
    obtain ⟨h', h1, h2⟩ := zbind_eq.mp h
    cases h2; cases hlen (Nat.succ_ne_zero _)
    obtain ⟨n, f, hh, hin, rfl⟩ := zist_eq h1
    exact va_iast hexec hb hK hP hD hS _ 0 (zrep_at hr hh zne_l) rfl hin hdg (fun H1 locs1 hP1 hD1 hS1 => k ad H1 locs1 cells slots (fun _ _ => rfl) (Nat.le_refl _) (zrep_set hr (zrep_lt hr hh zne_l) trivial hP1 hD1) hS1 (zokL_cons.mp (zokL_cons.mp (zokL_cons.mp hst).2).2).2 hc hn)
  · -- lastore
    obtain ⟨h', h1, h2⟩ := zbind_eq.mp h
    cases h2; cases hlen (Nat.succ_ne_zero _)
    obtain ⟨n, f, hh, hin, rfl⟩ := zlst_eq h1
    exact va_last hexec hb hK hP hD hS _ 1 (zrep_at hr hh zne_l) rfl hin hdg (fun H1 locs1 hP1 hD1 hS1 => k ad H1 locs1 cells slots (fun _ _ => rfl) (Nat.le_refl _) (zrep_set hr (zrep_lt hr hh zne_l) trivial hP1 hD1) hS1 (zokL_cons.mp (zokL_cons.mp (zokL_cons.mp hst).2).2).2 hc hn)
  · -- fastore
    obtain ⟨h', h1, h2⟩ := zbind_eq.mp h
    cases h2; cases hlen (Nat.succ_ne_zero _)
    obtain ⟨n, f, hh, hin, rfl⟩ := zfst_eq h1
    exact va_fast hexec hb hK hP hD hS _ 2 (zrep_at hr hh zne_l) rfl hin hdg (fun H1 locs1 hP1 hD1 hS1 => k ad H1 locs1 cells slots (fun _ _ => rfl) (Nat.le_refl _) (zrep_set hr (zrep_lt hr hh zne_l) trivial hP1 hD1) hS1 (zokL_cons.mp (zokL_cons.mp (zokL_cons.mp hst).2).2).2 hc hn)
  · -- dastore
    obtain ⟨h', h1, h2⟩ := zbind_eq.mp h
    cases h2; cases hlen (Nat.succ_ne_zero _)
    obtain ⟨n, f, hh, hin, rfl⟩ := zdst_eq h1
    exact va_dast hexec hb hK hP hD hS _ 3 (zrep_at hr hh zne_l) rfl hin hdg (fun H1 locs1 hP1 hD1 hS1 => k ad H1 locs1 cells slots (fun _ _ => rfl) (Nat.le_refl _) (zrep_set hr (zrep_lt hr hh zne_l) trivial hP1 hD1) hS1 (zokL_cons.mp (zokL_cons.mp (zokL_cons.mp hst).2).2).2 hc hn)
  · -- bastore
    obtain ⟨h', h1, h2⟩ := zbind_eq.mp h
    cases h2; cases hlen (Nat.succ_ne_zero _)
    obtain ⟨n, f, hh, hin, rfl⟩ := zbst_eq h1
    exact va_zast hexec hb hK hP hD hS _ 4 (zrep_at hr hh zne_l) rfl hin hdg (fun H1 locs1 hP1 hD1 hS1 => k ad H1 locs1 cells slots (fun _ _ => rfl) (Nat.le_refl _) (zrep_set hr (zrep_lt hr hh zne_l) trivial hP1 hD1) hS1 (zokL_cons.mp (zokL_cons.mp (zokL_cons.mp hst).2).2).2 hc hn)
  · -- aastore
    rename_i b j i st _
    obtain ⟨h', h1, h2⟩ := zbind_eq.mp h
    cases h2; cases hlen (Nat.succ_ne_zero _)
    obtain ⟨n, f, fs, hh, hbb, hin, rfl⟩ := zast_eq h1
    have hok : ∀ (j b : Nat), f j = some b → b < S.2.1 := by
      have q : zokE S.2.1 _ := hh ▸ hr.2.2.2 i
      exact q
    have hbn : b < S.2.1 := (zokL_cons.mp hst).1
    have e0 : zcE D tx ad (.inl (5, n, .inr (.inr (.inr (.inr (va_up f j.toNatClampNeg (some b))))))) = .inl (D.2 5, n, .inr (.inr (.inr (.inr (va_up (fun j => (f j).map ad) j.toNatClampNeg (some (ad b))))))) := by
      show Sum.inl (D.2 5, n, Sum.inr (Sum.inr (Sum.inr (Sum.inr fun q => (va_up f j.toNatClampNeg (some b) q).map ad)))) = _
      congr 7
      funext q
      unfold va_up
      split <;> rfl
    refine va_astq (r := zC 2) hexec hb hK hP hD hS _ 5 b 2 (zrep_at hr hh zne_l) rfl (zrep_at hr hbb (zne_r (by decide))) rfl hin hdg (fun H1 locs1 hP1 hD1 hS1 => ?_)
    rw [← e0] at hP1 hD1
    refine k ad H1 locs1 cells slots (fun _ _ => rfl) (Nat.le_refl _) (zrep_set hr (zrep_lt hr hh zne_l) ?_ hP1 hD1) hS1 (zokL_cons.mp (zokL_cons.mp (zokL_cons.mp hst).2).2).2 hc hn
    intro q b' hq
    unfold va_up at hq
    split at hq
    · cases hq; exact hbn
    · exact hok q b' hq
  · -- new
    rename_i ix st
    obtain ⟨fs, h1, h2⟩ := zbind_eq.mp h
    cases h2; cases hlen (Nat.succ_ne_zero _)
    have hm : zLC.contains (zown μ, ix, x) = true := hm
    have hx : x < 9 := (List.getElem?_eq_some_iff.mp h1).1
    have hfs : zdef.getD x [] = fs := by rw [List.getD_eq_getElem?_getD, h1]; rfl
    obtain ⟨g1, g2⟩ := zdef_map hx tx ad
    rw [hfs] at g1 g2
    have hlen2 : fs.length = (zC x).2.2 := by rw [← hfs]; exact zdef_len x hx
    have hrc : S.2.2.1 + 1 ≤ R.cells + k0 := hrc
    have hrn : S.2.2.2 + fs.length ≤ R.slots + n0 := hrn
    obtain ⟨w1, w2⟩ := zwA_ok x hx
    refine va_new (D := D.1) (ci := x) (fs := fs) (C := (zC x).1) (T := (zC x).2.1) (N := (zC x).2.2) hexec hb hts (zlay_in hx) (zty x) (zty_ok x hx) hown (hts _ (zLC_in _ (List.mem_map.mpr ⟨(zown μ, ix, x), by simpa using hm, rfl⟩))) (hts _ (zwA_in _ w1)) (hts _ (zwA_in _ w2)) hK hP hD hS hA (zcl_get hx) (fun j hj => by rw [← hfs]; exact zdef_ok x hx j hj) (by omega) (by omega) hdg (fun q H1 hP1 hD1 hS1 => ?_)
    have e0 : (Sum.inr (x, fs) : va_E) = zcE D tx ad (.inr (x, fs)) := by
      show _ = Sum.inr (x, fs.map (zcv tx ad))
      rw [g1]
    rw [e0] at hP1 hD1
    have hx2 : ∀ i, i < S.2.1 → va_up ad S.2.1 q i = ad i := fun i hi => va_up_ne _ _ (Nat.ne_of_lt hi)
    have K := k (va_up ad S.2.1 q) H1 locs (cells + 1) (slots + (zC x).2.2) hx2 (Nat.le_succ _) (zrep_push (n := fs.length) hr (fun v hv => g2 S.2.1 v hv) hP1 hD1) hS1 (zokL_cons.mpr ⟨Nat.lt_succ_self _, zokL_le (Nat.le_succ _) hst⟩) (by show cells + 1 + k0 = S.2.2.1 + 1; omega) (by show slots + (zC x).2.2 + n0 = S.2.2.2 + fs.length; omega)
    rw [List.map_cons, show zcv tx (va_up ad S.2.1 q) (.ref S.2.1) = .ref q from congrArg Value.ref (va_up_self _ _ _), zmap_ext hx2 hst] at K
    exact K
  · -- newarray
    rename_i t n st _
    obtain ⟨⟨t0, f0⟩, h1, h2⟩ := zbind_eq.mp h
    split at h2
    · rename_i hw
      cases h2; cases hlen (Nat.succ_ne_zero _)
      obtain ⟨hw1, hw2⟩ := zwid_spec hw
      have hrc : S.2.2.1 + 1 ≤ R.cells + k0 := hrc
      have hrn : S.2.2.2 + n.toNatClampNeg ≤ R.slots + n0 := hrn
      have fin : ∀ (ty : FieldType) (q : Nat) (cA : ClassId) (H1 : Heap), (ztys D)[t0]? = some (D.2 t0, ty) → zcR ad f0 = f0 → zokR S.2.1 f0 → (∀ (U : State) (a b : ClassId), va_RA U a ty → va_RA U b ty → a = b) → va_K D.1 zcl (ztys D ++ [(cA, ty)]) s → va_P D.1 zcl (zws D tx ad S.1 S.2.1 ++ [(q, .inl (cA, n.toNatClampNeg, f0))]) H1 → va_D A (zws D tx ad S.1 S.2.1 ++ [(q, .inl (cA, n.toNatClampNeg, f0))]) → va_S A H0 H1 locs →
          W p l e R s m args below meth c H1 locs (cells + 1) (slots + n.toNatClampNeg) Q (F0 m (pc + 2) ls (.ref q :: st.map (zcv tx ad))) := by
        intro ty q cA H1 ht e1 e2 e3 hK1 hP1 hD1 hS1
        have hcA : cA = D.2 t0 := e3 s _ _ (hK1.2 6 (cA, ty) rfl).2 (hK.2 t0 _ ht).2
        subst hcA
        have e0 : (Sum.inl (D.2 t0, n.toNatClampNeg, f0) : va_E) = zcE D tx ad (.inl (t0, n.toNatClampNeg, f0)) := by
          show _ = Sum.inl (D.2 t0, n.toNatClampNeg, zcR ad f0)
          rw [e1]
        rw [e0] at hP1 hD1
        have hx2 : ∀ i, i < S.2.1 → va_up ad S.2.1 q i = ad i := fun i hi => va_up_ne _ _ (Nat.ne_of_lt hi)
        have K := k (va_up ad S.2.1 q) H1 locs (cells + 1) (slots + n.toNatClampNeg) hx2 (Nat.le_succ _) (zrep_push (n := n.toNatClampNeg) hr e2 hP1 hD1) hS1 (zokL_cons.mpr ⟨Nat.lt_succ_self _, zokL_le (Nat.le_succ _) (zokL_cons.mp hst).2⟩) (by show cells + 1 + k0 = S.2.2.1 + 1; omega) (by show slots + n.toNatClampNeg + n0 = S.2.2.2 + n.toNatClampNeg; omega)
        rw [List.map_cons, show zcv tx (va_up ad S.2.1 q) (.ref S.2.1) = .ref q from congrArg Value.ref (va_up_self _ _ _), zmap_ext hx2 (zokL_cons.mp hst).2] at K
        exact K
      have hby : ∀ b : Nat, b ≤ 8 → n.toNatClampNeg * b ≤ 536870912 := fun b hb8 => Nat.le_trans (Nat.mul_le_mul hw2 hb8) (by decide)
      cases t with
      | int => cases h1; exact va_newa (atype := .int) (ty := .int) (a0 := (n.toNatClampNeg, .inl fun _ => 0)) (N' := n.toNatClampNeg) hexec hb (hAC .int (Or.inl rfl)) rfl hK hP hD hS hA (fun _ => rfl) hw1 rfl (hby _ (by decide)) (by omega) (by omega) hdg (fun q cA H1 a1 a2 a3 a4 => fin .int q cA H1 rfl rfl trivial (fun U a b x y => Option.some.inj (x.symm.trans y)) a1 a2 a3 a4)
      | long => cases h1; exact va_newa (atype := .long) (ty := .long) (a0 := (n.toNatClampNeg, .inr (.inl fun _ => 0))) (N' := n.toNatClampNeg) hexec hb (hAC .long (Or.inr (Or.inl rfl))) rfl hK hP hD hS hA (fun _ => rfl) hw1 rfl (hby _ (by decide)) (by omega) (by omega) hdg (fun q cA H1 a1 a2 a3 a4 => fin .long q cA H1 rfl rfl trivial (fun U a b x y => Option.some.inj (x.symm.trans y)) a1 a2 a3 a4)
      | float => cases h1; exact va_newa (atype := .float) (ty := .float) (a0 := (n.toNatClampNeg, .inr (.inr (.inl fun _ => 0)))) (N' := n.toNatClampNeg) hexec hb (hAC .float (Or.inr (Or.inr (Or.inl rfl)))) rfl hK hP hD hS hA (fun _ => rfl) hw1 rfl (hby _ (by decide)) (by omega) (by omega) hdg (fun q cA H1 a1 a2 a3 a4 => fin .float q cA H1 rfl rfl trivial (fun U a b x y => Option.some.inj (x.symm.trans y)) a1 a2 a3 a4)
      | double => cases h1; exact va_newa (atype := .double) (ty := .double) (a0 := (n.toNatClampNeg, .inr (.inr (.inr (.inl fun _ => 0))))) (N' := n.toNatClampNeg) hexec hb (hAC .double (Or.inr (Or.inr (Or.inr (Or.inl rfl))))) rfl hK hP hD hS hA (fun _ => rfl) hw1 rfl (hby _ (by decide)) (by omega) (by omega) hdg (fun q cA H1 a1 a2 a3 a4 => fin .double q cA H1 rfl rfl trivial (fun U a b x y => Option.some.inj (x.symm.trans y)) a1 a2 a3 a4)
      | boolean => cases h1; exact va_newa (atype := .boolean) (ty := .boolean) (a0 := (n.toNatClampNeg, .inl fun _ => 0)) (N' := n.toNatClampNeg) hexec hb (hAC .boolean (Or.inr (Or.inr (Or.inr (Or.inr rfl))))) rfl hK hP hD hS hA (fun _ => rfl) hw1 rfl (hby _ (by decide)) (by omega) (by omega) hdg (fun q cA H1 a1 a2 a3 a4 => fin .boolean q cA H1 rfl rfl trivial (fun U a b x y => Option.some.inj (x.symm.trans y)) a1 a2 a3 a4)
      | _ => cases h1
    · cases h2
  · -- anewarray
    rename_i ix n st _
    split at h
    · rename_i hw
      cases h; cases hlen (Nat.succ_ne_zero _)
      obtain ⟨hw1, hw2⟩ := zwid_spec hw
      have hm : zLC.contains (zown μ, ix, 2) = true := hm
      have hrc : S.2.2.1 + 1 ≤ R.cells + k0 := hrc
      have hrn : S.2.2.2 + n.toNatClampNeg ≤ R.slots + n0 := hrn
      refine va_newq (C := "SparePager$Machine") hexec hb hown (hts _ (zLC_in _ (List.mem_map.mpr ⟨(zown μ, ix, 2), by simpa using hm, rfl⟩))) hAO hK hP hD hS hA hw1 rfl (Nat.le_trans (Nat.mul_le_mul hw2 (by decide : 4 ≤ 8)) (by decide)) (by omega) (by omega) hdg (fun q cA H1 hK1 hP1 hD1 hS1 => ?_)
      have hcA : cA = D.2 5 := by
        obtain ⟨_, _, _, _, _, x1⟩ := (hK1.2 6 (cA, .object "SparePager$Machine") rfl).2
        obtain ⟨_, _, _, _, _, x2⟩ := (hK.2 5 (D.2 5, .object "SparePager$Machine") rfl).2
        exact Option.some.inj (x1.symm.trans x2)
      subst hcA
      have hx2 : ∀ i, i < S.2.1 → va_up ad S.2.1 q i = ad i := fun i hi => va_up_ne _ _ (Nat.ne_of_lt hi)
      have K := k (va_up ad S.2.1 q) H1 locs (cells + 1) (slots + n.toNatClampNeg) hx2 (Nat.le_succ _) (zrep_push (n := n.toNatClampNeg) (e := .inl (5, n.toNatClampNeg, .inr (.inr (.inr (.inr fun _ => none))))) hr (fun j b hb => by cases hb) hP1 hD1) hS1 (zokL_cons.mpr ⟨Nat.lt_succ_self _, zokL_le (Nat.le_succ _) (zokL_cons.mp hst).2⟩) (by show cells + 1 + k0 = S.2.2.1 + 1; omega) (by show slots + n.toNatClampNeg + n0 = S.2.2.2 + n.toNatClampNeg; omega)
      rw [List.map_cons, show zcv tx (va_up ad S.2.1 q) (.ref S.2.1) = .ref q from congrArg Value.ref (va_up_self _ _ _), zmap_ext hx2 (zokL_cons.mp hst).2] at K
      exact K
    · cases h
  · cases h
end ZS2
