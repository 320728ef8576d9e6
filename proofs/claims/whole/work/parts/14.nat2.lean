/-! Members of the JDK that stand for themselves, and the script: one step is the JVM's. -/
theorem ztxt_len : ∀ t ∈ ztxt, t.length < 2 ^ 31 ∧ ∀ c ∈ t, ((c &&& 255).toUInt32 % 65536).toInt32 = c := by decide +kernel
theorem zm_t : 348 ∈ zwt_l ∧ 349 ∈ zwt_l := by decide +kernel
theorem zm_i : Cond.initialized "java/lang/Math" ∈ zwA := by decide +kernel
theorem zwc_all : ∀ μ, μ < 352 → zwc μ ∈ zGW := fun μ h => List.mem_filter.mpr ⟨zwc_in _ (List.mem_map.mpr ⟨μ, zord_all μ h, rfl⟩), by unfold zwc; split <;> rfl⟩
theorem zm_max : Cond.code Lib.Math.max.name Lib.Math.max.code 2 (some .int) ∈ zGW := zwc_all 348 (by decide)
theorem zm_min : Cond.code Lib.Math.min.name Lib.Math.min.code 2 (some .int) ∈ zGW := zwc_all 349 (by decide)
theorem zLK_mem {o i k : Nat} (h : zLK.contains (o, i, k) = true) : Cond.methodLink (zO o) i (zNatY.getD k ⟨"", "", ""⟩) ∈ zGW := zLK_in _ (List.mem_map.mpr ⟨(o, i, k), by simpa using h, rfl⟩)
theorem zsum_map {tx ad : Nat → Nat} (st : List Value) : ((st.map (zcv tx ad)).map fun v => v.category).sum = zsum st := by
  unfold zsum
  rw [List.map_map]
  congr 1
  exact List.map_congr_left fun v _ => zcv_cat tx ad v
theorem zsum_le {v : Value} {st : List Value} (h : zsum (v :: st) ≤ 8) : zsum st ≤ 8 := by
  unfold zsum at h ⊢
  rw [List.map_cons, List.sum_cons] at h
  omega
section ZS3
variable {p : Program} {l : Launch} {e : Env} {R : Room} {s : State} {m : MethodId} {args : Array Value} {below : List Frame} {meth : Method} {c : Code} {H : Heap} {locs : List Loc} {cells slots : Nat} {Q : State → Prop}
variable {pc : Nat} {ls : Array Slot} {tx ad : Nat → Nat} {D : ZD} {A : Nat → Prop}
set_option maxHeartbeats 8000000 in
set_option maxRecDepth 100000 in
theorem zs_nat {ins : Instr} {μ x y len : Nat} {st st' : List Value} {S S' : ZS} (hexec : p.tables.exec = Jvm.exec) (hb : c.code = (zM μ).2.1) (hown : s.vm.findClass (zO (zown μ)) = some m.cls) (hts : ∀ w ∈ zGW, w.before args s = true)
    (hml : c.maxLocals = ls.size) (hfac : zfacts tx A s) (hf : (zM μ).2.2.2.1 ≤ R.frames) (hlo : (zM μ).2.2.2.2 ≤ R.locals) (hcR : cells ≤ R.cells) (hnR : slots ≤ R.slots)
    (h : znat x st S = some (st', S')) (h8 : zsum st ≤ 8) (hdg : decode (zM μ).2.1 pc = .ok (ins, len)) (hlen : zlen ins = 0 ∨ zlen ins = len) (hm : zokm μ pc (ins, len, 6, x, y) = true)
    (hK : va_K D.1 zcl (ztys D) s) (hr : zrep D tx ad A S H) (hS : va_S A s.heap H locs)
    (k : ∀ (H1 : Heap) (locs1 : List Loc), zrep D tx ad A S' H1 → va_S A s.heap H1 locs1 → W p l e R s m args below meth c H1 locs1 cells slots Q (F0 m (pc + len) ls (st'.map (zcv tx ad)))) :
    W p l e R s m args below meth c H locs cells slots Q (F0 m pc ls (st.map (zcv tx ad))) := by
  have hlen : zlen ins ≠ 0 → len = zlen ins := fun q => by omega
  unfold znat at h
  split at h
  · -- Object()
    rename_i i st
    cases h
    cases ins with
    | invokespecial ix =>
      cases hlen (Nat.succ_ne_zero _)
      have hm : (((((0 : Nat) == 0) && zLK.contains (zown μ, ix, 0)) && decide (1 ≤ (zM μ).2.2.2.1)) && decide (20 ≤ (zM μ).2.2.2.2)) = true := hm
      simp only [Bool.and_eq_true, decide_eq_true_eq] at hm
      refine W.objInit (own := zO (zown μ)) hexec hb hown (hts _ (zLK_mem hm.1.1.2)) (hts _ zj_inst_obj) (hts _ zj_code_obj) rfl hml.symm (a := ad i) (rest := st'.map (zcv tx ad)) rfl hdg (Nat.le_trans hm.1.2 hf) ?_ (k H locs hr hS)
      show 2 * 0 + _ + 12 ≤ R.locals
      have h9 := zsum_le h8
      rw [zsum_map]
      have := hm.2
      omega
    | _ => exact absurd hm (by intro q; cases q)
  · -- arraycopy
    rename_i n dp b sp a
    obtain ⟨h', h1, h2⟩ := zbind_eq.mp h
    cases h2
    obtain ⟨n0, f, n1, g, ha, hbb, g1, g2, g3, g4, g5, rfl⟩ := zcpy_eq h1
    cases ins with
    | invokestatic ix =>
      cases hlen (Nat.succ_ne_zero _)
      have hm : ((((((1 : Nat) == 1) || (((1 : Nat) == 4) || ((1 : Nat) == 5))) && zLK.contains (zown μ, ix, 1)) && decide (1 ≤ (zM μ).2.2.2.1)) && decide (60 ≤ (zM μ).2.2.2.2)) = true := hm
      simp only [Bool.and_eq_true, decide_eq_true_eq] at hm
      refine va_copyi (own := zO (zown μ)) (a := ad b) (ty := .int) (rest := []) hexec hb hml hown (hts _ (zLK_mem hm.1.1.2)) (hts _ zj_nat_copy) (hts _ zj_stat_copy) (hts _ zj_ini_sys) hK hr.1 hr.2.1 hS a b 0 0 (zrep_at hr ha zne_l) (zrep_at hr hbb zne_l) rfl rfl rfl g1 g2 g3 g4 g5 (fun _ _ => rfl) (Nat.le_trans hm.1.2 hf) (Nat.le_trans (by decide +kernel) (Nat.le_trans hm.2 hlo)) hdg (fun H1 locs1 hP1 hD1 hS1 => k H1 locs1 (zrep_set hr (zrep_lt hr hbb zne_l) trivial hP1 hD1) hS1)
    | _ => exact absurd hm (by intro q; cases q)
  · -- length
    rename_i kk st
    obtain ⟨t, h1, h2⟩ := zbind_eq.mp h
    cases h2
    obtain ⟨b, hz⟩ := hfac.2.2.2.2.2.2.2.2.1 kk t h1
    obtain ⟨hL, -⟩ := ztxt_len t (List.mem_of_getElem? h1)
    cases ins with
    | invokevirtual ix =>
      cases hlen (Nat.succ_ne_zero _)
      have hm : ((((((2 : Nat) == 2) || ((2 : Nat) == 3)) && zLK.contains (zown μ, ix, 2)) && decide (4 ≤ (zM μ).2.2.2.1)) && decide (100 ≤ (zM μ).2.2.2.2)) = true := hm
      simp only [Bool.and_eq_true, decide_eq_true_eq] at hm
      have hz1 : zjs (tx kk) b t zF s H := (hz.kept hS.2.1).narrow zF_to
      obtain ⟨cell, q1, q2, q3, -⟩ := hz1.1
      have hfr := Nat.le_trans hm.1.2 hf
      have hlr := Nat.le_trans hm.2 hlo
      refine va_calli (H0 := s.heap) (A0 := A) (va_runV (own := zO (zown μ)) (C := "java/lang/String") (As := []) (rest := st.map (zcv tx ad)) ⟨hexec, hb, hml, hown, hts⟩ (zj_length l (tx kk) b t hL) (cwV 0 hts (zgi (zcons (zLK_mem hm.1.1.2) (zcons zj_inst_len (zcons zj_sel_len (zcons zj_ini_s (zcons zj_code_len zself)))))) rfl rfl rfl (by decide +kernel) ⟨by show 1 + 1 ≤ R.frames; omega, by show 8 + (1 + 11) + 20 ≤ R.locals; omega⟩) ⟨zjP_blind, ⟨cell, q1, q2, q3⟩, fun U hU hW => ⟨rfl, by show zjs _ _ _ zF U U.heap; rw [hU]; exact zjs.moved hW.alike hz1⟩⟩ rfl rfl rfl rfl (lv_room (by rw [zsum_map]; exact zsum_le h8)) hdg ⟨hcR, hnR⟩) hS (fun q _ h => zF_to q h) (fun q h => zF_to q h) (fun r u t H1 locs ht hvm hw hB hz1 hk1 hS => ?_)
      subst hw
      exact k H1 locs (zrep_kept hr rfl rfl fun q hq => hk1 q hq (fun h => h)) hS
    | _ => exact absurd hm (by intro q; cases q)
  · -- charAt
    rename_i j kk st
    obtain ⟨t, h1, h2⟩ := zbind_eq.mp h
    split at h2
    · cases h2
    rename_i hj0
    obtain ⟨cc, h3, h4⟩ := zbind_eq.mp h2
    cases h4
    obtain ⟨b, hz⟩ := hfac.2.2.2.2.2.2.2.2.1 kk t h1
    obtain ⟨hL, hcc⟩ := ztxt_len t (List.mem_of_getElem? h1)
    have hjl : j.toNatClampNeg < t.length := (List.getElem?_eq_some_iff.mp h3).1
    have hcv : ((t.getD j.toNatClampNeg 0 &&& 255).toUInt32 % 65536).toInt32 = cc := by
      rw [List.getD_eq_getElem?_getD, h3]
      exact hcc cc (List.mem_of_getElem? h3)
    cases ins with
    | invokevirtual ix =>
      cases hlen (Nat.succ_ne_zero _)
      have hm : ((((((3 : Nat) == 2) || ((3 : Nat) == 3)) && zLK.contains (zown μ, ix, 3)) && decide (4 ≤ (zM μ).2.2.2.1)) && decide (100 ≤ (zM μ).2.2.2.2)) = true := hm
      simp only [Bool.and_eq_true, decide_eq_true_eq] at hm
      have hz1 : zjs (tx kk) b t zF s H := (hz.kept hS.2.1).narrow zF_to
      obtain ⟨cell, q1, q2, q3, -⟩ := hz1.1
      have hfr := Nat.le_trans hm.1.2 hf
      have hlr := Nat.le_trans hm.2 hlo
      refine va_calli (H0 := s.heap) (A0 := A) (va_runV (own := zO (zown μ)) (C := "java/lang/String") (As := [.int j]) (rest := st.map (zcv tx ad)) ⟨hexec, hb, hml, hown, hts⟩ (zj_charAt l (tx kk) b t j hj0 hL hjl) (cwV 1 hts (zgi (zcons (zLK_mem hm.1.1.2) (zcons zj_inst_chr (zcons zj_sel_chr (zcons zj_ini_s (zcons zj_code_chr zself)))))) rfl rfl rfl (by decide +kernel) ⟨by show 3 + 1 ≤ R.frames; omega, by show 8 + (2 + 11) + 64 ≤ R.locals; omega⟩) ⟨zjP_blind, ⟨cell, q1, q2, q3⟩, fun U hU hW => ⟨rfl, by show zjs _ _ _ zF U U.heap; rw [hU]; exact zjs.moved hW.alike hz1⟩⟩ rfl rfl rfl rfl (lv_room (by rw [zsum_map]; exact zsum_le (zsum_le h8))) hdg ⟨hcR, hnR⟩) hS (fun q _ h => zF_to q h) (fun q h => zF_to q h) (fun r u t H1 locs ht hvm hw hB hz1 hk1 hS => ?_)
      rw [hcv] at hw
      subst hw
      exact k H1 locs (zrep_kept hr rfl rfl fun q hq => hk1 q hq (fun h => h)) hS
    | _ => exact absurd hm (by intro q; cases q)
  · -- max
    rename_i yy xx st
    cases h
    cases ins with
    | invokestatic ix =>
      cases hlen (Nat.succ_ne_zero _)
      have hm : ((((((4 : Nat) == 1) || (((4 : Nat) == 4) || ((4 : Nat) == 5))) && zLK.contains (zown μ, ix, 4)) && decide (1 ≤ (zM μ).2.2.2.1)) && decide (60 ≤ (zM μ).2.2.2.2)) = true := hm
      simp only [Bool.and_eq_true, decide_eq_true_eq] at hm
      have h9 := zsum_le (zsum_le h8)
      have h10 := Nat.le_trans hm.2 hlo
      exact va_mmax (own := zO (zown μ)) (rest := st.map (zcv tx ad)) hexec hb hml hown (hts _ (zLK_mem hm.1.1.2)) (hts _ (zwt_in _ (List.mem_map.mpr ⟨348, zm_t.1, rfl⟩))) (hts _ (zwA_in _ zm_i)) (hts _ zm_max) (Nat.le_trans hm.1.2 hf) (by rw [zsum_map]; omega) hcR hnR hdg (k H locs hr hS)
    | _ => exact absurd hm (by intro q; cases q)
  · -- min
    rename_i yy xx st
    cases h
    cases ins with
    | invokestatic ix =>
      cases hlen (Nat.succ_ne_zero _)
      have hm : ((((((5 : Nat) == 1) || (((5 : Nat) == 4) || ((5 : Nat) == 5))) && zLK.contains (zown μ, ix, 5)) && decide (1 ≤ (zM μ).2.2.2.1)) && decide (60 ≤ (zM μ).2.2.2.2)) = true := hm
      simp only [Bool.and_eq_true, decide_eq_true_eq] at hm
      have h9 := zsum_le (zsum_le h8)
      have h10 := Nat.le_trans hm.2 hlo
      exact va_mmin (own := zO (zown μ)) (rest := st.map (zcv tx ad)) hexec hb hml hown (hts _ (zLK_mem hm.1.1.2)) (hts _ (zwt_in _ (List.mem_map.mpr ⟨349, zm_t.2, rfl⟩))) (hts _ (zwA_in _ zm_i)) (hts _ zm_min) (Nat.le_trans hm.1.2 hf) (by rw [zsum_map]; omega) hcR hnR hdg (k H locs hr hS)
    | _ => exact absurd hm (by intro q; cases q)
  · cases h
theorem zs_scr {X : ZX} {ins : Instr} {len b : Nat} {st st' : List Value} {cc : ByteArray} {H0 : Heap} (hexec : p.tables.exec = Jvm.exec) (hb : c.code = cc) (hX : va_X b X.1 X.2 s H0) (hbl : b < H0.size) (hbA : ¬ A b) (htx : tx 999 = b) (hS : va_S A H0 H locs)
    (h : zscr X ins st = some st') (hdg : decode cc pc = .ok (ins, len)) (hlen : zlen ins = 0 ∨ zlen ins = len)
    (k : W p l e R s m args below meth c H locs cells slots Q (F0 m (pc + len) ls (st'.map (zcv tx ad)))) :
    W p l e R s m args below meth c H locs cells slots Q (F0 m pc ls (st.map (zcv tx ad))) := by
  have hlen : zlen ins ≠ 0 → len = zlen ins := fun q => by omega
  unfold zscr at h
  split at h
  · rename_i kk st
    split at h
    · rename_i hk
      cases h
      cases hlen (Nat.succ_ne_zero _)
      subst hk
      have e : zcv tx ad (.retAddr 999) = .ref b := congrArg Value.ref htx
      rw [List.map_cons, e]
      exact va_slen hexec hb hX hbl hbA hS hdg k
    · cases h
  · rename_i j kk st
    split at h
    · rename_i hk
      obtain ⟨hk, hj⟩ := hk
      cases h
      cases hlen (Nat.succ_ne_zero _)
      subst hk
      have e : zcv tx ad (.retAddr 999) = .ref b := congrArg Value.ref htx
      rw [List.map_cons, List.map_cons, e]
      exact va_sld hexec hb hX hbl hbA hS hj hdg k
    · cases h
  · cases h
end ZS3
