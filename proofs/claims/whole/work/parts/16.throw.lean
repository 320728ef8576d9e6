/-! 'throw new E(text)' -/
def zTN : List String := ["java/lang/RuntimeException", "java/lang/Exception"]
def zTL (x : Nat) : List Cond := vx_atS "SparePager" (zic x) (zE x) zTN
def zTB (x : Nat) : List Cond := .castable (zE x) (zE x) :: zDN.map fun n => .declares ⟨n, "<init>", "(Ljava/lang/String;)V"⟩
set_option maxRecDepth 100000 in
theorem zTL_1 : (List.range 3).all (fun x => ((zTL x).filter goodWord).all fun w => zGW.contains w) = true := by decide +kernel
set_option maxRecDepth 100000 in
theorem zTL_2 : (List.range 3).all (fun x => ((zTL x).filter fun w => !goodWord w).all fun w => (zTB x).contains w) = true := by decide +kernel
set_option maxRecDepth 100000 in
theorem zTL_3 : (List.range 3).all (fun x => (zTL x).all fun w => vx_ot w) = true := by decide +kernel
theorem zTL_4 : ∀ x, x < 3 → Bundle.fit (zE x) = true ∧ Cond.initialized (zE x) ∈ zwA := by decide +kernel
theorem zTN_fit : ∀ n ∈ zTN, Bundle.fit n = true := by decide +kernel
theorem zis_ok {μ pc n : Nat} {i : Instr} (hμ : μ < 353) (h : zis μ pc i n = true) : decode (zM μ).2.1 pc = .ok (i, n) := by
  unfold zis at h
  cases e : zfetch μ pc with
  | none => rw [e] at h; cases h
  | some q =>
    rw [e] at h
    have h : (decide (q.1 = i) && q.2.1 == n) = true := h
    rw [Bool.and_eq_true, decide_eq_true_eq, beq_iff_eq] at h
    have := (zfetch_ok hμ e).1
    rw [h.1, h.2] at this
    exact this
section ZS5
variable {p : Program} {l : Launch} {e : Env} {R : Room} {s : State} {m : MethodId} {args : Array Value} {below : List Frame} {meth : Method} {c : Code} {H : Heap} {locs : List Loc} {cells slots mc ms : Nat}
variable {pc : Nat} {ls : Array Slot} {tx : Nat → Nat} {A free : Nat → Prop} {Qc : Array Value → State → Outcome → State → Prop} {XC : String → State → State → Prop}
set_option maxHeartbeats 4000000 in
theorem zs_throw {μ i x : Nat} (hμ : μ < 353) (hexec : p.tables.exec = Jvm.exec) (hb : c.code = (zM μ).2.1) (hl : l.stackTraces = false) (hown : s.vm.findClass (zO (zown μ)) = some m.cls) (hts : ∀ w ∈ zGW, w.before args s = true)
    (hml : c.maxLocals = ls.size) (hfac : zfacts tx A s) (hfR : (zM μ).2.2.2.1 ≤ R.frames) (hlR : (zM μ).2.2.2.2 ≤ R.locals) (htab : ∀ x ∈ c.exceptionTable.toList, False) (hlocks : meth.locks = false)
    (hm : zthr μ pc i x = true) (hdg : decode (zM μ).2.1 pc = .ok (.new i, 3)) (hS : va_S A s.heap H locs) (hcR : cells + 1 ≤ R.cells) (hsR : slots + 6 ≤ R.slots)
    (hx : ∀ t : State, s.vm.Alike t.vm → H.size ≤ t.heap.size → (∀ q : Nat, q < H.size → t.heap[q]? = H[q]?) → XC (zE x) s t) (hf : ∀ z ∈ locs, free z.base) (hc : cells + 1 ≤ mc) (hs : slots + 6 ≤ ms) :
    W p l e R s m args below meth c H locs cells slots (vx_MQ below Qc XC args s mc ms free) (F0 m pc ls []) := by
  unfold zthr at hm
  simp only [Bool.and_eq_true, decide_eq_true_eq, beq_iff_eq] at hm
  obtain ⟨⟨⟨⟨⟨⟨⟨m1, m2⟩, m3⟩, m4⟩, m5⟩, m6⟩, m7⟩, m8⟩ := hm
  obtain ⟨⟨o9, is, tx9⟩, hq, m9⟩ := List.any_eq_true.mp m8
  simp only [Bool.and_eq_true, Bool.or_eq_true, beq_iff_eq] at m9
  obtain ⟨rfl, m9⟩ := m9
  obtain ⟨a9, ha9⟩ := hfac.2.2.2.1 (7, is, tx9) hq rfl
  obtain ⟨hfit, hini⟩ := zTL_4 x m2
  have hcl : Cond.classLink (zO 7) i (zE x) ∈ zGW := by
    rw [m5] at m1
    exact zLE_in _ (List.mem_map.mpr ⟨(7, i, x), by simpa using m1, rfl⟩)
  have hr3 : x ∈ List.range 3 := List.mem_range.mpr m2
  have hown7 : s.vm.findClass "SparePager" = some m.cls := by rw [m5] at hown; exact hown
  have hat : ∀ w ∈ vx_atS "SparePager" (zic x) (zE x) zTN, w.before args s = true := by
    refine vx_hat (L := zTL x) (B := zTB x) (fun w hw => hts w ?_) (fun w hw => ?_) (fun w hw => ?_)
    · have := List.all_eq_true.mp (List.all_eq_true.mp zTL_1 x hr3) w hw
      simpa using this
    · have := List.all_eq_true.mp (List.all_eq_true.mp zTL_2 x hr3) w hw
      simpa using this
    · rcases List.mem_cons.mp hw with rfl | hw
      · exact va_tabs rfl rfl (hfac.2.2.2.2.2.1 x m2)
      · obtain ⟨n, hn, rfl⟩ := List.mem_map.mp hw
        exact va_tabs rfl rfl (hfac.2.2.2.2.2.2.2.2.2 n hn)
  have hgood : ∀ w ∈ Cond.classLink "SparePager" i (zE x) :: Cond.initialized (zE x) :: vx_atS "SparePager" (zic x) (zE x) zTN, vx_ot w = true := by
    intro w hw
    rcases List.mem_cons.mp hw with rfl | hw
    · exact (Bool.or_eq_true _ _).mpr (Or.inr rfl)
    rcases List.mem_cons.mp hw with rfl | hw
    · exact (Bool.or_eq_true _ _).mpr (Or.inr rfl)
    · exact List.all_eq_true.mp (List.all_eq_true.mp zTL_3 x hr3) w hw
  have hRf : zTN.length + 3 < R.frames := by show 5 < R.frames; omega
  have hRl : (([] : List Value).map fun v => v.category).sum + (13 * (zTN.length + 1) + 43) ≤ R.locals := by show 0 + 82 ≤ R.locals; omega
  rcases m9 with ⟨⟨d4, d6⟩, d9⟩ | ⟨⟨d4, d7⟩, d10⟩
  · exact vx_throwS (own := "SparePager") (cls := zE x) (text := tx9) (names := zTN) (ik := i) (is := is) (ic := zic x) (sa := a9) (A := A) hexec hb hl hown7 hfit zTN_fit (hts _ hcl) (hts _ (zwA_in _ hini)) ha9 hat hgood hfac.1 hfac.2.1 hS hml.symm hdg (zis_ok hμ m7) (zis_ok hμ d4) (zis_ok hμ d6) (zis_ok hμ d9) (fun x hx => (htab x hx).elim) hRf hRl hcR hsR hlocks hx hf hc hs
  · exact vx_throwSW (own := "SparePager") (cls := zE x) (text := tx9) (names := zTN) (ik := i) (is := is) (ic := zic x) (sa := a9) (A := A) hexec hb hl hown7 hfit zTN_fit (hts _ hcl) (hts _ (zwA_in _ hini)) ha9 hat hgood hfac.1 hfac.2.1 hS hml.symm hdg (zis_ok hμ m7) (zis_ok hμ d4) (zis_ok hμ d7) (zis_ok hμ d10) (fun x hx => (htab x hx).elim) hRf hRl hcR hsR hlocks hx hf hc hs
end ZS5
