/-! THE CLAIM OUT OF ONE WALK OF THE LAW'S BODY. Your part is whole_start (and what it stands on); all else here is the same for every law, but numbers. -/
def R_law : String := "SparePagerLaw"
def lw_P (b : Addr) (xs : List Int32) (args : Array Value) (s : State) : Prop := args = #[.ref b] ∧ s.IntsAt b xs ∧ xs.length ≤ 3072 ∧ (Jvm.Cond.and given_1 narrow_1).before args s = true
/-- what a walk over the start with the record d0 says of its end, said of the start itself -/
theorem lw_closed {s t : State} {o : Outcome} {d0 : Drawn} {L : List Loc} {k n : Nat} (hd0 : s.drawn.sameBut d0 lw_cs) (hv : ∃ v, o = .returned v) (hW : (s.setDrawn d0).WarmedH t.vm) (hs : (s.setDrawn d0).sameButNew ({ t with vm := s.vm } : State) L k n) : State.butDraws s t lw_cs (fun t1 => Framed s o t1 L k n) := by
  have h2 : t.drawn = d0 := congrArg State.drawn hs.1
  refine ⟨⟨hv, hW, State.sameButNew.setDrawn hs s.drawn⟩, ?_, by decide⟩
  rw [h2]
  exact hd0
def lw_Q (_ : Array Value) (s : State) (o : Outcome) (t : State) : Prop := o = .returned (some (.int 1)) ∧ State.butDraws s t lw_cs (fun t1 => Framed s o t1 [] 601024 7293034)
def lw_Z (below : List Frame) (a : Array Value) (s : State) : State → Prop := fun t => ∃ o, t.status = .running ∧ Ended t below o ∧ lw_Q a s o t
/-- the law's own end, with 1 on the stack, nothing written that was there before, its room as the claim has it; d0: the record of draws at this point (at the entry s.drawn: begin with 'refine W.base ?_' and 'have hd0 := Drawn.sameBut.refl s.drawn lw_cs') -/
theorem lw_ret {p : Program} {l : Launch} {e : Env} {s : State} {m : MethodId} {below : List Frame} {meth : Method} {c : Code} {b : Nat} {d0 : Drawn} (hd0 : s.drawn.sameBut d0 lw_cs) (hx : p.tables.exec = Jvm.exec) (hb : c.code = code) (hr : meth.sig.returnType = ret) (hlocks : meth.locks = false) {pc : Nat} {H : Heap} {ls : Array Slot} (hdg : decode code pc = .ok (.ireturn, 1)) : W p l e room_1 (s.setDrawn d0) m #[Value.ref b] below meth c H [] 601024 7293034 (lw_Z below #[Value.ref b] s) (F0 m pc ls [.int 1]) := by
  intro T hT X
  obtain ⟨fs, hret, hrun, hended, hW, hframe⟩ := X.leave (v := some (.int 1)) (hlocks := hlocks) (fun h => by rw [hr] at h; cases h)
  have hmeth' : T.vm.method? m = some meth := X.method'
  refine ⟨T.setFrames fs, ?_, .returned (some (.int 1)), hrun, hended, rfl, lw_closed hd0 ⟨_, rfl⟩ hW hframe⟩
  jvm_step X.here [X.here.top, hx, hb, hdg, hmeth', hr, ret, narrow_b1]
  (try refine ⟨rfl, ?_⟩); (try refine ⟨rfl, ?_⟩)
  first | (intro acts; rw [hret _ acts rfl rfl rfl]) | rw [hret _ _ rfl rfl rfl]
  exact Steps.refl _
/-- what holds at the law's entry: the machine, the code, the tables' words (any of lw_tbl by 'hts w (by decide +kernel)'), the script of L ints xs at the cell b, what the Statement gives of the start (any of its parts by flat_of_before) -/
def lw_At (p : Program) (s : State) (m : MethodId) (meth : Method) (c : Code) (b L : Nat) (xs : Nat → Int32) : Prop :=
  p.tables.exec = Jvm.exec ∧ c.code = code ∧ meth.sig.returnType = ret ∧ c.maxLocals = 9 ∧ s.vm.findClass R_law = some m.cls ∧ (∀ w ∈ lw_tbl, w.before #[Value.ref b] s = true) ∧ va_X b L xs s s.heap ∧ b < s.heap.size ∧ meth.locks = false ∧ (Jvm.Cond.and given_1 narrow_1).before #[Value.ref b] s = true

/-! What the start gives. -/
def zNT (own : String) (i : Nat) (bs : List Int32) : List Cond := [.exactly (.string own i) "java/lang/String", .eq (.field (.string own i) "java/lang/String" "coder" "B") (.int 0), .arrayOf (.field (.string own i) "java/lang/String" "value" "[B") .byte, .eq (.length (.field (.string own i) "java/lang/String" "value" "[B")) (.int (Int32.ofNat bs.length))] ++ (List.range bs.length).map fun j => .eq (.elem (.field (.string own i) "java/lang/String" "value" "[B") (.int (Int32.ofNat j))) (.int (bs.getD j 0))
def zNF : List Cond := flatC (Jvm.Cond.and given_1 narrow_1)
set_option maxRecDepth 100000 in
theorem zNT_0 : zNT (zO 4) 59 (ztxt.getD 0 []) = zpick zNF [75, 0, 0, 0, 0, 0, 0, 0, 0, 0] := by decide +kernel
set_option maxRecDepth 100000 in
theorem zNT_1 : zNT (zO 4) 84 (ztxt.getD 1 []) = zpick zNF [85, 0, 0, 0, 0, 0, 0] := by decide +kernel
set_option maxRecDepth 100000 in
theorem zNT_2 : zNT (zO 4) 113 (ztxt.getD 4 []) = zpick zNF [92, 0, 0, 0, 0, 0, 0, 0, 0] := by decide +kernel
set_option maxRecDepth 100000 in
theorem zNT_3 : zNT (zO 4) 93 (ztxt.getD 2 []) = zpick zNF [101, 0, 0, 0, 0, 0] := by decide +kernel
set_option maxRecDepth 100000 in
theorem zNT_4 : zNT (zO 4) 98 (ztxt.getD 3 []) = zpick zNF [107, 0, 0, 0, 0, 0, 0] := by decide +kernel
set_option maxRecDepth 100000 in
theorem zNT_5 : zNT (zO 8) 184 (ztxt.getD 5 []) = zpick zNF [567, 0, 0, 0, 0, 0, 0, 0, 0, 0] := by decide +kernel
set_option maxRecDepth 100000 in
theorem zNT_6 : zNT (zO 8) 170 (ztxt.getD 6 []) = zpick zNF [578, 0, 0, 0, 0, 0, 0] := by decide +kernel
set_option maxRecDepth 100000 in
theorem zNT_7 : zNT (zO 8) 150 (ztxt.getD 9 []) = zpick zNF [586, 0, 0, 0, 0, 0, 0, 0, 0] := by decide +kernel
set_option maxRecDepth 100000 in
theorem zNT_8 : zNT (zO 8) 175 (ztxt.getD 7 []) = zpick zNF [596, 0, 0, 0, 0, 0] := by decide +kernel
set_option maxRecDepth 100000 in
theorem zNT_9 : zNT (zO 8) 179 (ztxt.getD 8 []) = zpick zNF [603, 0, 0, 0, 0, 0, 0] := by decide +kernel
theorem zNT_in : ∀ q ∈ zLT, ∀ w ∈ zNT (zO q.1) q.2.1 (ztxt.getD q.2.2 []), w ∈ zNF := by
  unfold zLT
  refine List.forall_mem_cons.mpr ⟨fun w hw => zpick_in [75, 0, 0, 0, 0, 0, 0, 0, 0, 0] zNF w (by rw [← zNT_0]; exact hw), List.forall_mem_cons.mpr ⟨fun w hw => zpick_in [85, 0, 0, 0, 0, 0, 0] zNF w (by rw [← zNT_1]; exact hw), List.forall_mem_cons.mpr ⟨fun w hw => zpick_in [92, 0, 0, 0, 0, 0, 0, 0, 0] zNF w (by rw [← zNT_2]; exact hw), List.forall_mem_cons.mpr ⟨fun w hw => zpick_in [101, 0, 0, 0, 0, 0] zNF w (by rw [← zNT_3]; exact hw), List.forall_mem_cons.mpr ⟨fun w hw => zpick_in [107, 0, 0, 0, 0, 0, 0] zNF w (by rw [← zNT_4]; exact hw), List.forall_mem_cons.mpr ⟨fun w hw => zpick_in [567, 0, 0, 0, 0, 0, 0, 0, 0, 0] zNF w (by rw [← zNT_5]; exact hw), List.forall_mem_cons.mpr ⟨fun w hw => zpick_in [578, 0, 0, 0, 0, 0, 0] zNF w (by rw [← zNT_6]; exact hw), List.forall_mem_cons.mpr ⟨fun w hw => zpick_in [586, 0, 0, 0, 0, 0, 0, 0, 0] zNF w (by rw [← zNT_7]; exact hw), List.forall_mem_cons.mpr ⟨fun w hw => zpick_in [596, 0, 0, 0, 0, 0] zNF w (by rw [← zNT_8]; exact hw), List.forall_mem_cons.mpr ⟨fun w hw => zpick_in [603, 0, 0, 0, 0, 0, 0] zNF w (by rw [← zNT_9]; exact hw), fun _ h => absurd h List.not_mem_nil⟩⟩⟩⟩⟩⟩⟩⟩⟩⟩
set_option maxRecDepth 100000 in
theorem zLS_1 : ∀ w ∈ zLS.map zwS, w ∈ lw_tbl := zInT [438, 70, 69, 21, 10, 36, 25, 47, 24, 62, 38, 17, 53, 108, 172, 44, 11, 12, 47, 22, 15, 7, 186, 30, 11, 0, 15] rfl
set_option maxRecDepth 100000 in
theorem zLS_2 : zLS.map (fun q => Cond.exactly (.string (zO q.1) q.2.1) "java/lang/String") = zpick zNF [44, 30, 9, 6, 8, 5, 6, 24, 21, 27, 27, 24, 25, 25, 24, 24, 30, 48, 35, 25, 29, 24, 25, 10, 7, 9, 6] := by decide +kernel
theorem zLS_in : ∀ q ∈ zLS, zwS q ∈ lw_tbl ∧ Cond.exactly (.string (zO q.1) q.2.1) "java/lang/String" ∈ zNF := fun q hq => ⟨zLS_1 _ (List.mem_map.mpr ⟨q, hq, rfl⟩), zpick_in _ zNF _ (by rw [← zLS_2]; exact List.mem_map.mpr ⟨q, hq, rfl⟩)⟩
def zNQ : List Cond := [.isRef (.static "java/lang/Throwable" "UNASSIGNED_STACK" "[Ljava/lang/StackTraceElement;"), .isRef (.static "java/lang/Throwable" "SUPPRESSED_SENTINEL" "Ljava/util/List;"), .eq (.static "java/lang/String" "COMPACT_STRINGS" "Z") (.int 1), .isRef (.static "jdk/internal/util/Preconditions" "SIOOBE_FORMATTER" "Ljava/util/function/BiFunction;"), .not (.castable "java/lang/IllegalArgumentException" "java/lang/IndexOutOfBoundsException"), .not (.castable "java/lang/IllegalStateException" "java/lang/IndexOutOfBoundsException"), .not (.castable "java/lang/IndexOutOfBoundsException" "java/lang/IllegalArgumentException"), .not (.castable "java/lang/IllegalStateException" "java/lang/IllegalArgumentException"), .not (.castable "java/lang/IndexOutOfBoundsException" "java/lang/IllegalStateException"), .not (.castable "java/lang/IllegalArgumentException" "java/lang/IllegalStateException")]
set_option maxRecDepth 100000 in
theorem zNQ_1 : zNQ = zpick zNF [4, 0, 0, 0, 12, 0, 9, 0, 9, 0] := by decide +kernel
theorem zNQ_in {w : Cond} (h : w ∈ zNQ) : w ∈ zNF := zpick_in _ zNF _ (by rw [← zNQ_1]; exact h)
def zTW : List Cond := [.initialized "java/lang/Throwable", .arrayOver (.object "SparePager$Machine"), .castable "java/lang/IndexOutOfBoundsException" "java/lang/IndexOutOfBoundsException", .declares ⟨"java/lang/RuntimeException", "<init>", "(Ljava/lang/String;)V"⟩, .declares ⟨"java/lang/Exception", "<init>", "(Ljava/lang/String;)V"⟩, .declares ⟨"java/lang/Throwable", "<init>", "(Ljava/lang/String;)V"⟩, .laysStatic "java/lang/Throwable" "UNASSIGNED_STACK" "[Ljava/lang/StackTraceElement;", .laysStatic "java/lang/Throwable" "SUPPRESSED_SENTINEL" "Ljava/util/List;", .laysStatic "java/lang/String" "COMPACT_STRINGS" "Z", .laysStatic "jdk/internal/util/Preconditions" "SIOOBE_FORMATTER" "Ljava/util/function/BiFunction;", .castable "java/lang/IllegalArgumentException" "java/lang/IllegalArgumentException", .castable "java/lang/IllegalStateException" "java/lang/IllegalStateException"]
set_option maxRecDepth 100000 in
theorem zTW_1 : ∀ w ∈ zTW, w ∈ lw_tbl := zInT [125, 156, 116, 1, 1, 1, 18, 1, 100, 15, 124, 47] rfl
theorem zLT_one : zLT.all (fun q => zLS.any fun z => z.1 == q.1 && z.2.1 == q.2.1) = true := by decide +kernel
theorem zLT_k : (List.range 10).all (fun k => zLT.any fun q => q.2.2 == k) = true := by decide +kernel
theorem zLT_u : zLT.all (fun q => zLT.all fun z => q.2.2 != z.2.2 || decide (q = z)) = true := by decide +kernel
theorem zst_tx {s : State} {args : Array Value} {A : Nat → Prop} (hgv : ∀ w ∈ zNF, w.before args s = true) (hts : ∀ w ∈ lw_tbl, w.before args s = true) (hA : ∀ a : Nat, a < s.heap.size → ¬ A a)
    (hZ : va_Z "java/lang/String" "COMPACT_STRINGS" "Z" (.int 1) A s s.heap) (hq : va_Zq "jdk/internal/util/Preconditions" "SIOOBE_FORMATTER" "Ljava/util/function/BiFunction;" A s s.heap) :
    ∀ q ∈ zLT, ∃ a : Nat, (∃ t, vk_R (zO q.1) q.2.1 t a s) ∧ ∃ b, zjs a b (ztxt.getD q.2.2 []) A s s.heap := by
  intro q hqq
  obtain ⟨bs, hbs⟩ : ∃ bs, bs = ztxt.getD q.2.2 [] := ⟨_, rfl⟩
  have hin := zNT_in q hqq
  rw [← hbs] at hin ⊢
  have hbl : bs.length < 2 ^ 31 := by
    rw [hbs, List.getD_eq_getElem?_getD]
    cases e : ztxt[q.2.2]? with
    | none => decide
    | some t => exact (ztxt_len t (List.mem_of_getElem? e)).1
  have g : ∀ w ∈ zNT (zO q.1) q.2.1 bs, w.before args s = true := fun w hw => hgv w (hin w hw)
  obtain ⟨adK, adV, hS, hev⟩ := vk_Sof (args := args) (s := s) (N := 1) (tm := fun _ => .string (zO q.1) q.2.1) (len := [bs.length]) (byt := [bs]) (A := A)
    (fun i hi => by rw [show i = 0 by omega]; exact hbl)
    (fun i hi => g _ (by unfold zNT; exact List.mem_append_left _ List.mem_cons_self))
    (fun i hi => g _ (by unfold zNT; exact List.mem_append_left _ (List.mem_cons_of_mem _ List.mem_cons_self)))
    (fun i hi => g _ (by unfold zNT; exact List.mem_append_left _ (List.mem_cons_of_mem _ (List.mem_cons_of_mem _ List.mem_cons_self))))
    (fun i hi => by rw [show i = 0 by omega]; exact g _ (by unfold zNT; exact List.mem_append_left _ (List.mem_cons_of_mem _ (List.mem_cons_of_mem _ (List.mem_cons_of_mem _ List.mem_cons_self)))))
    (fun i hi j hj => by
      have e0 : i = 0 := by omega
      subst e0
      exact g _ (by unfold zNT; exact List.mem_append_right _ (List.mem_map.mpr ⟨j, List.mem_range.mpr hj, rfl⟩)))
    (fun i j hi hj hij => absurd (show i = j by omega) hij) hA
  obtain ⟨h1, h2, h3, h4⟩ := hS.1 0 (by decide)
  obtain ⟨z, hz, hz2⟩ := List.any_eq_true.mp (List.all_eq_true.mp zLT_one q hqq)
  rw [Bool.and_eq_true, beq_iff_eq, beq_iff_eq] at hz2
  have hsr := hts _ (zLS_in z hz).1
  unfold zwS at hsr
  rw [hz2.1, hz2.2] at hsr
  exact ⟨adK 0, ⟨z.2.2, vk_R.of hsr (hev 0 (by decide))⟩, adV 0, h1, h2, h3, h4, hZ, hq⟩
set_option maxHeartbeats 8000000 in
set_option maxRecDepth 100000 in
theorem zst_facts {s : State} {args : Array Value} {A : Nat → Prop} {b : Nat} (hgv : ∀ w ∈ zNF, w.before args s = true) (hts : ∀ w ∈ lw_tbl, w.before args s = true) (hA : ∀ a : Nat, a < s.heap.size → ¬ A a) : ∃ tx : Nat → Nat, zfacts tx A s ∧ tx 999 = b := by
  have hZ : va_Z "java/lang/String" "COMPACT_STRINGS" "Z" (.int 1) A s s.heap := va_Zof (hts _ (zTW_1 _ (by decide +kernel))) (hts _ (List.mem_filter.mp zj_ini_s).1) (va_eqt (hgv _ (zNQ_in (by decide +kernel)))) hA
  have hq : va_Zq "jdk/internal/util/Preconditions" "SIOOBE_FORMATTER" "Ljava/util/function/BiFunction;" A s s.heap := va_Zqof (hts _ (zTW_1 _ (by decide +kernel))) (hts _ (List.mem_filter.mp zj_ini_p).1) (hgv _ (zNQ_in (by decide +kernel))) hA
  have h0 := zst_tx hgv hts hA hZ hq
  have h1 : ∀ k : Nat, ∃ a : Nat, ∀ q ∈ zLT, q.2.2 = k → (∃ t, vk_R (zO q.1) q.2.1 t a s) ∧ ∃ b, zjs a b (ztxt.getD q.2.2 []) A s s.heap := by
    intro k
    by_cases hk : ∃ q ∈ zLT, q.2.2 = k
    · obtain ⟨q, hq1, hq2⟩ := hk
      obtain ⟨a, ha⟩ := h0 q hq1
      refine ⟨a, fun z hz hzk => ?_⟩
      have := List.all_eq_true.mp (List.all_eq_true.mp zLT_u q hq1) z hz
      rw [Bool.or_eq_true, bne_iff_ne, decide_eq_true_eq] at this
      rcases this with h | h
      · exact absurd (hq2.trans hzk.symm) h
      · rw [← h]; exact ha
    · exact ⟨0, fun q hq1 hq2 => absurd ⟨q, hq1, hq2⟩ hk⟩
  obtain ⟨tx0, htx0⟩ := Classical.axiomOfChoice h1
  have hlt : ∀ q ∈ zLT, q.2.2 < 10 := by decide +kernel
  refine ⟨fun k => if k = 999 then b else tx0 k, ⟨?_, ?_, ?_, ?_, ?_, ?_, ?_, ?_, ?_, ?_⟩, if_pos rfl⟩
  · exact vx_Zqof (hts _ (zTW_1 _ (by decide +kernel))) (hts _ (zTW_1 _ (by decide +kernel))) (hgv _ (zNQ_in (by decide +kernel))) hA
  · exact vx_Zqof (hts _ (zTW_1 _ (by decide +kernel))) (hts _ (zTW_1 _ (by decide +kernel))) (hgv _ (zNQ_in (by decide +kernel))) hA
  · intro q hq1
    have := hlt q hq1
    show ∃ t, vk_R (zO q.1) q.2.1 t (if q.2.2 = 999 then b else tx0 q.2.2) s
    rw [if_neg (by omega)]
    exact (htx0 q.2.2 q hq1 rfl).1
  · intro q hq1 h7
    obtain ⟨h2, h3⟩ := zLS_in q hq1
    obtain ⟨a, c, cA, kA, q1, -⟩ := Cond.exactly_spec (args := args) (first := s) (o := none) (s := s) (idx := []) (t := .string (zO q.1) q.2.1) (cls := "java/lang/String") (hgv _ h3)
    have h4 := hts _ h2
    unfold zwS at h4
    rw [h7] at h4 q1
    exact ⟨a, vk_R.of h4 q1⟩
  · intro q hq1
    exact va_tabs rfl rfl (hts _ (zLN_in _ (List.mem_map.mpr ⟨q, hq1, rfl⟩)))
  · intro k hk
    exact va_tabs rfl rfl (hts _ (zTW_1 _ ((by decide +kernel : ∀ k, k < 3 → Cond.castable (zE k) (zE k) ∈ zTW) k hk)))
  · intro k j hk hj hkj
    exact va_Nc.of (args := args) (hgv _ (zNQ_in ((by decide +kernel : ∀ k, k < 3 → ∀ j, j < 3 → k ≠ j → Cond.not (.castable (zE k) (zE j)) ∈ zNQ) k hk j hj hkj)))
  · exact va_AO.of (hts _ (zTW_1 _ (by decide +kernel)))
  · intro k t ht
    have hk : k < 10 := (List.getElem?_eq_some_iff.mp ht).1
    obtain ⟨q, hq1, hq2⟩ := List.any_eq_true.mp (List.all_eq_true.mp zLT_k k (List.mem_range.mpr hk))
    rw [beq_iff_eq] at hq2
    obtain ⟨-, bb, hb⟩ := htx0 k q hq1 hq2
    rw [hq2, List.getD_eq_getElem?_getD, ht] at hb
    show ∃ b', zjs (if k = 999 then b else tx0 k) b' t A s s.heap
    rw [if_neg (by omega)]
    exact ⟨bb, hb⟩
  · intro n hn
    exact va_tabs rfl rfl (hts _ (zTW_1 _ ((by decide +kernel : ∀ n ∈ zDN, Cond.declares ⟨n, "<init>", "(Ljava/lang/String;)V"⟩ ∈ zTW) n hn)))
/-- the classes and arrays as the tables have them -/
theorem zst_K {s : State} {args : Array Value} (hts : ∀ w ∈ zGW, w.before args s = true) (hAO : va_AO "SparePager$Machine" s) : ∃ D : ZD, va_K D.1 zcl (ztys D) s := by
  have h1 : ∀ x : Nat, ∃ q : ClassId × (Nat → Nat), x < 9 → u_Kn s (zC x).1 (zC x).2.1 (zC x).2.2 q.1 q.2 := by
    intro x
    by_cases hx : x < 9
    · obtain ⟨cC, iS, h⟩ := u_known (ws := zGW) (n := (zC x).2.2) hts (zlay_in hx) (hts _ (zwA_in _ (zwA_ok x hx).1))
      exact ⟨(cC, iS), fun _ => h⟩
    · exact ⟨(0, fun _ => 0), fun h => absurd h hx⟩
  obtain ⟨fC, hC⟩ := Classical.axiomOfChoice h1
  have prim : ∀ ty : FieldType, (∀ C, ty ≠ .object C) → Cond.arrayClass ty ∈ zGW → ∃ cA : ClassId, ArrOfT s cA ty ∧ va_RA s cA ty := by
    intro ty hno hw
    obtain ⟨cA, kA, comp, g1, g2, g3⟩ := Cond.arrayClass_spec (hts _ hw)
    refine ⟨cA, fun n z => ⟨fun k h => (by cases h), kA, g2, comp, g3⟩, ?_⟩
    cases ty with
    | object C => exact absurd rfl (hno C)
    | _ => exact g1
  have obj : ∃ cA : ClassId, ArrOfT s cA (.object "SparePager$Machine") ∧ va_RA s cA (.object "SparePager$Machine") := by
    obtain ⟨comp, cA, kA, g1, -, g3, g4, g5⟩ := Cond.arrayOver_spec (n := "SparePager$Machine") hAO
    exact ⟨cA, fun n z => ⟨fun k h => (by cases h), kA, g3, comp, g4⟩, kA, comp, g3, g4, g1, g5⟩
  obtain ⟨a0, p0⟩ := prim .int (fun _ h => by cases h) zj_arr_int
  obtain ⟨a1, p1⟩ := prim .long (fun _ h => by cases h) zj_arr_long
  obtain ⟨a2, p2⟩ := prim .float (fun _ h => by cases h) zj_arr_float
  obtain ⟨a3, p3⟩ := prim .double (fun _ h => by cases h) zj_arr_double
  obtain ⟨a4, p4⟩ := prim .boolean (fun _ h => by cases h) zj_arr_boolean
  obtain ⟨a5, p5⟩ := obj
  refine ⟨((fun x => (fC x).1, fun x => (fC x).2), fun k => match k with | 0 => a0 | 1 => a1 | 2 => a2 | 3 => a3 | 4 => a4 | _ => a5), fun c q hq => ?_, fun k q hk => ?_⟩
  · have hc : c < 9 := (List.getElem?_eq_some_iff.mp hq).1
    have := zcl_get hc
    cases hq.symm.trans this
    exact hC c hc
  · match k, hk with
    | 0, hk => cases hk; exact p0
    | 1, hk => cases hk; exact p1
    | 2, hk => cases hk; exact p2
    | 3, hk => cases hk; exact p3
    | 4, hk => cases hk; exact p4
    | 5, hk => cases hk; exact p5
/-- an empty heap of the small machine -/
def zh0 : ZS := (fun _ => zNo, (0, 0, 0))
/-- what the small machine owes: the law ends with 1, in its room -/
def zTop : Prop := ∀ X : ZX, X.1 ≤ 3072 → ∃ (f : Nat) (S' : ZS), zexec X f 352 0 (zentry 9 [.retAddr 999]) [] zh0 = some (.inl (some (.int 1)), S') ∧ S'.2.2.1 ≤ 601024 ∧ S'.2.2.2 ≤ 7293034
theorem z352 : (zM 352).2.1 = code ∧ (zsig 352).2.1 = 9 ∧ (zM 352).2.2.2.1 ≤ 13 ∧ (zM 352).2.2.2.2 ≤ 482 ∧ zhand 352 = [] ∧ zO (zown 352) = R_law ∧ (zM 352).1.name = "law" ∧ (zsig 352).2.2 = some .boolean := ⟨rfl, rfl, Nat.le_of_ble_eq_true rfl, Nat.le_of_ble_eq_true rfl, rfl, rfl, rfl, rfl⟩

set_option maxHeartbeats 8000000 in
set_option maxRecDepth 100000 in
theorem whole_from (hz : zTop) {p : Program} {e : Env} {s : State} {m : MethodId} {below : List Frame} {meth : Method} {c : Code} (l : Launch) (hflags : l.flags = flags0) {b L : Nat} {xs : Nat → Int32} (hL : L ≤ 3072) (C0 : lw_At p s m meth c b L xs) : W p l e room_1 s m #[Value.ref b] below meth c s.heap [] 0 0 (lw_Z below #[Value.ref b] s) (entryFrame m ([Value.ref b] : List Value).toArray 9) := by
  obtain ⟨hx, hb, hr, hml, hown, hts, hX, hbl, hlocks, hgv⟩ := id C0
  obtain ⟨q1, q2, q3, q4, q5, q6, q7, q8⟩ := z352
  have hl : l.stackTraces = false := by
    show (!l.flags.contains noTraceFlag) = false
    rw [hflags]
    decide +kernel
  have hA : ∀ q : Nat, s.heap.size ≤ q → (fun q : Nat => s.heap.size ≤ q) q := fun _ h => h
  have hAn : ∀ a : Nat, a < s.heap.size → ¬ (fun q : Nat => s.heap.size ≤ q) a := fun a h => Nat.not_le.mpr h
  have hts2 : ∀ w ∈ zGW, w.before #[Value.ref b] s = true := fun w hw => hts w (List.mem_filter.mp hw).1
  obtain ⟨tx, hfac, htx⟩ := zst_facts (A := fun q : Nat => s.heap.size ≤ q) (b := b) (flat_of_before _ hgv) hts hAn
  obtain ⟨D, hK⟩ := zst_K hts2 hfac.2.2.2.2.2.2.2.1
  obtain ⟨f, S', hz1, hz2, hz3⟩ := hz (L, xs) hL
  obtain ⟨hlenE, hlocE⟩ := zentry_loc (tx := tx) (ad := fun _ => 0) (vs := [.retAddr 999]) (n := 9) (by decide)
  have e1 : ([Value.retAddr 999].map (zcv tx fun _ => 0)) = [Value.ref b] := by
    show [Value.ref (tx 999)] = _
    rw [htx]
  rw [e1] at hlocE
  rw [lg_entry_eq]
  have hr0 : zrep D tx (fun _ => 0) (fun q : Nat => s.heap.size ≤ q) zh0 s.heap := by
    refine ⟨fun k q h => ?_, ⟨fun i j p q h => ?_, fun k q h => ?_⟩, fun _ _ => rfl, fun _ v hv => ?_⟩
    · cases k <;> cases h
    · cases i <;> cases h
    · cases k <;> cases h
    · cases hv
  refine zbody (μ := 352) (Q := lw_Z below #[Value.ref b] s) (r := (.inl (some (.int 1)), S')) (ad0 := fun _ => 0) (k0 := 0) (n0 := 0) (N0 := 0) (X := (L, xs)) (tx := tx) (D := D) (A := fun q : Nat => s.heap.size ≤ q) (F := f) (by decide) (fun g _ => zmet hl g) hx (hb.trans q1.symm) (by rw [q6]; exact hown) hts2 (hml.trans q2.symm) (fun h => absurd (q7.symm.trans h) (by decide)) hfac q3 q4 hK hA (fun _ => ⟨b, hX, hbl, Nat.not_le.mpr hbl, htx⟩) (fun h => absurd q5 h) hz2 hz3 ?_ ?_ ?_ f (Nat.le_refl _) 0 _ [] zh0 (fun _ => 0) s.heap [] 0 0 _ hz1 (hlenE.trans q2.symm) hlocE hr0 va_S.rf (fun _ h => by cases h) (zokL_entry (fun v hv => by rw [List.mem_singleton.mp hv]; trivial)) rfl rfl (Nat.le_refl _) (fun _ h => absurd h (Nat.not_lt_zero _))
  · intro pc st S1 v ins len ls ad1 H locs cells slots hr9 hzr hdg hlen hrp hS hst hc hn hax
    have hlen : zlen ins ≠ 0 → len = zlen ins := fun q => by omega
    cases hr9
    have key : ins = .ireturn ∧ st = [.int 1] := by
      unfold zret at hzr
      rw [q8] at hzr
      split at hzr
      all_goals first
        | (cases hzr; done)
        | (split at hzr
           · cases hzr; exact ⟨rfl, rfl⟩
           · cases hzr)
        | (rename_i h9; cases h9; done)
        | (rename_i h9; cases h9; cases hzr; done)
    obtain ⟨rfl, rfl⟩ := key
    cases hlen (Nat.succ_ne_zero _)
    rw [q1] at hdg
    have c1 : cells ≤ 601024 := by have hc : cells + 0 = S'.2.2.1 := hc; omega
    have c2 : slots ≤ 7293034 := by have hn : slots + 0 = S'.2.2.2 := hn; omega
    refine W.widen c1 c2 (va_forget (fun q hq => hS.2.2 q hq) (W.base ?_))
    exact lw_ret (Drawn.sameBut.refl s.drawn lw_cs) hx hb hr hlocks hdg
  · intro x pc rest S1 ls ad1 H locs cells slots q ce hh hr9
    cases hr9
  · intro x y pc S1 ins len ls ad1 H locs cells slots hh hr9
    cases hr9
