/-! A method's body: the small machine's run is the JVM's walk. -/
theorem zloc_ext {tx ad ad' : Nat → Nat} {n : Nat} {L : List Value} {ls : Array Slot} (h : ∀ i, i < n → ad' i = ad i) (hL : zokL n L) (hl : zloc tx ad L ls) : zloc tx ad' L ls := by
  refine ⟨hl.1, hl.2.1, ?_⟩
  rintro ⟨i, w⟩ hq
  obtain ⟨v, h1, h2, h3⟩ := zlv_mem.mp hq
  subst h3
  rw [zcv_ext h (hL v (List.mem_of_getElem? h1))]
  exact hl.2.2 _ (zlv_mem.mpr ⟨v, h1, h2, rfl⟩)
theorem zokL_app {n : Nat} {a b : List Value} (ha : zokL n a) (hb : zokL n b) : zokL n (a ++ b) := fun v hv => (List.mem_append.mp hv).elim (ha v) (hb v)
theorem zokL_sub {n : Nat} {a b : List Value} (h : ∀ v ∈ a, v ∈ b) (hb : zokL n b) : zokL n a := fun v hv => hb v (h v hv)
/-- the row of a table that catches, with the rows ahead of it -/
theorem zcatch_split {pc E h : Nat} : ∀ (hs : List (Nat × Nat × Nat × Nat × Nat)) (T : List ExceptionTableEntry), T.map (fun h => (h.startPc, h.endPc, h.handlerPc, h.catchType)) = hs.map (fun q => (q.1, q.2.1, q.2.2.1, q.2.2.2.1)) → zcatch hs pc E = some h →
    ∃ (pre : List ExceptionTableEntry) (x : ExceptionTableEntry) (suf : List ExceptionTableEntry) (q : Nat × Nat × Nat × Nat × Nat), T = pre ++ x :: suf ∧ q ∈ hs ∧ covers x pc = true ∧ x.handlerPc = h ∧ x.catchType = q.2.2.2.1 ∧ q.2.2.2.2 = E ∧
      ∀ z ∈ pre, ∃ q' ∈ hs, z.catchType = q'.2.2.2.1 ∧ (covers z pc = false ∨ q'.2.2.2.2 ≠ E)
  | [], T, _, h => by cases h
  | q :: hs, T, hT, h => by
    cases T with
    | nil => cases hT
    | cons x T =>
      rw [List.map_cons, List.map_cons] at hT
      obtain ⟨e1, e2⟩ := List.cons.inj hT
      simp only [Prod.mk.injEq] at e1
      obtain ⟨a1, a2, a3, a4⟩ := e1
      unfold zcatch at h
      split at h
      · rename_i hc
        cases h
        refine ⟨[], x, T, q, rfl, List.mem_cons_self, ?_, a3, a4, hc.2, fun z hz => by cases hz⟩
        unfold covers
        rw [a1, a2]
        simp [hc.1.1, hc.1.2]
      · rename_i hc
        obtain ⟨pre, y, suf, q', b1, b2, b3, b4, b5, b6, b7⟩ := zcatch_split hs T e2 h
        refine ⟨x :: pre, y, suf, q', by rw [b1]; rfl, List.mem_cons_of_mem _ b2, b3, b4, b5, b6, fun z hz => ?_⟩
        rcases List.mem_cons.mp hz with rfl | hz
        · refine ⟨q, List.mem_cons_self, a4, ?_⟩
          by_cases hE : q.2.2.2.2 = E
          · left
            have : ¬ (q.1 ≤ pc ∧ pc < q.2.1) := fun h9 => hc ⟨h9, hE⟩
            unfold covers
            rw [a1, a2]
            simpa using this
          · exact Or.inr hE
        · obtain ⟨q'', c1, c2⟩ := b7 z hz
          exact ⟨q'', List.mem_cons_of_mem _ c1, c2⟩
theorem zhand_all : (List.range 353).all (fun μ => (zhand μ).all fun q => zLE.contains (zown μ, q.2.2.2.1, q.2.2.2.2) && (q.2.2.2.1 != 0 && decide (q.2.2.2.2 < 3))) = true := by decide +kernel
theorem zhand_ok {μ : Nat} (hμ : μ < 353) : ∀ q ∈ zhand μ, Cond.classLink (zO (zown μ)) q.2.2.2.1 (zE q.2.2.2.2) ∈ zGW ∧ q.2.2.2.1 ≠ 0 ∧ q.2.2.2.2 < 3 := by
  intro q hq
  have h := List.all_eq_true.mp (List.all_eq_true.mp zhand_all μ (List.mem_range.mpr hμ)) q hq
  simp only [Bool.and_eq_true, bne_iff_ne, ne_eq, decide_eq_true_eq] at h
  exact ⟨zLE_in _ (List.mem_map.mpr ⟨(zown μ, q.2.2.2.1, q.2.2.2.2), by simpa using h.1, rfl⟩), h.2.1, h.2.2⟩
/-- every method's contract, for runs of so much fuel -/
def zP (l : Launch) (X : ZX) (D : ZD) (tx : Nat → Nat) (F : Nat) : Prop := ∀ μ, μ < 352 → zown μ ≠ 10 → ∀ (vs : List Value) (S : ZS) (r : ZR) (ad : Nat → Nat) (sz : Nat), zexec X F μ 0 (zentry (zsig μ).2.1 vs) [] S = some r → vs.length = (zsig μ).1 → (zargsL vs).length ≤ (zsig μ).2.1 → zokL S.2.1 vs → zMet l D tx ad μ S vs sz r
section ZS6
variable {p : Program} {l : Launch} {e : Env} {R : Room} {s : State} {m : MethodId} {args : Array Value} {below : List Frame} {meth : Method} {c : Code} {Q : State → Prop}
variable {X : ZX} {tx ad0 : Nat → Nat} {D : ZD} {A : Nat → Prop} {r : ZR}
set_option maxHeartbeats 8000000 in
set_option maxRecDepth 100000 in
theorem zbody {μ F k0 n0 N0 : Nat} (hμ : μ < 353) (IH : ∀ g, g < F → zP l X D tx g) (hexec : p.tables.exec = Jvm.exec) (hb : c.code = (zM μ).2.1) (hown : s.vm.findClass (zO (zown μ)) = some m.cls) (hts : ∀ w ∈ zGW, w.before args s = true)
    (hml0 : c.maxLocals = (zsig μ).2.1) (hname : (zM μ).1.name = "<init>" → meth.name = "<init>") (hfac : zfacts tx A s) (hfR : (zM μ).2.2.2.1 ≤ R.frames) (hlR : (zM μ).2.2.2.2 ≤ R.locals)
    (hK : va_K D.1 zcl (ztys D) s) (hA : ∀ q, s.heap.size ≤ q → A q) (hscr : μ = 352 → ∃ b, va_X b X.1 X.2 s s.heap ∧ b < s.heap.size ∧ ¬ A b ∧ tx 999 = b)
    (htab : zhand μ ≠ [] → c.exceptionTable.toList.map (fun h => (h.startPc, h.endPc, h.handlerPc, h.catchType)) = (zhand μ).map (fun q => (q.1, q.2.1, q.2.2.1, q.2.2.2.1)))
    (hrc : r.2.2.2.1 ≤ R.cells + k0) (hrn : r.2.2.2.2 ≤ R.slots + n0)
    (kret : ∀ (pc : Nat) (st : List Value) (S : ZS) (v : Option Value) (ins : Instr) (len : Nat) (ls : Array Slot) (ad : Nat → Nat) (H : Heap) (locs : List Loc) (cells slots : Nat), r = (.inl v, S) → zret ins (zsig μ).2.2 st = some v → decode (zM μ).2.1 pc = .ok (ins, len) → (zlen ins = 0 ∨ zlen ins = len) → zrep D tx ad A S H → va_S A s.heap H locs → zokL S.2.1 st → cells + k0 = S.2.2.1 → slots + n0 = S.2.2.2 → (∀ i, i < N0 → ad i = ad0 i) →
      W p l e R s m args below meth c H locs cells slots Q (F0 m pc ls (st.map (zcv tx ad))))
    (kx : ∀ (x pc : Nat) (rest : List Value) (S : ZS) (ls : Array Slot) (ad : Nat → Nat) (H : Heap) (locs : List Loc) (cells slots : Nat) (q : Addr) (ce : Cell), zhand μ = [] → r = (.inr x, S) → x < 3 → zrep D tx ad A S H → va_S A s.heap H locs → cells + k0 = S.2.2.1 → slots + n0 = S.2.2.2 → (∀ i, i < N0 → ad i = ad0 i) → H[q]? = some ce → ce.vm = .none → s.vm.findClass (zE x) = some ce.cls →
      vx_W p l e R s m args below meth c H locs cells slots Q (F0 m pc ls rest) q)
    (kth : ∀ (x y pc : Nat) (S : ZS) (ins : Instr) (len : Nat) (ls : Array Slot) (ad : Nat → Nat) (H : Heap) (locs : List Loc) (cells slots : Nat), zhand μ = [] → r = (.inr x, (S.1, S.2.1, S.2.2.1 + 1, S.2.2.2 + 6)) → zokm μ pc (ins, len, 5, x, y) = true → decode (zM μ).2.1 pc = .ok (ins, len) → (zlen ins = 0 ∨ zlen ins = len) → c.maxLocals = ls.size → zrep D tx ad A S H → va_S A s.heap H locs → cells + k0 = S.2.2.1 → slots + n0 = S.2.2.2 → (∀ i, i < N0 → ad i = ad0 i) →
      W p l e R s m args below meth c H locs cells slots Q (F0 m pc ls [])) :
    ∀ f, f ≤ F → ∀ (pc : Nat) (L st : List Value) (S : ZS) (ad : Nat → Nat) (H : Heap) (locs : List Loc) (cells slots : Nat) (ls : Array Slot), zexec X f μ pc L st S = some r → L.length = (zsig μ).2.1 → zloc tx ad L ls → zrep D tx ad A S H → va_S A s.heap H locs → zokL S.2.1 st → zokL S.2.1 L → cells + k0 = S.2.2.1 → slots + n0 = S.2.2.2 → N0 ≤ S.2.1 → (∀ i, i < N0 → ad i = ad0 i) →
      W p l e R s m args below meth c H locs cells slots Q (F0 m pc ls (st.map (zcv tx ad))) := by
  intro f
  induction f with
  | zero => intro _ pc L st S ad H locs cells slots ls h; cases h
  | succ f ih =>
    intro hle pc L st S ad H locs cells slots ls h hL hloc hr hS hst hLo hc hn hN hax
    have hgr := zexec_grow _ _ _ _ _ _ _ h
    have hcR : cells ≤ R.cells := by omega
    have hnR : slots ≤ R.slots := by omega
    have hml : c.maxLocals = ls.size := by rw [hml0, ← hL]; exact hloc.1.symm
    have ihf := ih (Nat.le_of_succ_le hle)
    rw [zexec] at h
    obtain ⟨⟨ins, len, kind, x, y⟩, he, h⟩ := zbind_eq.mp h
    obtain ⟨hdg, hlen, hm⟩ := zfetch_ok hμ he
    dsimp only at h hdg hlen
    split at h
    · -- locals, stack
      obtain ⟨⟨L', st'⟩, h1, h2⟩ := zbind_eq.mp h
      obtain ⟨⟨g1, g2⟩, g3⟩ := zpure_ok h1 hLo hst
      refine zs_pure hexec hb hown ?_ ?_ h1 hlen hdg hloc (fun ls' hl' => ihf _ _ _ _ _ _ _ _ _ _ h2 (g2.trans hL) hl' hr hS g3 g1 hc hn hN hax)
      · rintro i rfl
        have hm : zLT.contains (zown μ, i, x) = true := hm
        exact hfac.2.2.1 (zown μ, i, x) (by simpa using hm)
      · rintro i rfl
        have hm : zLG.contains (zown μ, i, x) = true := hm
        exact hts _ (zLG_in _ (List.mem_map.mpr ⟨(zown μ, i, x), by simpa using hm, rfl⟩))
    · -- the heap
      obtain ⟨⟨st', S'⟩, h1, h2⟩ := zbind_eq.mp h
      have hg2 := zexec_grow _ _ _ _ _ _ _ h2
      refine zs_heap hexec hb hown hts hname hfac.2.2.2.2.2.2.2.1 ?_ h1 hdg hlen hm hK hr hS hA hst hc hn (Nat.le_trans hg2.2.1 hrc) (Nat.le_trans hg2.2.2 hrn) (fun ad' H1 locs1 cells1 slots1 hx hle9 hr1 hS1 hst1 hc1 hn1 => ihf _ _ _ _ ad' _ _ _ _ _ h2 hL (zloc_ext hx hLo hloc) hr1 hS1 hst1 (zokL_le hle9 hLo) hc1 hn1 (Nat.le_trans hN hle9) fun i hi => (hx i (Nat.lt_of_lt_of_le hi hN)).trans (hax i hi))
      rintro ty (rfl | rfl | rfl | rfl | rfl)
      · exact hts _ zj_arr_int
      · exact hts _ zj_arr_long
      · exact hts _ zj_arr_float
      · exact hts _ zj_arr_double
      · exact hts _ zj_arr_boolean
    · -- branches
      obtain ⟨⟨pc', st'⟩, h1, h2⟩ := zbind_eq.mp h
      exact zs_jump hexec hb h1 hlen hdg (ihf _ _ _ _ _ _ _ _ _ _ h2 hL hloc hr hS (zjump_ok h1 hst) hLo hc hn hN hax)
    · -- the end
      obtain ⟨v, h1, h2⟩ := zbind_eq.mp h
      exact kret pc st S v ins len ls ad H locs cells slots (Option.some.inj h2).symm h1 hdg hlen hr hS hst hc hn hax
    · -- a call
      split at h
      · rename_i hcond
        obtain ⟨⟨c1, c2, c3⟩, c4⟩ := hcond
        obtain ⟨r1, h1, h2⟩ := zbind_eq.mp h
        obtain ⟨vs, hvs⟩ : ∃ vs, vs = (st.take (zsig x).1).reverse := ⟨_, rfl⟩
        obtain ⟨rest, hrs⟩ : ∃ rest, rest = st.drop (zsig x).1 := ⟨_, rfl⟩
        rw [← hvs] at h1 c3 c4
        rw [← hrs] at h2 c2
        have hst9 : vs.reverse ++ rest = st := by rw [hvs, hrs, List.reverse_reverse, List.take_append_drop]
        have hvl : vs.length = (zsig x).1 := by rw [hvs, List.length_reverse, List.length_take]; omega
        have hvo : zokL S.2.1 vs := zokL_sub (fun v hv => by rw [hvs] at hv; exact List.mem_of_mem_take (List.mem_reverse.mp hv)) hst
        have hro : zokL S.2.1 rest := zokL_sub (fun v hv => by rw [hrs] at hv; exact List.mem_of_mem_drop hv) hst
        have hg1 := zexec_grow _ _ _ _ _ _ _ h1
        have hg2 := zback_grow (fun pc L st S r h => zexec_grow _ _ _ _ _ _ _ h) h2
        have hx := (zokm_call hm).1
        have hM : zMet l D tx ad x S vs H.size r1 := IH f (Nat.lt_of_succ_le hle) x hx.1 hx.2 vs S r1 ad H.size h1 hvl c3 hvo
        obtain ⟨rfl, hrun⟩ := zs_call (cells := cells) (slots := slots) hμ hexec hb hown hts hml hfac hfR hlR hdg hlen hm hK hr hS hA hvl c2 c4 hM (by omega) (by omega)
        rw [hst9] at hrun
        refine zs_back hrun hS (zsubA hr hS hA) (zsubA hr hS hA) hro ?_ ?_
        · intro v ad' H1 locs1 e1 hx1 hr1 hv hS1
          unfold zback at h2
          rw [e1] at h2
          dsimp only at h2
          exact ihf _ _ _ _ ad' _ _ _ _ _ h2 hL (zloc_ext hx1 hLo hloc) hr1 hS1 (zokL_app hv (zokL_le hg1.1 hro)) (zokL_le hg1.1 hLo) (by omega) (by omega) (Nat.le_trans hN hg1.1) fun i hi => (hx1 i (Nat.lt_of_lt_of_le hi hN)).trans (hax i hi)
        · intro E ad' H1 locs1 q ce e1 hE3 hx1 hr1 hS1 hq hvm hcl
          have hax1 : ∀ i, i < N0 → ad' i = ad0 i := fun i hi => (hx1 i (Nat.lt_of_lt_of_le hi hN)).trans (hax i hi)
          unfold zback at h2
          rw [e1] at h2
          dsimp only at h2
          cases hh : zhand μ with
          | nil =>
            rw [hh] at h2
            have hr9 : r = (.inr E, r1.2) := by rw [← Option.some.inj h2, ← e1]
            exact kx E pc _ r1.2 ls ad' H1 locs1 _ _ q ce hh hr9 hE3 hr1 hS1 (by omega) (by omega) hax1 hq hvm hcl
          | cons q00 hs00 =>
            rw [hh] at h2
            dsimp only at h2
            obtain ⟨hpc, k1, k2⟩ := zbind_eq.mp h2
            obtain ⟨e', k3, k4⟩ := zbind_eq.mp k2
            rw [← hh] at k1
            obtain ⟨pre, xx, suf, qq, t1, t2, t3, t4, t5, t6, t7⟩ := zcatch_split _ _ (htab (by rw [hh]; exact List.cons_ne_nil _ _)) k1
            obtain ⟨o1, o2, o3⟩ := zhand_ok hμ qq t2
            obtain ⟨d1, d2, -⟩ := zfetch_ok hμ k3
            refine vx_catch (own := zO (zown μ)) (name := zE E) (E := zE E) (ce := ce) hown pre xx suf t1 (fun z hz => ?_) t3 (by rw [t5]; exact o2) (by rw [t5, ← t6]; exact hts _ o1) (va_tabs rfl rfl (hfac.2.2.2.2.2.1 E hE3)) hq hvm hcl ?_
            · obtain ⟨q', u1, u2, u3⟩ := t7 z hz
              rcases u3 with u3 | u3
              · exact Or.inl u3
              · obtain ⟨o4, o5, o6⟩ := zhand_ok hμ q' u1
                exact Or.inr ⟨by rw [u2]; exact o5, zE q'.2.2.2.2, by rw [u2]; exact hts _ o4, hfac.2.2.2.2.2.2.1 E q'.2.2.2.2 hE3 o6 (Ne.symm u3)⟩
            · rw [t4]
              have hloc1 := zloc_ext hx1 hLo hloc
              split at k4
              · rename_i kk hkk
                obtain ⟨L', k5, k6⟩ := zbind_eq.mp k4
                rw [hkk] at d1 d2
                have d2 : 1 = e'.2.1 := d2.elim (fun h => by cases h) (fun h => h)
                rw [← d2] at d1
                obtain ⟨hi, hl⟩ := zst1_at (w := .ref q) hloc1 k5 (Or.inl rfl)
                obtain ⟨b1, b2⟩ := zst1_ok k5 (zokL_le hg1.1 hLo) trivial
                exact lv_astore_n hexec hb d1 rfl hloc1 hi rfl fun ls' h' => ihf _ _ _ _ ad' _ _ _ _ _ k6 (b2.trans hL) (hl ls' h') hr1 hS1 (fun _ h => by cases h) b1 (by omega) (by omega) (Nat.le_trans hN hg1.1) hax1
              · rename_i kk hkk
                obtain ⟨L', k5, k6⟩ := zbind_eq.mp k4
                rw [hkk] at d1 d2
                have d2 : 2 = e'.2.1 := d2.elim (fun h => by cases h) (fun h => h)
                rw [← d2] at d1
                obtain ⟨hi, hl⟩ := zst1_at (w := .ref q) hloc1 k5 (Or.inl rfl)
                obtain ⟨b1, b2⟩ := zst1_ok k5 (zokL_le hg1.1 hLo) trivial
                exact lv_astore hexec hb d1 hloc1 hi rfl fun ls' h' => ihf _ _ _ _ ad' _ _ _ _ _ k6 (b2.trans hL) (hl ls' h') hr1 hS1 (fun _ h => by cases h) b1 (by omega) (by omega) (Nat.le_trans hN hg1.1) hax1
              · cases k4
      · cases h
    · -- a throw
      split at h
      · rename_i hcond
        have hr9 := (Option.some.inj h).symm
        obtain ⟨hst0, hh⟩ := hcond
        subst hst0
        exact kth x y pc S ins len ls ad H locs cells slots hh hr9 hm hdg hlen hml hr hS hc hn hax
      · cases h
    · -- a member that stands for itself
      split at h
      · rename_i h8
        obtain ⟨⟨st', S'⟩, h1, h2⟩ := zbind_eq.mp h
        obtain ⟨g1, g2⟩ := znat_ok h1 hst
        refine zs_nat hexec hb hown hts hml hfac hfR hlR hcR hnR h1 h8 hdg hlen hm hK hr hS (fun H1 locs1 hr1 hS1 => ihf _ _ _ _ _ _ _ _ _ _ h2 hL hloc hr1 hS1 (by rw [g1]; exact g2) (by rw [g1]; exact hLo) (by rw [g1]; exact hc) (by rw [g1]; exact hn) (by rw [g1]; exact hN) hax)
      · cases h
    · -- the script's length
      obtain ⟨st', h1, h2⟩ := zbind_eq.mp h
      have h352 : μ = 352 := by
        cases ins <;> first | exact of_decide_eq_true hm | exact absurd hm (by intro q; cases q)
      obtain ⟨b, b1, b2, b3, b4⟩ := hscr h352
      exact zs_scr hexec hb b1 b2 b3 b4 hS h1 hdg hlen (ihf _ _ _ _ _ _ _ _ _ _ h2 hL hloc hr hS (zscr_ok h1 hst) hLo hc hn hN hax)
    · -- the script's ints
      obtain ⟨st', h1, h2⟩ := zbind_eq.mp h
      have h352 : μ = 352 := by
        cases ins <;> first | exact of_decide_eq_true hm | exact absurd hm (by intro q; cases q)
      obtain ⟨b, b1, b2, b3, b4⟩ := hscr h352
      exact zs_scr hexec hb b1 b2 b3 b4 hS h1 hdg hlen (ihf _ _ _ _ _ _ _ _ _ _ h2 hL hloc hr hS (zscr_ok h1 hst) hLo hc hn hN hax)
    · cases h
end ZS6
