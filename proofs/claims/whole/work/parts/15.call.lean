/-! What a method of the small machine says as a contract; a call. -/
def zPc (D : ZD) (tx ad : Nat → Nat) (S : ZS) (vs : List Value) (sz : Nat) : Array Value → State → Prop := fun a U =>
  a = (vs.map (zcv tx ad)).toArray ∧ U.heap.size = sz ∧ zrep D tx ad (fun _ => True) S U.heap ∧ va_K D.1 zcl (ztys D) U ∧ zfacts tx (va_A (zws D tx ad S.1 S.2.1) sz) U
def zQc (D : ZD) (tx ad : Nat → Nat) (S : ZS) (r : ZR) (A : Nat → Prop) : Array Value → State → Outcome → State → Prop := fun _ st o t =>
  ∃ (v : Option Value) (ad' : Nat → Nat), r.1 = .inl v ∧ o = .returned (v.map (zcv tx ad')) ∧ (∀ i, i < S.2.1 → ad' i = ad i) ∧ zrep D tx ad' A r.2 t.heap ∧ zokL r.2.2.1 v.toList ∧ va_F A st t
def zXC (D : ZD) (tx ad : Nat → Nat) (S : ZS) (r : ZR) (A : Nat → Prop) : String → State → State → Prop := fun E st t =>
  ∃ (x : Nat) (ad' : Nat → Nat), r.1 = .inr x ∧ x < 3 ∧ E = zE x ∧ (∀ i, i < S.2.1 → ad' i = ad i) ∧ zrep D tx ad' A r.2 t.heap ∧ va_F A st t
theorem zPc_blind {D : ZD} {tx ad : Nat → Nat} {S : ZS} {vs : List Value} {sz : Nat} : FrameBlind (zPc D tx ad S vs sz) := fun a U g mk h =>
  ⟨h.1, h.2.1, h.2.2.1, va_K.moved (u := U) (U := U.calling g mk a) (Vm.Alike.refl U.vm) h.2.2.2.1, zfacts_moved (U := U) (V := U.calling g mk a) (State.WarmedH.refl U) (fun _ _ _ => rfl) (fun _ h => h) h.2.2.2.2⟩
/-- what the calls of a method ask of the room -/
def zroom (μ : Nat) (S : ZS) (r : ZR) : Room := { frames := (zM μ).2.2.2.1, cells := r.2.2.2.1 - S.2.2.1, slots := r.2.2.2.2 - S.2.2.2, locals := (zM μ).2.2.2.2 }
def zMet (l : Launch) (D : ZD) (tx ad : Nat → Nat) (μ : Nat) (S : ZS) (vs : List Value) (sz : Nat) (r : ZR) : Prop :=
  vx_Met l (zM μ).1 (zwc μ :: zGW) (zroom μ S r) (zPc D tx ad S vs sz) (zQc D tx ad S r (va_A (zws D tx ad S.1 S.2.1) sz)) (zXC D tx ad S r (va_A (zws D tx ad S.1 S.2.1) sz)) (r.2.2.2.1 - S.2.2.1) (r.2.2.2.2 - S.2.2.2) (va_A (zws D tx ad S.1 S.2.1) sz)
section ZS4
variable {p : Program} {l : Launch} {e : Env} {R : Room} {s : State} {m : MethodId} {args : Array Value} {below : List Frame} {meth : Method} {c : Code} {H : Heap} {locs : List Loc} {cells slots mc ms : Nat} {Q : State → Prop}
variable {pc : Nat} {ls : Array Slot} {st0 : List Value} {tx ad : Nat → Nat} {D : ZD} {A A1 free : Nat → Prop} {H0 : Heap} {S : ZS} {r : ZR} {rest : List Value} {a : Array Value}
theorem zs_back (hr : vx_Run p l e R s m args below meth c H locs cells slots mc ms (F0 m pc ls st0) (rest.map (zcv tx ad)) (zQc D tx ad S r A1 a) (zXC D tx ad S r A1) free) (hS : va_S A H0 H locs) (hA : ∀ q, A1 q → A q) (hf : ∀ q, free q → A q) (hrest : zokL S.2.1 rest)
    (k1 : ∀ (v : Option Value) (ad' : Nat → Nat) (H1 : Heap) (locs1 : List Loc), r.1 = .inl v → (∀ i, i < S.2.1 → ad' i = ad i) → zrep D tx ad' A r.2 H1 → zokL r.2.2.1 v.toList → va_S A H0 H1 locs1 → W p l e R s m args below meth c H1 locs1 (cells + mc) (slots + ms) Q (F0 m (pc + 3) ls ((v.toList ++ rest).map (zcv tx ad'))))
    (k2 : ∀ (x : Nat) (ad' : Nat → Nat) (H1 : Heap) (locs1 : List Loc) (q : Addr) (ce : Cell), r.1 = .inr x → x < 3 → (∀ i, i < S.2.1 → ad' i = ad i) → zrep D tx ad' A r.2 H1 → va_S A H0 H1 locs1 → H1[q]? = some ce → ce.vm = .none → s.vm.findClass (zE x) = some ce.cls → vx_W p l e R s m args below meth c H1 locs1 (cells + mc) (slots + ms) Q (F0 m pc ls (rest.map (zcv tx ad'))) q) :
    W p l e R s m args below meth c H locs cells slots Q (F0 m pc ls st0) := by
  intro T hT X
  rcases hr T hT X with ⟨v, st₀, t, T', L, h0, X', hL, e1, e2, ⟨w, ad', g1, g2, g3, g4, g5, hF⟩, st⟩ | ⟨q, st₀, t, T', L, E, ce, h0, X', hL, e1, e2, ⟨x, ad', g1, g2, rfl, g3, g4, hF⟩, hce, hcv, hcl, st⟩
  · obtain ⟨j1, j2, j3⟩ := vx_keep h0 e1 hS (fun q _ h => hA q h) hf hL hF
    cases g2
    obtain ⟨t2, a1, b1⟩ := k1 w ad' T'.heap (locs ++ L) g1 g3 (by rw [e1]; exact zrep_weaken g4 hA) g5 j3 T' rfl X'
    refine ⟨t2, st t2 ?_, b1⟩
    have e9 : (w.toList ++ rest).map (zcv tx ad') = (w.map (zcv tx ad')).toList ++ rest.map (zcv tx ad) := by
      rw [List.map_append, zmap_ext g3 hrest]
      cases w <;> rfl
    rw [e9] at a1
    exact a1
  · obtain ⟨j1, j2, j3⟩ := vx_keep h0 e1 hS (fun q _ h => hA q h) hf hL hF
    obtain ⟨t2, a1, b1⟩ := k2 x ad' T'.heap (locs ++ L) q ce g1 g2 g3 (by rw [e1]; exact zrep_weaken g4 hA) j3 (by rw [e1]; exact hce) hcv hcl T' rfl X'
    refine ⟨t2, st.trans ?_, b1⟩
    rw [zmap_ext g3 hrest] at a1
    exact a1
/-- what the checked tables say of a call -/
theorem zokm_call {μ pc len x z : Nat} {ins : Instr} (h : zokm μ pc (ins, len, 4, x, z) = true) : (x < 352 ∧ zown x ≠ 10) ∧ (zM x).2.2.2.1 + 1 ≤ (zM μ).2.2.2.1 ∧ 8 + ((zsig x).2.1 + 11) + (zM x).2.2.2.2 ≤ (zM μ).2.2.2.2 ∧
    ((∃ i, ins = .invokevirtual i ∧ (zlM (zown μ) i == x + 1) = true ∧ z = 10 + zown x ∧ zsort.getD x 9 = 0) ∨ (∃ i, ins = .invokestatic i ∧ (zlM (zown μ) i == x + 1) = true ∧ z = 1 ∧ zsort.getD x 9 = 1) ∨ (∃ i, ins = .invokespecial i ∧ zLN.contains (zown μ, i, x) = true ∧ z = 3 ∧ zsort.getD x 9 = 2) ∨ (∃ i, ins = .invokespecial i ∧ (zlM (zown μ) i == x + 1) = true ∧ z = 2 ∧ zsort.getD x 9 = 2)) := by
  have key : ∀ {b : Bool}, (b && zcallok μ x) = true → b = true ∧ (x < 352 ∧ zown x ≠ 10) ∧ (zM x).2.2.2.1 + 1 ≤ (zM μ).2.2.2.1 ∧ 8 + ((zsig x).2.1 + 11) + (zM x).2.2.2.2 ≤ (zM μ).2.2.2.2 := by
    intro b hb
    unfold zcallok at hb
    simp only [Bool.and_eq_true, decide_eq_true_eq, bne_iff_ne, ne_eq] at hb
    exact ⟨hb.1, hb.2.1.1, hb.2.1.2, hb.2.2⟩
  cases ins with
  | invokevirtual i =>
    obtain ⟨h1, h2, h3, h4⟩ := key (b := zlM (zown μ) i == x + 1 && z == 10 + zown x && zsort.getD x 9 == 0) h
    simp only [Bool.and_eq_true] at h1
    exact ⟨h2, h3, h4, Or.inl ⟨i, rfl, h1.1.1, by simpa using h1.1.2, by simpa using h1.2⟩⟩
  | invokestatic i =>
    obtain ⟨h1, h2, h3, h4⟩ := key (b := zlM (zown μ) i == x + 1 && z == 1 && zsort.getD x 9 == 1) h
    simp only [Bool.and_eq_true] at h1
    exact ⟨h2, h3, h4, Or.inr (Or.inl ⟨i, rfl, h1.1.1, by simpa using h1.1.2, by simpa using h1.2⟩)⟩
  | invokespecial i =>
    obtain ⟨h1, h2, h3, h4⟩ := key (b := (if z = 3 then zLN.contains (zown μ, i, x) else z == 2 && zlM (zown μ) i == x + 1) && zsort.getD x 9 == 2) h
    rw [Bool.and_eq_true] at h1
    refine ⟨h2, h3, h4, Or.inr (Or.inr ?_)⟩
    have h5 : zsort.getD x 9 = 2 := by simpa using h1.2
    by_cases hz : z = 3
    · rw [if_pos hz] at h1
      exact Or.inl ⟨i, rfl, h1.1, hz, h5⟩
    · rw [if_neg hz, Bool.and_eq_true] at h1
      exact Or.inr ⟨i, rfl, h1.1.2, by simpa using h1.1.1, h5⟩
  | _ => exact absurd h (by intro q; cases q)
theorem zlM_in {o i x : Nat} (h : (zlM o i == x + 1) = true) : zwM (o, i, x) ∈ zGW := by
  have h : zlM o i = x + 1 := by simpa using h
  have ho : o < 10 := by
    by_cases q : o < 10
    · exact q
    · have : zlM o i = 0 := by
        unfold zlM
        have e : zLMt.getD o [] = [] := by
          rw [List.getD_eq_getElem?_getD, List.getElem?_eq_none (by show zLMt.length ≤ o; have : zLMt.length = 10 := rfl; omega)]
          rfl
        rw [e]
        rfl
      omega
  have hi : i < (zLMt.getD o []).length := by
    by_cases q : i < (zLMt.getD o []).length
    · exact q
    · have : zlM o i = 0 := by
        unfold zlM
        rw [List.getD_eq_getElem?_getD, List.getElem?_eq_none (by omega)]
        rfl
      omega
  have h1 := List.all_eq_true.mp (List.all_eq_true.mp zlM_ok o (List.mem_range.mpr ho)) i (List.mem_range.mpr hi)
  rw [h] at h1
  have h1 : zLM.contains (o, i, x) = true := by simpa using h1
  exact zLM_in _ (List.mem_map.mpr ⟨(o, i, x), by simpa using h1, rfl⟩)
theorem zwc_good : ∀ μ, μ < 352 → zwc μ ∈ zGW := zwc_all
theorem zini_all : ∀ μ, μ < 352 → Cond.initialized (zM μ).1.cls ∈ zwA := by decide +kernel
theorem zdsc_all : ∀ μ, μ < 352 → (parseMethodDescriptor (zM μ).1.desc).map (fun d => d.parameters.length) = some (if zsort.getD μ 9 = 1 then (zsig μ).1 else (zsig μ).1 - 1) := by decide +kernel
theorem zcls_all : ∀ μ, μ < 352 → (zM μ).1.cls ≠ "java/lang/invoke/MethodHandle" ∧ (zM μ).1.cls ≠ "java/lang/invoke/VarHandle" ∧ (zM μ).1.cls = zO (zown μ) := by decide +kernel
theorem zpos_all : ∀ μ, μ < 352 → zsort.getD μ 9 ≠ 1 → 1 ≤ (zsig μ).1 := by decide +kernel
theorem zini_nm : ∀ μ, μ < 352 → zsort.getD μ 9 = 2 → (zM μ).1.name = "<init>" ∧ (zsig μ).2.2 = none := by decide +kernel
theorem zhand_nm : ∀ μ, μ < 352 → zsort.getD μ 9 ≠ 1 → zhand μ = [] := by decide +kernel
theorem zown_9 : ∀ μ, μ < 352 → zsort.getD μ 9 = 0 → zown μ < 9 ∧ (zC (zown μ)).1 = zO (zown μ) := by decide +kernel
theorem zwc_nil {μ : Nat} (h : zhand μ = []) : zwc μ = Cond.code (zM μ).1 (zM μ).2.1 (zsig μ).2.1 (zsig μ).2.2 := by unfold zwc; rw [h]
theorem zwc_cons {μ : Nat} (h : zhand μ ≠ []) : zwc μ = Cond.codeWith (zM μ).1 (zM μ).2.1 (zsig μ).2.1 (zsig μ).2.2 ((zhand μ).map fun q => (q.1, q.2.1, q.2.2.1, q.2.2.2.1)) := by
  unfold zwc
  split
  · rename_i e; exact absurd e h
  · rfl
/-- from the words of a call to its run -/
theorem zs_call {μ x z len : Nat} {ins : Instr} {S1 : ZS} {vs : List Value} {r1 : ZR} (hμ : μ < 353) (hexec : p.tables.exec = Jvm.exec) (hb : c.code = (zM μ).2.1) (hown : s.vm.findClass (zO (zown μ)) = some m.cls) (hts : ∀ w ∈ zGW, w.before args s = true)
    (hml : c.maxLocals = ls.size) (hfac : zfacts tx A s) (hfR : (zM μ).2.2.2.1 ≤ R.frames) (hlR : (zM μ).2.2.2.2 ≤ R.locals)
    (hdg : decode (zM μ).2.1 pc = .ok (ins, len)) (hlen : zlen ins = 0 ∨ zlen ins = len) (hm : zokm μ pc (ins, len, 4, x, z) = true)
    (hK : va_K D.1 zcl (ztys D) s) (hr : zrep D tx ad A S1 H) (hS : va_S A s.heap H locs) (hA : ∀ q, s.heap.size ≤ q → A q)
    (hn : vs.length = (zsig x).1) (h8 : zsum rest ≤ 8) (hrc : zrcv z vs S1.1 = true) (hM : zMet l D tx ad x S1 vs H.size r1) (hc : cells + (r1.2.2.2.1 - S1.2.2.1) ≤ R.cells) (hs : slots + (r1.2.2.2.2 - S1.2.2.2) ≤ R.slots) :
    len = 3 ∧ vx_Run p l e R s m args below meth c H locs cells slots (r1.2.2.2.1 - S1.2.2.1) (r1.2.2.2.2 - S1.2.2.2) (F0 m pc ls ((vs.reverse ++ rest).map (zcv tx ad))) (rest.map (zcv tx ad)) (zQc D tx ad S1 r1 (va_A (zws D tx ad S1.1 S1.2.1) H.size) (vs.map (zcv tx ad)).toArray) (zXC D tx ad S1 r1 (va_A (zws D tx ad S1.1 S1.2.1) H.size)) (va_A (zws D tx ad S1.1 S1.2.1) H.size) := by
  have hlen : zlen ins ≠ 0 → len = zlen ins := fun q => by omega
  obtain ⟨⟨hx, -⟩, hf1, hl1, hcase⟩ := zokm_call hm
  have hwx := zwc_good x hx
  have hgi : GoodIn zGW (zwc x :: zGW) := zgi (zcons hwx zself)
  obtain ⟨hc1, hc2, hc3⟩ := zcls_all x hx
  have hfr : (zroom x S1 r1).frames + 1 ≤ R.frames := Nat.le_trans hf1 hfR
  have hlo : 8 + ((zsig x).2.1 + 11) + (zroom x S1 r1).locals ≤ R.locals := Nat.le_trans hl1 hlR
  have hrest : 2 * (F0 m pc ls ((vs.reverse ++ rest).map (zcv tx ad))).monitorRoom + ((rest.map (zcv tx ad)).map fun v => v.category).sum ≤ 8 := by
    show 2 * 0 + _ ≤ 8
    rw [zsum_map]
    omega
  have hpre : ∀ U : State, U.heap = H → s.WarmedH U.vm → zPc D tx ad S1 vs H.size (vs.map (zcv tx ad)).toArray U := fun U hU hW =>
    ⟨rfl, by rw [hU], by rw [hU]; exact zrep_weaken hr fun _ _ => trivial, va_K.moved hW.alike hK, zfacts_moved hW (fun q h1 h2 => by rw [hU]; exact hS.2.1 q h1 h2) (zsubA hr hS hA) hfac⟩
  have hst9 : ∀ (v : Value) (vs' : List Value), vs = v :: vs' → (vs.reverse ++ rest).map (zcv tx ad) = (vs'.map (zcv tx ad)).reverse ++ zcv tx ad v :: rest.map (zcv tx ad) := fun v vs' h => by
    subst h
    simp
  rcases hcase with ⟨i, rfl, hl, rfl, hso⟩ | ⟨i, rfl, hl, rfl, hso⟩ | ⟨i, rfl, hl, rfl, hso⟩ | ⟨i, rfl, hl, rfl, hso⟩
  · -- virtual
    cases hlen (Nat.succ_ne_zero _)
    refine ⟨rfl, ?_⟩
    have hh := zhand_nm x hx (by omega)
    rw [zMet, zwc_nil hh] at hM
    rw [zwc_nil hh] at hgi hwx
    obtain ⟨hso1, hso2⟩ := zsort_0 x hx hso
    obtain ⟨ho9, ho8⟩ := zown_9 x hx hso
    have hd := zdsc_all x hx
    rw [hso, if_neg (by decide)] at hd
    have hp1 := zpos_all x hx (by omega)
    cases vs with
    | nil => exact absurd hn (by show ¬ 0 = _; omega)
    | cons v vs' =>
      have hrc' : ∃ i9 fs, v = .ref i9 ∧ S1.1 i9 = .inr (zown x, fs) := by
        rw [show 10 + zown x = zown x + 10 by omega] at hrc
        cases v with
        | ref i9 =>
          have hrc : (match S1.1 i9 with | .inr o => o.1 == zown x | .inl _ => false) = true := hrc
          cases e9 : S1.1 i9 with
          | inl a9 => rw [e9] at hrc; cases hrc
          | inr o =>
            rw [e9] at hrc
            obtain ⟨o1, o2⟩ := o
            have : o1 = zown x := by simpa using hrc
            exact ⟨i9, o2, rfl, by rw [e9, this]⟩
        | _ => exact absurd hrc (by intro q; cases q)
      obtain ⟨i9, fs, rfl, hi9⟩ := hrc'
      have hrv := va_recv hK hr.1 (zcl_get ho9) (zrep_at hr hi9 (zne_r (by omega)))
      rw [ho8] at hrv
      have K := vx_runV (own := zO (zown μ)) (C := zO (zown x)) (b := ad i9) (As := vs'.map (zcv tx ad)) (rest := rest.map (zcv tx ad)) (n := (zsig x).1 - 1) (g := F0 m pc ls (((Value.ref i9 :: vs').reverse ++ rest).map (zcv tx ad))) (locs := locs) (cells := cells) (slots := slots) (e := e) (R := R) (below := below) (meth := meth) ⟨hexec, hb, hml, hown, hts⟩ hM
        (cwV (own := zO (zown μ)) (index := i) ((zsig x).1 - 1) hts (zgi (zcons (zlM_in hl) (zcons (zwi_in _ (List.mem_map.mpr ⟨x, hso1, rfl⟩)) (zcons (by have := zws_in _ (List.mem_map.mpr ⟨x, hso2, rfl⟩); rw [hc3] at this; exact this) (zcons (by rw [← hc3]; exact zwA_in _ (zini_all x hx)) (zcons hwx zself)))))) rfl rfl rfl ⟨hc3, hc1, hc2, hd⟩ ⟨hfr, hlo⟩)
        ⟨zPc_blind, hrv, fun U hU hW => hpre U hU hW⟩ rfl (by rw [List.length_map]; have hn : vs'.length + 1 = (zsig x).1 := hn; omega) rfl (hst9 _ _ rfl) hrest hdg ⟨hc, hs⟩
      exact K
  · -- static
    cases hlen (Nat.succ_ne_zero _)
    refine ⟨rfl, ?_⟩
    have hd := zdsc_all x hx
    rw [hso, if_pos rfl] at hd
    have hso1 := zsort_1 x hx hso
    have hst : (vs.reverse ++ rest).map (zcv tx ad) = (vs.map (zcv tx ad)).reverse ++ rest.map (zcv tx ad) := by simp
    by_cases hh : zhand x = []
    · rw [zMet, zwc_nil hh] at hM
      rw [zwc_nil hh] at hgi hwx
      exact vx_runS (own := zO (zown μ)) (index := i) (n := (zsig x).1) ⟨hexec, hb, hml, hown, hts⟩ hM
        (va_cwS (own := zO (zown μ)) (index := i) (zsig x).1 hts (zgi (zcons (zlM_in hl) (zcons (zwt_in _ (List.mem_map.mpr ⟨x, hso1, rfl⟩)) (zcons (zwA_in _ (zini_all x hx)) (zcons hwx zself))))) rfl rfl rfl ⟨hc1, hc2, hd⟩ ⟨hfr, hlo⟩)
        ⟨zPc_blind, hpre⟩ rfl (by rw [List.length_map]; exact hn) rfl hst hrest hdg ⟨hc, hs⟩
    · rw [zMet, zwc_cons hh] at hM
      rw [zwc_cons hh] at hgi hwx
      exact vx_runSX (own := zO (zown μ)) (index := i) (n := (zsig x).1) (Ts := zGW) ⟨hexec, hb, hml, hown, hts⟩ hM
        ⟨⟨rfl, rfl, hfr, hlo, pay_in hts hgi, List.mem_cons_self⟩, hts _ hwx, hts _ (zwA_in _ (zini_all x hx)), ⟨hc1, hc2⟩, fun sig h => by rw [h] at hd; exact (Option.some.inj hd).symm, hts _ (zlM_in hl), hts _ (zwt_in _ (List.mem_map.mpr ⟨x, hso1, rfl⟩))⟩
        ⟨zPc_blind, hpre⟩ rfl (by rw [List.length_map]; exact hn) rfl hst hrest hdg ⟨hc, hs⟩
  · -- a nest mate's constructor
    cases hlen (Nat.succ_ne_zero _)
    refine ⟨rfl, ?_⟩
    have hh := zhand_nm x hx (by omega)
    obtain ⟨hnm, hrt⟩ := zini_nm x hx hso
    rw [zMet, zwc_nil hh, hrt] at hM
    rw [zwc_nil hh, hrt] at hgi hwx
    have hd := zdsc_all x hx
    rw [hso, if_neg (by decide)] at hd
    have hp1 := zpos_all x hx (by omega)
    have hso1 := zsort_2 x hx hso
    cases vs with
    | nil => exact absurd hn (by show ¬ 0 = _; omega)
    | cons v vs' =>
      have hv : ∃ i9, v = .ref i9 := by
        cases v with
        | ref i9 => exact ⟨i9, rfl⟩
        | _ => exact absurd hrc (by intro q; cases q)
      obtain ⟨i9, rfl⟩ := hv
      have hlN : zwN (zown μ, i, x) ∈ lw_tbl := zLN_in _ (List.mem_map.mpr ⟨(zown μ, i, x), by simpa using hl, rfl⟩)
      have hnw := hfac.2.2.2.2.1 (zown μ, i, x) (by simpa using hl)
      exact vx_runIN (own := zO (zown μ)) (index := i) (host := "SparePager") (b := ad i9) (As := vs'.map (zcv tx ad)) (n := (zsig x).1 - 1) (Ts := zGW) ⟨hexec, hb, hml, hown, hts⟩ hM
        ⟨⟨⟨rfl, rfl, hfr, hlo, pay_in hts hgi, List.mem_cons_self⟩, hts _ hwx, hts _ (zwA_in _ (zini_all x hx)), ⟨hc1, hc2⟩, fun sig h => by rw [h] at hd; exact (Option.some.inj hd).symm, va_tabs rfl rfl hnw⟩, hnm, hts _ (zwi_in _ (List.mem_map.mpr ⟨x, hso1, rfl⟩))⟩
        ⟨zPc_blind, hpre⟩ rfl (by rw [List.length_map]; have hn : vs'.length + 1 = (zsig x).1 := hn; omega) rfl (hst9 _ _ rfl) hrest hdg ⟨hc, hs⟩
  · -- a constructor
    cases hlen (Nat.succ_ne_zero _)
    refine ⟨rfl, ?_⟩
    have hh := zhand_nm x hx (by omega)
    obtain ⟨hnm, hrt⟩ := zini_nm x hx hso
    rw [zMet, zwc_nil hh, hrt] at hM
    rw [zwc_nil hh, hrt] at hgi hwx
    have hd := zdsc_all x hx
    rw [hso, if_neg (by decide)] at hd
    have hp1 := zpos_all x hx (by omega)
    have hso1 := zsort_2 x hx hso
    cases vs with
    | nil => exact absurd hn (by show ¬ 0 = _; omega)
    | cons v vs' =>
      have hv : ∃ i9, v = .ref i9 := by
        cases v with
        | ref i9 => exact ⟨i9, rfl⟩
        | _ => exact absurd hrc (by intro q; cases q)
      obtain ⟨i9, rfl⟩ := hv
      exact vx_runI (own := zO (zown μ)) (index := i) (b := ad i9) (As := vs'.map (zcv tx ad)) (n := (zsig x).1 - 1) (Ts := zGW) ⟨hexec, hb, hml, hown, hts⟩ hM
        ⟨callB_of (own := zO (zown μ)) (index := i) ((zsig x).1 - 1) hts hgi rfl rfl rfl (hts _ (zwA_in _ (zini_all x hx))) (hts _ (zlM_in hl)) ⟨hc1, hc2, hd⟩ ⟨hfr, hlo⟩, hnm, hts _ (zwi_in _ (List.mem_map.mpr ⟨x, hso1, rfl⟩))⟩
        ⟨zPc_blind, hpre⟩ rfl (by rw [List.length_map]; have hn : vs'.length + 1 = (zsig x).1 := hn; omega) rfl (hst9 _ _ rfl) hrest hdg ⟨hc, hs⟩
end ZS4
