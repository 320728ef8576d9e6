/-! Every method that the small machine runs keeps its contract on the JVM. -/
theorem zpl_all : ∀ μ, μ < 352 → zown μ ≠ 10 → plainName (zM μ).1.cls = true := by decide +kernel
set_option maxHeartbeats 8000000 in
set_option maxRecDepth 100000 in
theorem zmet {l : Launch} (hl : l.stackTraces = false) {X : ZX} {D : ZD} {tx : Nat → Nat} : ∀ F, zP l X D tx F := by
  intro F
  induction F using Nat.strongRecOn with
  | _ F IH =>
    intro μ hμ hμ10 vs S r ad sz h hvl hent hvo
    have hgr := zexec_grow _ _ _ _ _ _ _ h
    have hpl := zpl_all μ hμ hμ10
    have hcl := (zcls_all μ hμ).2.2
    have hμ3 : μ < 353 := by omega
    have body : ∀ (p : Program) (e : Env) (s : State) (m : MethodId) (args : Array Value) (below : List Frame) (meth : Method) (c : Code),
      p.tables.exec = Jvm.exec → c.code = (zM μ).2.1 → c.maxLocals = (zsig μ).2.1 → meth.sig.returnType = (zsig μ).2.2 → meth.locks = false → meth.name = (zM μ).1.name → s.vm.findClass (zM μ).1.cls = some m.cls → (∀ w ∈ zGW, w.before args s = true) →
      c.exceptionTable.toList.map (fun h => (h.startPc, h.endPc, h.handlerPc, h.catchType)) = (zhand μ).map (fun q => (q.1, q.2.1, q.2.2.1, q.2.2.2.1)) → zPc D tx ad S vs sz args s →
      W p l e (zroom μ S r) s m args below meth c s.heap [] 0 0 (vx_MQ below (zQc D tx ad S r (va_A (zws D tx ad S.1 S.2.1) sz)) (zXC D tx ad S r (va_A (zws D tx ad S.1 S.2.1) sz)) args s (r.2.2.2.1 - S.2.2.1) (r.2.2.2.2 - S.2.2.2) (va_A (zws D tx ad S.1 S.2.1) sz)) (entryFrame m args (zsig μ).2.1) := by
      intro p e s m args below meth c hexec hb hml0 hret hlocks hname hown0 hts htab hv
      obtain ⟨rfl, hsz, hr0, hK, hfac⟩ := hv
      obtain ⟨A, hAe⟩ : ∃ A, A = va_A (zws D tx ad S.1 S.2.1) sz := ⟨_, rfl⟩
      rw [← hAe] at hfac ⊢
      have hown : s.vm.findClass (zO (zown μ)) = some m.cls := by rw [← hcl]; exact hown0
      have hr : zrep D tx ad A S s.heap := by rw [hAe]; exact zrep_self hr0
      have hA : ∀ q, s.heap.size ≤ q → A q := fun q h => by rw [hAe, ← hsz]; exact Or.inr h
      obtain ⟨hlenE, hlocE⟩ := zentry_loc (tx := tx) (ad := ad) hent
      have hno : zhand μ = [] → ∀ x ∈ c.exceptionTable.toList, False := fun hh x hx => by
        rw [hh] at htab
        have := List.map_eq_nil_iff.mp htab
        rw [this] at hx
        cases hx
      rw [lg_entry_eq]
      refine zbody (k0 := S.2.2.1) (n0 := S.2.2.2) (N0 := S.2.1) (ad0 := ad) hμ3 IH hexec hb hown hts hml0 (fun h => hname.trans h) hfac (Nat.le_refl _) (Nat.le_refl _) hK hA (fun h => absurd h (by omega)) (fun _ => htab) ?_ ?_ ?_ ?_ ?_ F (Nat.le_refl _) 0 _ [] S ad s.heap [] 0 0 _ h hlenE hlocE hr va_S.rf (fun _ h => by cases h) (zokL_entry hvo) (Nat.zero_add _) (Nat.zero_add _) (Nat.le_refl _) (fun _ _ => rfl)
      · show r.2.2.2.1 ≤ r.2.2.2.1 - S.2.2.1 + S.2.2.1
        omega
      · show r.2.2.2.2 ≤ r.2.2.2.2 - S.2.2.2 + S.2.2.2
        omega
      · intro pc st S1 v ins len ls ad1 H locs cells slots hr9 hz hdg hlen0 hrp hS hst hc hn hax
        have hlen : zlen ins ≠ 0 → len = zlen ins := fun q => by omega
        have e1 : r.2.2.2.1 - S.2.2.1 = cells := by rw [hr9]; show S1.2.2.1 - S.2.2.1 = cells; omega
        have e2 : r.2.2.2.2 - S.2.2.2 = slots := by rw [hr9]; show S1.2.2.2 - S.2.2.2 = slots; omega
        rw [e1, e2]
        have hq : ∀ v9 : Option Value, v = v9 → zokL S1.2.1 v9.toList → ∀ t : State, t.heap = H → zQc D tx ad S r A (vs.map (zcv tx ad)).toArray s (.returned (v9.map (zcv tx ad1))) t := fun v9 hv9 hok t ht => ⟨v9, ad1, by rw [hr9, hv9], rfl, hax, by rw [hr9, ht]; exact hrp, by rw [hr9]; exact hok, hS.F ht⟩
        have one : ∀ {v : Value}, zokV S1.2.1 v → zokL S1.2.1 [v] := fun h => zokL_cons.mpr ⟨h, fun _ h => by cases h⟩
        unfold zret at hz
        split at hz
        · rename_i hrt
          cases hz
          cases hlen (Nat.succ_ne_zero _)
          exact vx_ret (W.vret hexec hb (hret.trans hrt) (fun t ht _ => hq none rfl (fun _ h => by cases h) t ht) hS.2.2 hdg)
        · rename_i t9 v9 hrt
          split at hz
          · rename_i hcd
            cases hz
            cases hlen (Nat.succ_ne_zero _)
            exact vx_ret (W.zret (ty := t9) hexec hb (hret.trans hrt) hcd.1 (fun t ht _ => hq (some (.int v9)) rfl (one trivial) t ht) hS.2.2 hdg)
          · cases hz
        · rename_i v9 hrt
          cases hz
          cases hlen (Nat.succ_ne_zero _)
          exact vx_ret (W.lret hexec hb (hret.trans hrt) (fun t ht _ => hq (some (.long v9)) rfl (one trivial) t ht) hS.2.2 hdg)
        · rename_i v9 hrt
          cases hz
          cases hlen (Nat.succ_ne_zero _)
          exact vx_ret (W.fret hexec hb (hret.trans hrt) (fun t ht _ => hq (some (.float v9)) rfl (one trivial) t ht) hS.2.2 hdg)
        · rename_i v9 hrt
          cases hz
          cases hlen (Nat.succ_ne_zero _)
          exact vx_ret (W.dret hexec hb (hret.trans hrt) (fun t ht _ => hq (some (.double v9)) rfl (one trivial) t ht) hS.2.2 hdg)
        · rename_i n9 a9 hrt
          cases hz
          cases hlen (Nat.succ_ne_zero _)
          exact vx_ret (W.aret (v := .ref (ad1 a9)) (rt := .object n9) hexec hb (hret.trans hrt) (Or.inl ⟨_, rfl⟩) (Or.inr ⟨_, rfl⟩) (fun t ht _ => hq (some (.ref a9)) rfl (one (zokL_cons.mp hst).1) t ht) hS.2.2 hdg)
        · cases hz
      · intro x pc rest S1 ls ad1 H locs cells slots q ce hh hr9 hx3 hrp hS hc hn hax hq hvm hcl1
        refine vx_out (E := zE x) (ce := ce) (fun x hx => (hno hh x hx).elim) hlocks hq hvm hcl1 (fun t ht hal => ⟨x, ad1, by rw [hr9], hx3, rfl, hax, by rw [hr9, ht]; exact hrp, hS.F ht⟩) hS.2.2 ?_ ?_
        · rw [hr9]; show cells ≤ S1.2.2.1 - S.2.2.1; omega
        · rw [hr9]; show slots ≤ S1.2.2.2 - S.2.2.2; omega
      · intro x y pc S1 ins len ls ad1 H locs cells slots hh hr9 hm hdg hlen hml hrp hS hc hn hax
        have hlen : zlen ins ≠ 0 → len = zlen ins := fun q => by omega
        cases ins with
        | new i =>
          cases hlen (Nat.succ_ne_zero _)
          have hm : zthr μ pc i x = true := hm
          have hx3 : x < 3 := by
            unfold zthr at hm
            simp only [Bool.and_eq_true, decide_eq_true_eq] at hm
            exact hm.1.1.1.1.1.1.2
          have c1 : cells + 1 ≤ r.2.2.2.1 - S.2.2.1 := by rw [hr9]; show cells + 1 ≤ S1.2.2.1 + 1 - S.2.2.1; omega
          have c2 : slots + 6 ≤ r.2.2.2.2 - S.2.2.2 := by rw [hr9]; show slots + 6 ≤ S1.2.2.2 + 6 - S.2.2.2; omega
          exact zs_throw hμ3 hexec hb hl hown hts hml hfac (Nat.le_refl _) (Nat.le_refl _) (hno hh) hlocks hm hdg hS c1 c2 (fun t hal hsz1 hk => ⟨x, ad1, by rw [hr9], hx3, rfl, hax, by rw [hr9]; exact zrep_kept hrp rfl rfl hk, Nat.le_trans hS.1 hsz1, fun q h1 h2 => (hk q (Nat.lt_of_lt_of_le h1 hS.1)).trans (hS.2.1 q h1 h2)⟩) hS.2.2 c1 c2
        | _ => exact absurd hm (by intro q; cases q)
    unfold zMet
    by_cases hh : zhand μ = []
    · rw [zwc_nil hh]
      refine vx_ofW (cc := (zM μ).2.1) (maxL := (zsig μ).2.1) (ret := (zsig μ).2.2) hpl rfl ?_
      intro p e s m args below meth c s₁ B hml htb hv
      refine body p e s m args below meth c B.exec B.bytes hml B.returns B.notSynchronized (name_of_methodNamed B.named B.method).1 (findClass_of_methodNamed B.named) (fun w hw => atoms_spec (ws := .code (zM μ).1 (zM μ).2.1 (zsig μ).2.1 (zsig μ).2.2 :: zGW) B.pre w (List.mem_cons_of_mem _ hw)) ?_ hv
      rw [hh, List.eq_nil_iff_forall_not_mem.mpr htb]
      rfl
    · rw [zwc_cons hh]
      refine vx_ofWH (cc := (zM μ).2.1) (maxL := (zsig μ).2.1) (ret := (zsig μ).2.2) (hh := (zhand μ).map fun q => (q.1, q.2.1, q.2.2.1, q.2.2.2.1)) hpl rfl ?_
      intro p e s m args below meth c s₁ B hml hv
      refine body p e s m args below meth c B.exec B.bytes hml B.returns B.notSynchronized (name_of_methodNamed B.named B.method).1 (findClass_of_methodNamed B.named) (fun w hw => atoms_spec (ws := .codeWith (zM μ).1 (zM μ).2.1 (zsig μ).2.1 (zsig μ).2.2 ((zhand μ).map fun q : Nat × Nat × Nat × Nat × Nat => (q.1, q.2.1, q.2.2.1, q.2.2.2.1)) :: zGW) B.pre w (List.mem_cons_of_mem _ hw)) ?_ hv
      obtain ⟨m9, meth9, c9, hn9, h1, h2, -, -, h5, -⟩ := Cond.codeWith_spec (atoms_spec (ws := .codeWith (zM μ).1 (zM μ).2.1 (zsig μ).2.1 (zsig μ).2.2 ((zhand μ).map fun q : Nat × Nat × Nat × Nat × Nat => (q.1, q.2.1, q.2.2.1, q.2.2.2.1)) :: zGW) B.pre _ List.mem_cons_self)
      cases B.named.symm.trans hn9
      cases Option.some.inj (h1.symm.trans B.method)
      cases Option.some.inj (h2.symm.trans (Stand.of_body B).code)
      exact h5
