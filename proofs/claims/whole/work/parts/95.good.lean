/-! What holds of the tables while a text is read. -/
/-- frames are filled in their order; nothing has happened yet -/
def zHl (T : ZD2) (h : Nat) : Prop := h ≤ sNf T ∧ ∀ f, f < 64 → T 4 (3 * f + 2) = zn ∧ (f < h → zi 0 < T 4 (3 * f)) ∧ (h ≤ f → T 4 (3 * f) = zi 0)
def zGd (T : ZD2) : Prop := (zIv T ∧ zEx T ∧ zPz T) ∧ (T 1 5 = zi 0 ∧ T 1 6 = zi 0 ∧ T 1 14 = zi 0) ∧ ∃ h, zHl T h
theorem zff_none {p : Nat → Bool} (d i : Nat) (h : ∀ j, i ≤ j → j < i + d → p j = false) : zfn p d i = none := by
  cases q : zfn p d i with
  | none => rfl
  | some j =>
    obtain ⟨a, b, c⟩ := zfn_some q
    rw [h j a b] at c
    exact Bool.noConfusion c
theorem zHl_state {T : ZD2} {h f : Nat} (H : zHl T h) (hf : f < 64) : decide (sState T f = zi 0) = decide (h ≤ f) := by
  obtain ⟨u, a, b⟩ := H.2 f hf
  unfold sState
  by_cases q : h ≤ f
  · have e := b q
    rw [e, if_neg (by rw [zi_lt (by omega) (by omega)]; omega), if_pos u, decide_eq_true rfl, decide_eq_true q]
  · rw [if_pos (a (by omega)), decide_eq_false q]
    rfl
/-- the first free frame is the next in order -/
theorem zHl_free {T : ZD2} {h : Nat} (H : zHl T h) (h64 : sNf T ≤ 64) : sFree T = if h < sNf T then some h else none := by
  unfold sFree
  by_cases q : h < sNf T
  · rw [if_pos q]
    cases z : zfn (fun f => decide (sState T f = zi 0)) (sNf T) 0 with
    | none =>
      have := zfn_no z h (Nat.zero_le _) (by omega)
      rw [zHl_state H (by omega), decide_eq_true (Nat.le_refl h)] at this
      exact Bool.noConfusion this
    | some j =>
      obtain ⟨a, b, c⟩ := zfn_some z
      rw [zHl_state H (by omega), decide_eq_true_iff] at c
      have first := zfn_first z
      by_cases e : h = j
      · rw [e]
      · have := first h (Nat.zero_le _) (by omega)
        rw [zHl_state H (by omega), decide_eq_true (Nat.le_refl h)] at this
        exact Bool.noConfusion this
  · rw [if_neg q]
    refine zff_none _ _ fun j a b => ?_
    rw [zHl_state H (by omega)]
    exact decide_eq_false (by omega)
theorem zGd_enter {T : ZD2} {p g h : Nat} (G : zGd T) (H : zHl T h) (hh : h < sNf T) (hp : p < sNp T) (hg : g < sPgs T p) (hi : sIn T (12 * p + g) = false) : zGd (uEnter T (12 * p + g) h) ∧ zHl (uEnter T (12 * p + g) h) (h + 1) := by
  obtain ⟨⟨I, E, Z⟩, ⟨t1, t2, t3⟩, -⟩ := G
  have n6 := zIv_np6 I
  have n64 := zIv_nf64 I
  have g12 := (zIv_pg I (p := p) (by omega)).2
  have e0 : uEnter T (12 * p + g) h 0 = T 0 := by unfold uEnter; rw [zw_row (by omega), zw_row (by omega)]
  have e1 : uEnter T (12 * p + g) h 1 = T 1 := by unfold uEnter; rw [zw_row (by omega), zw_row (by omega)]
  have e2 : uEnter T (12 * p + g) h 2 = T 2 := by unfold uEnter; rw [zw_row (by omega), zw_row (by omega)]
  have enf : sNf (uEnter T (12 * p + g) h) = sNf T := by unfold sNf; rw [e0]
  have enp : sNp (uEnter T (12 * p + g) h) = sNp T := by unfold sNp; rw [e1]
  have epg : ∀ q, sPgs (uEnter T (12 * p + g) h) q = sPgs T q := fun q => by unfold sPgs; rw [e2]
  have e3 : ∀ j, j ≠ 5 * (12 * p + g) → uEnter T (12 * p + g) h 3 j = T 3 j := fun j hj => by unfold uEnter; rw [zw_row (by omega), zw_ne (by omega)]
  have e4 : ∀ j, j ≠ 3 * h → uEnter T (12 * p + g) h 4 j = T 4 j := fun j hj => by unfold uEnter; rw [zw_ne (by omega), zw_row (by omega)]
  have ha : T 3 (5 * (12 * p + g)) = zn := by
    unfold sIn at hi
    by_cases q : T 3 (5 * (12 * p + g)) = zn
    · exact q
    · rw [decide_eq_false q] at hi
      exact Bool.noConfusion hi
  have hdiv : (12 * p + g) / 12 = p := by omega
  have I' : zIv (uEnter T (12 * p + g) h) := zIv_enter I (by omega) hh ha (by rw [hdiv]; exact ⟨hp, by rw [show 12 * p + g - p * 12 = g by omega]; exact hg⟩) (H.2 h (by omega)).1
  have H' : zHl (uEnter T (12 * p + g) h) (h + 1) := by
    refine ⟨by rw [enf]; omega, fun f hf => ?_⟩
    obtain ⟨u, a, b⟩ := H.2 f hf
    refine ⟨by rw [e4 _ (by omega)]; exact u, fun q => ?_, fun q => ?_⟩
    · by_cases e : f = h
      · subst e
        have c := b (Nat.le_refl _)
        have e4' : uEnter T (12 * p + g) f 4 (3 * f) = zi 1 := by unfold uEnter; rw [zw_self, c, zi_add]
        rw [e4']
        decide
      · rw [e4 _ (by omega)]
        exact a (by omega)
    · rw [e4 _ (by omega)]
      exact b (by omega)
  refine ⟨⟨⟨I', ?_, ?_⟩, by rw [e1]; exact ⟨t1, t2, t3⟩, h + 1, H'⟩, H'⟩
  · exact zEx_gen E e0 (fun r hr => Or.inl ⟨e3 _ (by omega), e3 _ (by omega)⟩) fun f h1 h2 => e4 _ (by omega)
  · intro p' g' hp' hg' hb
    rw [enp, epg] at hb
    rw [e3 _ (by omega)]
    exact Z p' g' hp' hg' hb
theorem zGd_pin {T : ZD2} {p g : Nat} (G : zGd T) (hp : p < sNp T) (hg : g < sPgs T p) : zGd (zw T 3 (5 * (12 * p + g) + 2) (zi 1)) ∧ ∀ h, zHl T h → zHl (zw T 3 (5 * (12 * p + g) + 2) (zi 1)) h := by
  obtain ⟨⟨I, E, Z⟩, ⟨t1, t2, t3⟩, h, H⟩ := G
  have n6 := zIv_np6 I
  have g12 := (zIv_pg I (p := p) (by omega)).2
  have e0 : zw T 3 (5 * (12 * p + g) + 2) (zi 1) 0 = T 0 := zw_row (by omega)
  have e1 : zw T 3 (5 * (12 * p + g) + 2) (zi 1) 1 = T 1 := zw_row (by omega)
  have e2 : zw T 3 (5 * (12 * p + g) + 2) (zi 1) 2 = T 2 := zw_row (by omega)
  have e4 : zw T 3 (5 * (12 * p + g) + 2) (zi 1) 4 = T 4 := zw_row (by omega)
  have enf : sNf (zw T 3 (5 * (12 * p + g) + 2) (zi 1)) = sNf T := by unfold sNf; rw [e0]
  have enp : sNp (zw T 3 (5 * (12 * p + g) + 2) (zi 1)) = sNp T := by unfold sNp; rw [e1]
  have epg : ∀ q, sPgs (zw T 3 (5 * (12 * p + g) + 2) (zi 1)) q = sPgs T q := fun q => by unfold sPgs; rw [e2]
  have HH : ∀ h, zHl T h → zHl (zw T 3 (5 * (12 * p + g) + 2) (zi 1)) h := fun h H => by
    unfold zHl
    rw [enf, e4]
    exact H
  refine ⟨⟨⟨zIv_pin (w := true) I (by omega), ?_, ?_⟩, by rw [e1]; exact ⟨t1, t2, t3⟩, h, HH h H⟩, HH⟩
  · exact zEx_gen E e0 (fun r hr => Or.inl ⟨zw_ne (by omega), zw_ne (by omega)⟩) fun f h1 h2 => by rw [e4]
  · intro p' g' hp' hg' hb
    rw [enp, epg] at hb
    by_cases e : 12 * p' + g' = 12 * p + g
    · exfalso
      have : p' = p := by omega
      subst this
      have : g' = g := by omega
      subst this
      omega
    · rw [zw_ne (by omega)]
      exact Z p' g' hp' hg' hb
theorem uAdd_o {T : ZD2} {np t : Nat} {a b c d : Int32} (h1 : t ≠ 1) (h2 : t ≠ 2) : uAdd T np a b c d t = T t := by
  unfold uAdd uTot
  rw [zw_row h1, zw_row h2, zw_row h2, zw_row h2, zw_row h2, zw_row h2]
theorem uAdd_1o {T : ZD2} {np j : Nat} {a b c d : Int32} (h : j ≠ 0) : uAdd T np a b c d 1 j = T 1 j := by
  unfold uAdd uTot
  rw [zw_ne (by omega), zw_row (by omega), zw_row (by omega), zw_row (by omega), zw_row (by omega), zw_row (by omega)]
theorem uAdd_2o {T : ZD2} {np j : Nat} {a b c d : Int32} (h : j ≠ 12 * np + 11 ∧ j ≠ 12 * np ∧ j ≠ 12 * np + 1 ∧ j ≠ 12 * np + 2 ∧ j ≠ 12 * np + 4) : uAdd T np a b c d 2 j = T 2 j := by
  unfold uAdd uTot
  rw [zw_row (by omega), zw_ne (by omega), zw_ne (by omega), zw_ne (by omega), zw_ne (by omega), zw_ne (by omega)]
theorem uAdd_2p {T : ZD2} {np : Nat} {a b c d : Int32} : uAdd T np a b c d 2 (12 * np) = b := by
  unfold uAdd uTot
  rw [zw_row (by omega), zw_ne (by omega), zw_ne (by omega), zw_ne (by omega), zw_self]
theorem uAdd_2b {T : ZD2} {np : Nat} {a b c d : Int32} : uAdd T np a b c d 2 (12 * np + 2) = d := by
  unfold uAdd uTot
  rw [zw_row (by omega), zw_ne (by omega), zw_self]
theorem uAdd_2t {T : ZD2} {np : Nat} {a b c d : Int32} : uAdd T np a b c d 2 (12 * np + 4) = zi 50 := by
  unfold uAdd uTot
  rw [zw_row (by omega), zw_self]
theorem uAdd_2n {T : ZD2} {np : Nat} {a b c d : Int32} : uAdd T np a b c d 2 (12 * np + 11) = a := by
  unfold uAdd uTot
  rw [zw_row (by omega), zw_ne (by omega), zw_ne (by omega), zw_ne (by omega), zw_ne (by omega), zw_self]
theorem zGd_add {T : ZD2} {a d : Int32} {pr m : Nat} (G : zGd T) (h6 : sNp T < 6) (hpr : pr ≤ 99) (hm : m ≤ 12) : zGd (uAdd T (sNp T) a (zi pr) (zi m) d) ∧ ∀ h, zHl T h → zHl (uAdd T (sNp T) a (zi pr) (zi m) d) h := by
  obtain ⟨⟨I, E, Z⟩, ⟨t1, t2, t3⟩, h, H⟩ := G
  obtain ⟨⟨⟨Ia1, Ia2⟩, Ia3, Ia4⟩, ⟨Ib1, Ib2⟩, ⟨Ic1, Ic2⟩, ⟨Id1, Id2⟩, ⟨Ie1, Ie2, Ie3⟩, If1, If2, If3, If4⟩ := I
  have e0 : uAdd T (sNp T) a (zi pr) (zi m) d 0 = T 0 := uAdd_o (by omega) (by omega)
  have e3 : uAdd T (sNp T) a (zi pr) (zi m) d 3 = T 3 := uAdd_o (by omega) (by omega)
  have e4 : uAdd T (sNp T) a (zi pr) (zi m) d 4 = T 4 := uAdd_o (by omega) (by omega)
  have e15 : uAdd T (sNp T) a (zi pr) (zi m) d 1 5 = T 1 5 := uAdd_1o (by omega)
  have e16 : uAdd T (sNp T) a (zi pr) (zi m) d 1 6 = T 1 6 := uAdd_1o (by omega)
  have e114 : uAdd T (sNp T) a (zi pr) (zi m) d 1 14 = T 1 14 := uAdd_1o (by omega)
  have e10 : uAdd T (sNp T) a (zi pr) (zi m) d 1 0 = zi (sNp T + 1) := by rw [uAdd_10, Ia1, zi_add]
  have enp : sNp (uAdd T (sNp T) a (zi pr) (zi m) d) = sNp T + 1 := by
    show (uAdd T (sNp T) a (zi pr) (zi m) d 1 0).toNatClampNeg = _
    rw [e10, zi_toNat (by omega)]
  have enf : sNf (uAdd T (sNp T) a (zi pr) (zi m) d) = sNf T := by unfold sNf; rw [e0]
  have epg : ∀ q, q ≠ sNp T → sPgs (uAdd T (sNp T) a (zi pr) (zi m) d) q = sPgs T q := fun q hq => by
    unfold sPgs
    rw [uAdd_2, if_neg hq]
  have ect : ∀ f, sCnt (uAdd T (sNp T) a (zi pr) (zi m) d) f = sCnt T f := fun f => sCnt_o fun r hr => by rw [e3]
  have HH : ∀ h, zHl T h → zHl (uAdd T (sNp T) a (zi pr) (zi m) d) h := fun h H => by
    unfold zHl
    rw [enf, e4]
    exact H
  refine ⟨⟨⟨⟨⟨?_, ?_⟩, ⟨?_, ?_⟩, ⟨?_, ?_⟩, ⟨?_, ?_⟩, ⟨?_, ?_, ?_⟩, ?_, ?_, ?_, zFin_add If4 h6⟩, ⟨?_, ?_⟩, ?_⟩, by rw [e15, e16, e114]; exact ⟨t1, t2, t3⟩, h, HH h H⟩, HH⟩
  · rw [enp]; exact ⟨e10, by omega⟩
  · rw [enf, e0]; exact ⟨Ia3, Ia4⟩
  · intro r hr; rw [e3, enf]; exact Ib1 r hr
  · intro p hp
    by_cases e : p = sNp T
    · have c1 : sPgs (uAdd T (sNp T) a (zi pr) (zi m) d) p = m := by unfold sPgs; rw [uAdd_2, if_pos e, zi_toNat (by omega)]
      rw [c1, uAdd_2, if_pos e]
      exact ⟨rfl, hm⟩
    · rw [epg p e, uAdd_2, if_neg e]
      exact Ib2 p hp
  · intro p hp
    by_cases e : p = sNp T
    · subst e
      exact ⟨pr, 50, uAdd_2p, hpr, uAdd_2t, by omega, fun _ => by omega⟩
    · obtain ⟨x, y, a1, a2, a3, a4, a5⟩ := Ic1 p hp
      refine ⟨x, y, by rw [uAdd_2o (by omega)]; exact a1, a2, by rw [uAdd_2o (by omega)]; exact a3, a4, fun q => a5 ?_⟩
      rw [enp] at q
      omega
  · intro p hp
    rw [uAdd_2o (by omega)]
    exact Ic2 p hp
  · intro r hr; rw [e3]; exact Id1 r hr
  · intro p g hp hg hb
    rw [enp] at hb
    rw [e3]
    by_cases e : p = sNp T
    · exact Id2 p g hp hg (Or.inl (by omega))
    · rw [epg p e] at hb
      exact Id2 p g hp hg (hb.imp (fun w => by omega) id)
  · intro f hf; rw [e4, ect]; exact Ie1 f hf
  · intro f hf; rw [e4, ect]; exact Ie2 f hf
  · intro f hf; rw [e4, ect, e15]; exact Ie3 f hf
  · rw [e15]; exact If1
  · rw [e0]; exact If2
  · rw [e0]; exact If3
  · intro r hr; rw [e3]; exact E.1 r hr
  · intro f h1 h2; rw [e4]; exact E.2 f (by rw [enf] at h1; exact h1) h2
  · intro p g hp hg hb
    rw [enp] at hb
    rw [e3]
    by_cases e : p = sNp T
    · exact Z p g hp hg (Or.inl (by omega))
    · rw [epg p e] at hb
      exact Z p g hp hg (hb.imp (fun w => by omega) id)
/-- once the settings are read -/
def uSet (a b c w l : Nat) : ZD2 := zw (zw (zw (zw (zw zTc 0 0 (zi a)) 0 1 (zi b)) 0 2 (zi c)) 0 3 (zi w)) 0 4 (zi l)
theorem zTc_at {r : Nat} (hr : r < 72) : zTc 3 (5 * r) = zn ∧ zTc 3 (5 * r + 2) = zi 0 ∧ zTc 3 (5 * r + 3) = zn ∧ zTc 3 (5 * r + 4) = zn := by
  unfold zTc
  refine ⟨if_pos ⟨rfl, by omega, by omega⟩, ?_, if_pos ⟨rfl, by omega, by omega⟩, if_pos ⟨rfl, by omega, by omega⟩⟩
  rw [if_neg (by omega), if_neg (by omega), if_neg (by omega)]
theorem zTc_4 {f : Nat} (hf : f < 64) : zTc 4 (3 * f) = zi 0 ∧ zTc 4 (3 * f + 1) = zi 0 ∧ zTc 4 (3 * f + 2) = zn := by
  unfold zTc
  refine ⟨?_, ?_, ?_⟩
  · rw [if_neg (by omega), if_neg (by omega), if_neg (by omega)]
  · rw [if_neg (by omega), if_neg (by omega), if_neg (by omega)]
  · rw [if_neg (by omega), if_pos ⟨rfl, by omega, by omega⟩]
theorem zTc_2 {j : Nat} : zTc 2 j = zi 0 := by
  unfold zTc
  rw [if_neg (by omega), if_neg (by omega), if_neg (by omega)]
theorem zTc_1j {j : Nat} : zTc 1 j = zi 0 := by
  unfold zTc
  rw [if_neg (by omega), if_neg (by omega), if_neg (by omega)]
theorem zGd_set {a b c w l : Nat} (ha : a ≤ 64) (hc : c ≤ 20) (hw : w ≤ 200) (hl : l ≤ w) : zGd (uSet a b c w l) ∧ zHl (uSet a b c w l) 0 := by
  have o : ∀ t, t ≠ 0 → uSet a b c w l t = zTc t := fun t ht => by
    unfold uSet
    rw [zw_row ht, zw_row ht, zw_row ht, zw_row ht, zw_row ht]
  have e00 : uSet a b c w l 0 0 = zi a := by unfold uSet; rw [zw_ne (by omega), zw_ne (by omega), zw_ne (by omega), zw_ne (by omega), zw_self]
  have e02 : uSet a b c w l 0 2 = zi c := by unfold uSet; rw [zw_ne (by omega), zw_ne (by omega), zw_self]
  have e03 : uSet a b c w l 0 3 = zi w := by unfold uSet; rw [zw_ne (by omega), zw_self]
  have e04 : uSet a b c w l 0 4 = zi l := by unfold uSet; rw [zw_self]
  have o1 := o 1 (by omega)
  have o2 := o 2 (by omega)
  have o3 := o 3 (by omega)
  have o4 := o 4 (by omega)
  have enp : sNp (uSet a b c w l) = 0 := by unfold sNp; rw [o1]; rfl
  have enf : sNf (uSet a b c w l) = a := by unfold sNf; rw [e00, zi_toNat (by omega)]
  have epg : ∀ p, sPgs (uSet a b c w l) p = 0 := fun p => by unfold sPgs; rw [o2, zTc_2]; rfl
  have ect : ∀ f, f < 64 → sCnt (uSet a b c w l) f = 0 := fun f hf => by
    have g := zct_pad (p := fun r => decide (uSet a b c w l 3 (5 * r) = zi f)) (d := 0) (e := 72) (i := 0) (c := 0) fun j _ hj => by
      rw [o3, (zTc_at (by omega)).1]
      exact decide_eq_false (by rw [zn_ne_zi (by omega)]; exact False.elim)
    unfold sCnt
    exact g
  have H : zHl (uSet a b c w l) 0 := ⟨by omega, fun f hf => by
    rw [o4]
    obtain ⟨z1, z2, z3⟩ := zTc_4 hf
    exact ⟨z3, fun q => absurd q (Nat.not_lt_zero f), fun _ => z1⟩⟩
  refine ⟨⟨⟨⟨⟨?_, ?_⟩, ⟨?_, ?_⟩, ⟨?_, ?_⟩, ⟨?_, ?_⟩, ⟨?_, ?_, ?_⟩, ?_, ?_, ?_, ?_⟩, ⟨?_, ?_⟩, ?_⟩, ?_, 0, H⟩, H⟩
  · rw [enp, o1]; exact ⟨zTc_1j, by omega⟩
  · rw [enf, e00]; exact ⟨rfl, ha⟩
  · intro r hr; rw [o3]; exact Or.inl (zTc_at hr).1
  · intro p _; rw [epg, o2, zTc_2]; exact ⟨rfl, by omega⟩
  · intro p _
    rw [enp, o2]
    exact ⟨0, 0, zTc_2, by omega, zTc_2, by omega, fun q => absurd q (Nat.not_lt_zero p)⟩
  · intro p _; rw [o2]; exact Or.inl zTc_2
  · intro r hr; rw [o3]; exact Or.inl (zTc_at hr).2.1
  · intro p g hp hg _
    rw [o3]
    have z := zTc_at (r := 12 * p + g) (by omega)
    exact ⟨z.1, z.2.2.1⟩
  · intro f hf; rw [o4, ect f hf]; exact (zTc_4 hf).1
  · intro f hf; rw [o4]; exact Or.inl (zTc_4 hf).2.1
  · intro f hf; rw [o4]; exact Or.inl (zTc_4 hf).2.2
  · rw [o1]; exact ⟨0, zTc_1j, by omega⟩
  · rw [e02]; exact ⟨c, rfl, hc⟩
  · rw [e03, e04]; exact ⟨w, l, rfl, rfl, hl, hw⟩
  · unfold uSet
    exact zFin_w (zFin_w (zFin_w (zFin_w (zFin_w zFin_Tc fun _ => by show 0 < 5; omega) fun _ => by show 1 < 5; omega) fun _ => by show 2 < 5; omega) fun _ => by show 3 < 5; omega) fun _ => by show 4 < 5; omega
  · intro r hr _; rw [o3]; exact (zTc_at hr).2.2.2
  · intro f _ hf; rw [o4]; exact (zTc_4 hf).2.2
  · intro p g hp hg _; rw [o3]; exact (zTc_at (r := 12 * p + g) (by omega)).2.1
  · rw [o1]; exact ⟨zTc_1j, zTc_1j, zTc_1j⟩
