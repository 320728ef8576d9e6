/-! The model: the least price with which nothing is sold. -/
theorem zfn_is {p : Nat → Bool} : ∀ {d i : Nat}, (zfn p d i).isSome = true ↔ ∃ j, i ≤ j ∧ j < i + d ∧ p j = true
  | 0, i => by
    constructor
    · intro h; cases h
    · rintro ⟨j, h1, h2, -⟩; omega
  | d + 1, i => by
    rw [zfn]
    by_cases hp : p i = true
    · rw [if_pos hp]
      exact ⟨fun _ => ⟨i, Nat.le_refl _, by omega, hp⟩, fun _ => rfl⟩
    · rw [if_neg hp, zfn_is]
      constructor
      · rintro ⟨j, h1, h2, h3⟩
        exact ⟨j, by omega, by omega, h3⟩
      · rintro ⟨j, h1, h2, h3⟩
        refine ⟨j, ?_, by omega, h3⟩
        by_cases e : j = i
        · rw [e] at h3; exact absurd h3 hp
        · omega
theorem zfn_first {p : Nat → Bool} : ∀ {d i j : Nat}, zfn p d i = some j → ∀ q, i ≤ q → q < j → p q = false
  | 0, i, j, h => by cases h
  | d + 1, i, j, h => by
    intro q h1 h2
    rw [zfn] at h
    by_cases hp : p i = true
    · rw [if_pos hp] at h
      cases h
      omega
    · rw [if_neg hp] at h
      by_cases e : q = i
      · rw [e]; exact Bool.eq_false_iff.mpr hp
      · exact zfn_first h q (by omega) h2
theorem zfn_no {p : Nat → Bool} {d i : Nat} (h : zfn p d i = none) : ∀ q, i ≤ q → q < i + d → p q = false := by
  intro q h1 h2
  cases hp : p q
  · rfl
  · have := zfn_is.mpr ⟨q, h1, h2, hp⟩
    rw [h] at this
    cases this
/-- the tables with another price -/
def uPr (T : ZD2) (p v : Nat) : ZD2 := zw T 2 (12 * p) (zi v)
section
variable {T : ZD2} {p v : Nat}
theorem uPr_t {t : Nat} (h : t ≠ 2) : uPr T p v t = T t := zw_row h
theorem uPr_2 {j : Nat} (h : j ≠ 12 * p) : uPr T p v 2 j = T 2 j := zw_ne (by omega)
theorem uPr_in : sIn (uPr T p v) = sIn T := by funext r; unfold sIn; rw [uPr_t (by omega)]
theorem uPr_fr : sFr (uPr T p v) = sFr T := by funext r; unfold sFr; rw [uPr_t (by omega)]
theorem uPr_dirty : sDirty (uPr T p v) = sDirty T := by funext r; unfold sDirty; rw [uPr_t (by omega)]
theorem uPr_loose : sLoose (uPr T p v) = sLoose T := by
  have e1 : sSh (uPr T p v) = sSh T := by funext r; unfold sSh; rw [uPr_in, uPr_fr, uPr_t (by omega)]
  have e2 : sPin (uPr T p v) = sPin T := by funext r; unfold sPin; rw [uPr_t (by omega)]
  have e3 : sEnd (uPr T p v) = sEnd T := by funext r; unfold sEnd; rw [uPr_2 (by omega)]
  funext r
  unfold sLoose
  rw [uPr_in, e1, e2, e3]
theorem uPr_off {r : Nat} {t : Int32} : sOff (uPr T p v) r t = sOff T r t := by
  unfold sOff
  rw [uPr_loose, uPr_t (t := 3) (by omega), uPr_t (t := 0) (by omega), uPr_2 (by omega)]
theorem uPr_im : zIm T (uPr T p v) := zIm_w zIm_rfl (by omega) (by omega) (fun _ => by omega)
theorem zsub_back (a b : Int32) : a + (b - a) = b := by rw [Int32.add_comm, Int32.sub_add_cancel]
theorem uPr_price {r : Nat} : sPrice (uPr T p v) r = if r / 12 = p then sPrice T r + (zi v - T 2 (12 * p)) else sPrice T r := by
  unfold sPrice
  rw [uPr_in, uPr_fr, uPr_dirty]
  by_cases h : r / 12 = p
  · have e : uPr T p v 2 (12 * (r / 12)) = zi v := by rw [h]; exact zw_self _ _ _ _
    rw [if_pos h, e, h]
    split
    · rw [Int32.add_assoc, Int32.add_comm (zi 2), ← Int32.add_assoc, zsub_back]
    · rw [zsub_back]
  · rw [if_neg h, uPr_2 (by omega)]
theorem uPr_wo {r : Nat} : sWo (uPr T p v) r = if r / 12 = p then sWn T p (zi v) r else sWo T r := by
  unfold sWo sWn
  rw [uPr_price, uPr_2 (by omega)]
  split <;> rfl
theorem uPr_bef {a b : Nat} {w w' : UInt32} : sBef (uPr T p v) a w b w' = sBef T a w b w' := by
  unfold sBef
  rw [uPr_t (by omega)]
theorem uPr_oth {a b : Nat} (ha : ¬ a / 12 = p) (hb : ¬ b / 12 = p) : sBw (uPr T p v) a b = sBw T a b := by
  unfold sBw
  rw [uPr_bef, uPr_wo, uPr_wo, if_neg ha, if_neg hb]
theorem uPr_mix {a b : Nat} (ha : a / 12 = p) (hb : ¬ b / 12 = p) : sBw (uPr T p v) a b = sBef T a (sWn T p (zi v) a) b (sWo T b) := by
  unfold sBw
  rw [uPr_bef, uPr_wo, uPr_wo, if_pos ha, if_neg hb]
theorem uPr_mem {x : Nat} : x ∈ sL (uPr T p v) ↔ x ∈ sL T := by
  rw [sL_iff, sL_iff, uPr_off, uPr_t (by omega)]
/-- whether the first offer is of the program -/
def sSells (T : ZD2) (p : Nat) : Bool := match (sL T)[0]? with | none => false | some h => decide (h / 12 = p)
theorem sSells_eq (I : zIv T) (hp : p < 6) (hv : v ≤ 99) : sSells (uPr T p v) p = sSell T p (zi v) := by
  have IV : zIv (uPr T p v) := zIv_price I hp hv
  have SV := sL_srt IV
  have ST := sL_srt I
  have m72 : ∀ x, x ∈ sL T → x < 72 := fun x hx => (sL_iff.mp hx).1
  have getD_of : ∀ {i x : Nat}, (sL T)[i]? = some x → (sL T).getD i 0 = x := fun {i x} h => by rw [List.getD_eq_getElem?_getD, h]; rfl
  have riv : ∀ m x, (sL T)[m]? = some x → ¬ x / 12 = p → ∃ j y, sRiv T p = some j ∧ j ≤ m ∧ (sL T)[j]? = some y ∧ ¬ y / 12 = p := by
    intro m x hm hx
    have hlt := (List.getElem?_eq_some_iff.mp hm).1
    cases hr : sRiv T p with
    | none =>
      have := zfn_no hr m (Nat.zero_le _) (by omega)
      rw [getD_of hm] at this
      simp [hx] at this
    | some j =>
      obtain ⟨j1, j2, j3⟩ := zfn_some hr
      have hj := zget_D (l := sL T) (i := j) (by omega)
      refine ⟨j, _, rfl, ?_, hj, ?_⟩
      · by_cases hle : j ≤ m
        · exact hle
        · have := zfn_first hr m (Nat.zero_le _) (by omega)
          rw [getD_of hm] at this
          simp [hx] at this
      · simpa using j3
  rw [Bool.eq_iff_iff]
  unfold sSell
  rw [zfn_is]
  constructor
  · intro h
    unfold sSells at h
    cases hh : (sL (uPr T p v))[0]? with
    | none => rw [hh] at h; cases h
    | some x =>
      rw [hh] at h
      have hx : x / 12 = p := of_decide_eq_true h
      have hm := uPr_mem.mp (List.mem_of_getElem? hh)
      obtain ⟨i, hi⟩ := List.mem_iff_getElem?.mp hm
      have hlt := (List.getElem?_eq_some_iff.mp hi).1
      refine ⟨i, Nat.zero_le _, by omega, ?_⟩
      unfold sSellQ
      rw [getD_of hi, decide_eq_true hx, Bool.true_and]
      cases hr : sRiv T p with
      | none => rfl
      | some j =>
        obtain ⟨j1, j2, j3⟩ := zfn_some hr
        have hj := zget_D (l := sL T) (i := j) (by omega)
        have hy : ¬ (sL T).getD j 0 / 12 = p := by simpa using j3
        have hmj := uPr_mem (p := p) (v := v).mpr (List.mem_of_getElem? hj)
        obtain ⟨q, hq⟩ := List.mem_iff_getElem?.mp hmj
        have hq0 : 0 < q := by
          rcases Nat.eq_zero_or_pos q with e | e
          · rw [e, hh] at hq
            cases hq
            exact absurd hx hy
          · exact e
        have := SV 0 q _ _ hq0 hh hq
        rw [uPr_mix hx hy] at this
        exact this
  · rintro ⟨i, -, hi, hq⟩
    rw [Nat.zero_add] at hi
    have hgi := zget_D hi
    unfold sSellQ at hq
    generalize (sL T).getD i 0 = a at hq hgi
    simp only [Bool.and_eq_true, decide_eq_true_eq] at hq
    obtain ⟨ha, hq⟩ := hq
    have hma := List.mem_of_getElem? hgi
    have hmv := uPr_mem (p := p) (v := v).mpr hma
    obtain ⟨q, hqa⟩ := List.mem_iff_getElem?.mp hmv
    unfold sSells
    cases hh : (sL (uPr T p v))[0]? with
    | none =>
      rw [List.getElem?_eq_none_iff] at hh
      have := (List.getElem?_eq_some_iff.mp hqa).1
      omega
    | some x =>
      show decide (x / 12 = p) = true
      refine decide_eq_true (Decidable.byContradiction fun hx => ?_)
      have hmx := uPr_mem.mp (List.mem_of_getElem? hh)
      obtain ⟨m, hm⟩ := List.mem_iff_getElem?.mp hmx
      obtain ⟨j, y, r1, r2, r3, r4⟩ := riv m x hm hx
      rw [r1] at hq
      simp only [getD_of r3] at hq
      have hmy := List.mem_of_getElem? r3
      have hay : sBw (uPr T p v) a y = true := by rw [uPr_mix ha r4]; exact hq
      have hax : sBw (uPr T p v) a x = true := by
        by_cases e : j = m
        · rw [e, hm] at r3
          cases r3
          exact hay
        · have h2 := ST j m y x (by omega) r3 hm
          rw [← uPr_oth (v := v) r4 hx] at h2
          exact sBw_tr IV (m72 a hma) (m72 y hmy) (m72 x hmx) hay h2
      have hq0 : 0 < q := by
        rcases Nat.eq_zero_or_pos q with e | e
        · rw [e, hh] at hqa
          cases hqa
          exact absurd ha hx
        · exact e
      have h3 := SV 0 q x a hq0 hh hqa
      rw [sBw_asy IV (m72 a hma) (m72 x hmx) hax] at h3
      cases h3
theorem sWn_ok (I : zIv T) (hp : p < 6) (h99 : v ≤ 99) {r : Nat} (hr : r < 72) (hrp : r / 12 = p) : sWn T p (zi v) r &&& 0x7fffffff ≤ 0x7f800000 := by
  have := yok_g (yWo (zIv_price I hp h99) hr)
  have e := uPr_wo (T := T) (p := p) (v := v) (r := r)
  rw [if_pos hrp] at e
  rw [← e]
  exact this
end
section
variable {X : ZX} {D T : ZD2} {s : Nat → Int32} {O : ZO2} {k : Nat × Nat × Nat}
theorem m273 {p : Nat} (I : zIv T) (S : zRs D T) (R : zRd s T) (h : D 168 1 = zi 1) (hp : p < sNp T) : ∃ D', zFrS D D' ∧ D' 168 0 = zi 0 ∧ zev X 273 0 [.ref 168, .int (zi p), zJ, zJ, zJ, zJ] [] (zHP (zrow D 172 s) O, k) = some (.inl (some (.int (zo (zfn (fun v => !sSell T p (zi v)) 99 1)))), (zHP (zrow D' 172 s) O, k)) := by
  have n2 := zIv_np6 I
  have hp6 : p < 6 := by omega
  have S0 := zRs_th (c := 0) S
  have e223 := m223 (X := X) (s := s) (O := O) (k := k) I S h hp
  have e203 := @m203 X (zth D 0) s O k p 0 hp6 (by omega)
  rw [Nat.add_zero (10 + 6 * p)] at e203
  have back : ∀ x, zu (zu s (10 + 6 * p) x) (10 + 6 * p) (s (10 + 6 * p)) = s := fun x => by rw [zu_twice]; exact zu_same rfl
  have fin : ∀ (D : ZD2) x v (o : Option Nat) b, (99 < v ∨ ∃ q, o = some q ∧ q < 2147483648) → v < 2147483648 → zev X 273 22 [.ref 168, .int (zi p), .int (s (10 + 6 * p)), .int (zo o), .int (zi v), b] [] (zHP (zrow D 172 (zu s (10 + 6 * p) x)) O, k) = some (.inl (some (.int (zo o))), (zHP (zrow D 172 s) O, k)) := by
    intro D x v o b hc hv
    have e260 := @m260 X D (zu s (10 + 6 * p) x) O k p 0 (s (10 + 6 * p)) hp6 (by omega)
    rw [Nat.add_zero (10 + 6 * p), back] at e260
    refine b273_22.trans ?_
    by_cases h99 : 99 < v
    · simp (disch := first | assumption | omega) only [↓zn_l, zl_0, zl_1, zl_2, zl_3, zl_4, zl_5, zl_6, zl_7, zl_8, zl_9, zl_10, zl_11, zl_12, zl_13, zl_14, zl_15, zl_16, zl_17, zl_18, zl_19, zl_20, zl_21, zl_22, zl_23, zl_24, zl_25, zl_26, zl_27, zl_28, zl_29, zl_30, zl_31, zl_32, zl_36, zl_46, zl_48, zl_50, zl_57, zl_63, zl_64, zl_72, zl_97, zl_99, zl_100, zl_101, zl_122, zl_127, zl_200, zl_255, zl_406, zl_534, zl_540, zl_600, zl_9999, zl_33, zl_34, zl_35, zl_37, zl_38, zl_39, zl_40, zl_41, zl_42, zl_43, zl_44, zl_45, zl_47, zl_49, zl_52, zl_53, zl_54, zl_55, zl_58, zl_59, zl_60, zl_61, zl_62, zl_65, zl_70, zl_71, zl_98, zl_102, zl_103, zl_104, zl_105, zl_110, zl_111, zl_115, zl_120, zl_123, zl_126, zl_128, zl_256, zl_1000, zl_1024, zcon_inl, zcon_inr, Option.toList_some, Option.toList_none, List.cons_append, List.nil_append, List.append_nil, Nat.add_zero, zbind_some, zi_toNat, zi_lt, zi_inj, zi_add, zi_mul, zi_ne_zn, zn_ne_zi, zn_lt_zi, zi_lt_zn, Nat.not_lt_zero, false_or, if_true, if_false, true_or, or_false, Nat.reduceEqDiff, eq_self, h99, e260]
      exact b273_94
    · rcases hc with q | ⟨q, rfl, hq⟩
      · exact absurd q h99
      · simp (disch := first | assumption | omega) only [↓zn_l, zl_0, zl_1, zl_2, zl_3, zl_4, zl_5, zl_6, zl_7, zl_8, zl_9, zl_10, zl_11, zl_12, zl_13, zl_14, zl_15, zl_16, zl_17, zl_18, zl_19, zl_20, zl_21, zl_22, zl_23, zl_24, zl_25, zl_26, zl_27, zl_28, zl_29, zl_30, zl_31, zl_32, zl_36, zl_46, zl_48, zl_50, zl_57, zl_63, zl_64, zl_72, zl_97, zl_99, zl_100, zl_101, zl_122, zl_127, zl_200, zl_255, zl_406, zl_534, zl_540, zl_600, zl_9999, zl_33, zl_34, zl_35, zl_37, zl_38, zl_39, zl_40, zl_41, zl_42, zl_43, zl_44, zl_45, zl_47, zl_49, zl_52, zl_53, zl_54, zl_55, zl_58, zl_59, zl_60, zl_61, zl_62, zl_65, zl_70, zl_71, zl_98, zl_102, zl_103, zl_104, zl_105, zl_110, zl_111, zl_115, zl_120, zl_123, zl_126, zl_128, zl_256, zl_1000, zl_1024, zcon_inl, zcon_inr, Option.toList_some, Option.toList_none, List.cons_append, List.nil_append, List.append_nil, Nat.add_zero, zbind_some, zi_toNat, zi_lt, zi_inj, zi_add, zi_mul, zi_ne_zn, zn_ne_zi, zn_lt_zi, zi_lt_zn, Nat.not_lt_zero, false_or, if_true, if_false, true_or, or_false, Nat.reduceEqDiff, eq_self, h99, zo, zi_ne_zn, e260]
        exact b273_94
  have key : ∀ d v (D' : ZD2) x b, v + d = 100 → 1 ≤ v → zFrS (zth D 0) D' → D' 168 0 = zi 0 → ∃ D'', zFrS (zth D 0) D'' ∧ D'' 168 0 = zi 0 ∧ zev X 273 22 [.ref 168, .int (zi p), .int (s (10 + 6 * p)), .int zn, .int (zi v), b] [] (zHP (zrow D' 172 (zu s (10 + 6 * p) x)) O, k) = some (.inl (some (.int (zo (zfn (fun v => !sSell T p (zi v)) d v)))), (zHP (zrow D'' 172 s) O, k)) := by
    intro d
    induction d with
    | zero =>
      intro v D' x b hv h1 F t0
      exact ⟨D', F, t0, fin D' x v none b (Or.inl (by omega)) (by omega)⟩
    | succ d ih =>
      intro v D' x b hv h1 F t0
      have h99 : ¬ 99 < v := by omega
      have e260 := @m260 X D' (zu s (10 + 6 * p) x) O k p 0 (zi v) hp6 (by omega)
      rw [Nat.add_zero (10 + 6 * p), zu_twice] at e260
      have IV : zIv (uPr T p v) := zIv_price I hp6 (by omega)
      have RV : zRd (zu s (10 + 6 * p) (zi v)) (uPr T p v) := zRd_price R hp6 n2
      have SV : zRs D' (uPr T p v) := zRs_im (zRs_frS F S0) uPr_im n2
      obtain ⟨D2, q1, q2, q3, q4⟩ := m210 (X := X) (O := O) (k := k) IV SV RV (zIv_wok IV)
      have F2 : zFrS (zth D 0) D2 := zFrS_tr F (zFrS_M q2)
      have t2 : D2 168 0 = zi 0 := (q2.2 0 (by omega)).trans t0
      have hl := zsL_len IV
      have es := sSells_eq (v := v) I hp6 (by omega)
      have start : zev X 273 22 [.ref 168, .int (zi p), .int (s (10 + 6 * p)), .int zn, .int (zi v), b] [] (zHP (zrow D' 172 (zu s (10 + 6 * p) x)) O, k) = zev X 273 46 [.ref 168, .int (zi p), .int (s (10 + 6 * p)), .int zn, .int (zi v), b] [.int (zi (sL (uPr T p v)).length)] (zHP (zrow D2 172 (zu s (10 + 6 * p) (zi v))) O, k) := by
        refine b273_22.trans ?_
        simp (disch := first | assumption | omega) only [↓zn_l, zl_0, zl_1, zl_2, zl_3, zl_4, zl_5, zl_6, zl_7, zl_8, zl_9, zl_10, zl_11, zl_12, zl_13, zl_14, zl_15, zl_16, zl_17, zl_18, zl_19, zl_20, zl_21, zl_22, zl_23, zl_24, zl_25, zl_26, zl_27, zl_28, zl_29, zl_30, zl_31, zl_32, zl_36, zl_46, zl_48, zl_50, zl_57, zl_63, zl_64, zl_72, zl_97, zl_99, zl_100, zl_101, zl_122, zl_127, zl_200, zl_255, zl_406, zl_534, zl_540, zl_600, zl_9999, zl_33, zl_34, zl_35, zl_37, zl_38, zl_39, zl_40, zl_41, zl_42, zl_43, zl_44, zl_45, zl_47, zl_49, zl_52, zl_53, zl_54, zl_55, zl_58, zl_59, zl_60, zl_61, zl_62, zl_65, zl_70, zl_71, zl_98, zl_102, zl_103, zl_104, zl_105, zl_110, zl_111, zl_115, zl_120, zl_123, zl_126, zl_128, zl_256, zl_1000, zl_1024, zcon_inl, zcon_inr, Option.toList_some, Option.toList_none, List.cons_append, List.nil_append, List.append_nil, Nat.add_zero, zbind_some, zi_toNat, zi_lt, zi_inj, zi_add, zi_mul, zi_ne_zn, zn_ne_zi, zn_lt_zi, zi_lt_zn, Nat.not_lt_zero, false_or, if_true, if_false, true_or, or_false, Nat.reduceEqDiff, eq_self, h99, e260]
        refine b273_42.trans ?_
        rw [q1, zcon_inl]
        rfl
      have go : ∃ b', zev X 273 46 [.ref 168, .int (zi p), .int (s (10 + 6 * p)), .int zn, .int (zi v), b] [.int (zi (sL (uPr T p v)).length)] (zHP (zrow D2 172 (zu s (10 + 6 * p) (zi v))) O, k) = zev X 273 22 [.ref 168, .int (zi p), .int (s (10 + 6 * p)), .int (if sSell T p (zi v) then zn else zi v), .int (zi (v + 1)), b'] [] (zHP (zrow D2 172 (zu s (10 + 6 * p) (zi v))) O, k) := by
        rw [← es]
        unfold sSells
        cases hh : (sL (uPr T p v))[0]? with
        | none =>
          have h0 := List.getElem?_eq_none_iff.mp hh
          have h00 : ¬ 0 < (sL (uPr T p v)).length := by omega
          refine ⟨.int (zi 0), b273_46.trans ?_⟩
          simp (disch := first | assumption | omega) only [↓zn_l, zl_0, zl_1, zl_2, zl_3, zl_4, zl_5, zl_6, zl_7, zl_8, zl_9, zl_10, zl_11, zl_12, zl_13, zl_14, zl_15, zl_16, zl_17, zl_18, zl_19, zl_20, zl_21, zl_22, zl_23, zl_24, zl_25, zl_26, zl_27, zl_28, zl_29, zl_30, zl_31, zl_32, zl_36, zl_46, zl_48, zl_50, zl_57, zl_63, zl_64, zl_72, zl_97, zl_99, zl_100, zl_101, zl_122, zl_127, zl_200, zl_255, zl_406, zl_534, zl_540, zl_600, zl_9999, zl_33, zl_34, zl_35, zl_37, zl_38, zl_39, zl_40, zl_41, zl_42, zl_43, zl_44, zl_45, zl_47, zl_49, zl_52, zl_53, zl_54, zl_55, zl_58, zl_59, zl_60, zl_61, zl_62, zl_65, zl_70, zl_71, zl_98, zl_102, zl_103, zl_104, zl_105, zl_110, zl_111, zl_115, zl_120, zl_123, zl_126, zl_128, zl_256, zl_1000, zl_1024, zcon_inl, zcon_inr, Option.toList_some, Option.toList_none, List.cons_append, List.nil_append, List.append_nil, Nat.add_zero, zbind_some, zi_toNat, zi_lt, zi_inj, zi_add, zi_mul, zi_ne_zn, zn_ne_zi, zn_lt_zi, zi_lt_zn, Nat.not_lt_zero, false_or, if_true, if_false, true_or, or_false, Nat.reduceEqDiff, eq_self, h00, Bool.false_eq_true]
        | some x =>
          have h00 : 0 < (sL (uPr T p v)).length := (List.getElem?_eq_some_iff.mp hh).1
          have ex := q3.2 0 x hh
          have hx72 := (q4 x (List.mem_of_getElem? hh)).1
          have h720 : ¬ 72 ≤ 0 := by omega
          by_cases hx : x / 12 = p
          · refine ⟨.int (zi 1), b273_46.trans ?_⟩
            simp (disch := first | assumption | omega) only [↓zn_l, zl_0, zl_1, zl_2, zl_3, zl_4, zl_5, zl_6, zl_7, zl_8, zl_9, zl_10, zl_11, zl_12, zl_13, zl_14, zl_15, zl_16, zl_17, zl_18, zl_19, zl_20, zl_21, zl_22, zl_23, zl_24, zl_25, zl_26, zl_27, zl_28, zl_29, zl_30, zl_31, zl_32, zl_36, zl_46, zl_48, zl_50, zl_57, zl_63, zl_64, zl_72, zl_97, zl_99, zl_100, zl_101, zl_122, zl_127, zl_200, zl_255, zl_406, zl_534, zl_540, zl_600, zl_9999, zl_33, zl_34, zl_35, zl_37, zl_38, zl_39, zl_40, zl_41, zl_42, zl_43, zl_44, zl_45, zl_47, zl_49, zl_52, zl_53, zl_54, zl_55, zl_58, zl_59, zl_60, zl_61, zl_62, zl_65, zl_70, zl_71, zl_98, zl_102, zl_103, zl_104, zl_105, zl_110, zl_111, zl_115, zl_120, zl_123, zl_126, zl_128, zl_256, zl_1000, zl_1024, zcon_inl, zcon_inr, Option.toList_some, Option.toList_none, List.cons_append, List.nil_append, List.append_nil, Nat.add_zero, zbind_some, zi_toNat, zi_lt, zi_inj, zi_add, zi_mul, zi_ne_zn, zn_ne_zi, zn_lt_zi, zi_lt_zn, Nat.not_lt_zero, false_or, if_true, if_false, true_or, or_false, Nat.reduceEqDiff, eq_self, h00, h720, e181s, ex, zi_div, hx, decide_true]
          · refine ⟨.int (zi 0), b273_46.trans ?_⟩
            simp (disch := first | assumption | omega) only [↓zn_l, zl_0, zl_1, zl_2, zl_3, zl_4, zl_5, zl_6, zl_7, zl_8, zl_9, zl_10, zl_11, zl_12, zl_13, zl_14, zl_15, zl_16, zl_17, zl_18, zl_19, zl_20, zl_21, zl_22, zl_23, zl_24, zl_25, zl_26, zl_27, zl_28, zl_29, zl_30, zl_31, zl_32, zl_36, zl_46, zl_48, zl_50, zl_57, zl_63, zl_64, zl_72, zl_97, zl_99, zl_100, zl_101, zl_122, zl_127, zl_200, zl_255, zl_406, zl_534, zl_540, zl_600, zl_9999, zl_33, zl_34, zl_35, zl_37, zl_38, zl_39, zl_40, zl_41, zl_42, zl_43, zl_44, zl_45, zl_47, zl_49, zl_52, zl_53, zl_54, zl_55, zl_58, zl_59, zl_60, zl_61, zl_62, zl_65, zl_70, zl_71, zl_98, zl_102, zl_103, zl_104, zl_105, zl_110, zl_111, zl_115, zl_120, zl_123, zl_126, zl_128, zl_256, zl_1000, zl_1024, zcon_inl, zcon_inr, Option.toList_some, Option.toList_none, List.cons_append, List.nil_append, List.append_nil, Nat.add_zero, zbind_some, zi_toNat, zi_lt, zi_inj, zi_add, zi_mul, zi_ne_zn, zn_ne_zi, zn_lt_zi, zi_lt_zn, Nat.not_lt_zero, false_or, if_true, if_false, true_or, or_false, Nat.reduceEqDiff, eq_self, h00, h720, e181s, ex, zi_div, hx, decide_false, Bool.false_eq_true]
      obtain ⟨b', eg⟩ := go
      rw [start, eg, zfn]
      cases hs : sSell T p (zi v)
      · rw [if_neg (by simp), if_pos (by simp)]
        exact ⟨D2, F2, t2, fin D2 (zi v) (v + 1) (some v) b' (Or.inr ⟨v, rfl, by omega⟩) (by omega)⟩
      · rw [if_pos rfl, if_neg (by simp)]
        exact ih (v + 1) D2 (zi v) b' (by omega) (by omega) F2 t2
  obtain ⟨D', F, t, e⟩ := key 99 1 (zth D 0) (s (10 + 6 * p)) zJ (by omega) (by omega) zFrS_rfl (zth_0 _ _)
  rw [zu_same rfl] at e
  refine ⟨D', zFrS_tr zFrS_th F, t, ?_⟩
  simp (disch := first | assumption | omega) only [b273_0, e223, b273_5, ↓zn_l, zl_0, zl_1, zl_2, zl_3, zl_4, zl_5, zl_6, zl_7, zl_8, zl_9, zl_10, zl_11, zl_12, zl_13, zl_14, zl_15, zl_16, zl_17, zl_18, zl_19, zl_20, zl_21, zl_22, zl_23, zl_24, zl_25, zl_26, zl_27, zl_28, zl_29, zl_30, zl_31, zl_32, zl_36, zl_46, zl_48, zl_50, zl_57, zl_63, zl_64, zl_72, zl_97, zl_99, zl_100, zl_101, zl_122, zl_127, zl_200, zl_255, zl_406, zl_534, zl_540, zl_600, zl_9999, zl_33, zl_34, zl_35, zl_37, zl_38, zl_39, zl_40, zl_41, zl_42, zl_43, zl_44, zl_45, zl_47, zl_49, zl_52, zl_53, zl_54, zl_55, zl_58, zl_59, zl_60, zl_61, zl_62, zl_65, zl_70, zl_71, zl_98, zl_102, zl_103, zl_104, zl_105, zl_110, zl_111, zl_115, zl_120, zl_123, zl_126, zl_128, zl_256, zl_1000, zl_1024, zcon_inl, zcon_inr, Option.toList_some, Option.toList_none, List.cons_append, List.nil_append, List.append_nil, Nat.add_zero, zbind_some, zi_toNat, zi_lt, zi_inj, zi_add, zi_mul, zi_ne_zn, zn_ne_zi, zn_lt_zi, zi_lt_zn, Nat.not_lt_zero, false_or, if_true, if_false, true_or, or_false, Nat.reduceEqDiff, eq_self, e203]
  refine b273_16.trans ?_
  rw [zn_l, zl_1]
  exact e
theorem m273n1 {a : Int32} (h : D 168 1 = zi 0) : zev X 273 0 [.ref 168, .int a, zJ, zJ, zJ, zJ] [] (zHP (zrow D 172 s) O, k) = some (.inl (some (.int (zi 0))), (zHP (zrow (zth D 1) 172 s) O, k)) := by
  have e := m223n1 (X := X) (s := s) (O := O) (k := k) (a := a) h
  simp (disch := first | assumption | omega) only [b273_0, b273_5, ↓zn_l, zl_0, zl_1, zl_2, zl_3, zl_4, zl_5, zl_6, zl_7, zl_8, zl_9, zl_10, zl_11, zl_12, zl_13, zl_14, zl_15, zl_16, zl_17, zl_18, zl_19, zl_20, zl_21, zl_22, zl_23, zl_24, zl_25, zl_26, zl_27, zl_28, zl_29, zl_30, zl_31, zl_32, zl_36, zl_46, zl_48, zl_50, zl_57, zl_63, zl_64, zl_72, zl_97, zl_99, zl_100, zl_101, zl_122, zl_127, zl_200, zl_255, zl_406, zl_534, zl_540, zl_600, zl_9999, zl_33, zl_34, zl_35, zl_37, zl_38, zl_39, zl_40, zl_41, zl_42, zl_43, zl_44, zl_45, zl_47, zl_49, zl_52, zl_53, zl_54, zl_55, zl_58, zl_59, zl_60, zl_61, zl_62, zl_65, zl_70, zl_71, zl_98, zl_102, zl_103, zl_104, zl_105, zl_110, zl_111, zl_115, zl_120, zl_123, zl_126, zl_128, zl_256, zl_1000, zl_1024, zcon_inl, zcon_inr, Option.toList_some, Option.toList_none, List.cons_append, List.nil_append, List.append_nil, Nat.add_zero, zbind_some, zi_toNat, zi_lt, zi_inj, zi_add, zi_mul, zi_ne_zn, zn_ne_zi, zn_lt_zi, zi_lt_zn, Nat.not_lt_zero, false_or, if_true, if_false, true_or, or_false, Nat.reduceEqDiff, eq_self, e]
theorem m273n2 {a : Int32} (I : zIv T) (S : zRs D T) (h : D 168 1 = zi 1) (ha : a < zi 0 ∨ ¬ a < zi (sNp T)) : zev X 273 0 [.ref 168, .int a, zJ, zJ, zJ, zJ] [] (zHP (zrow D 172 s) O, k) = some (.inl (some (.int (zi 0))), (zHP (zrow (zth D 2) 172 s) O, k)) := by
  have e := m223n2 (X := X) (s := s) (O := O) (k := k) I S h ha
  simp (disch := first | assumption | omega) only [b273_0, b273_5, ↓zn_l, zl_0, zl_1, zl_2, zl_3, zl_4, zl_5, zl_6, zl_7, zl_8, zl_9, zl_10, zl_11, zl_12, zl_13, zl_14, zl_15, zl_16, zl_17, zl_18, zl_19, zl_20, zl_21, zl_22, zl_23, zl_24, zl_25, zl_26, zl_27, zl_28, zl_29, zl_30, zl_31, zl_32, zl_36, zl_46, zl_48, zl_50, zl_57, zl_63, zl_64, zl_72, zl_97, zl_99, zl_100, zl_101, zl_122, zl_127, zl_200, zl_255, zl_406, zl_534, zl_540, zl_600, zl_9999, zl_33, zl_34, zl_35, zl_37, zl_38, zl_39, zl_40, zl_41, zl_42, zl_43, zl_44, zl_45, zl_47, zl_49, zl_52, zl_53, zl_54, zl_55, zl_58, zl_59, zl_60, zl_61, zl_62, zl_65, zl_70, zl_71, zl_98, zl_102, zl_103, zl_104, zl_105, zl_110, zl_111, zl_115, zl_120, zl_123, zl_126, zl_128, zl_256, zl_1000, zl_1024, zcon_inl, zcon_inr, Option.toList_some, Option.toList_none, List.cons_append, List.nil_append, List.append_nil, Nat.add_zero, zbind_some, zi_toNat, zi_lt, zi_inj, zi_add, zi_mul, zi_ne_zn, zn_ne_zi, zn_lt_zi, zi_lt_zn, Nat.not_lt_zero, false_or, if_true, if_false, true_or, or_false, Nat.reduceEqDiff, eq_self, e]
end
