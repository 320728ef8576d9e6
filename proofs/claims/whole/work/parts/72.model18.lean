/-! The model: prices that step, sharers, the least price. -/
section
variable {T : ZD2}
/-- the least price above a, of those in W -/
def zLs (T : ZD2) (W : Nat → Prop) (a b : Int32) : Prop := (b = zn ∧ ∀ r, W r → ¬ a < sPrice T r) ∨ ∃ r, W r ∧ a < sPrice T r ∧ b = sPrice T r ∧ ∀ q, W q → a < sPrice T q → ¬ sPrice T q < b
theorem zLs_add {W W' : Nat → Prop} {a b : Int32} {x : Nat} (I : zIv T) (hW : ∀ r, W' r ↔ W r ∨ r = x) (hW72 : ∀ r, W' r → r < 72) (h : zLs T W a b) : zLs T W' a (if a < sPrice T x ∧ (b = zn ∨ sPrice T x < b) then sPrice T x else b) := by
  have hx : x < 72 := hW72 x ((hW x).mpr (Or.inr rfl))
  have irr : ∀ y : Int32, ¬ y < y := fun y q => by have := Int32.lt_iff_toInt_lt.mp q; omega
  rcases h with ⟨h1, h2⟩ | ⟨r, h1, h2, h3, h4⟩
  · by_cases hc : a < sPrice T x
    · rw [if_pos ⟨hc, Or.inl h1⟩]
      refine Or.inr ⟨x, (hW x).mpr (Or.inr rfl), hc, rfl, fun q hq ha => ?_⟩
      rcases (hW q).mp hq with e | e
      · exact absurd ha (h2 q e)
      · rw [e]; exact irr _
    · rw [if_neg (fun q => hc q.1)]
      refine Or.inl ⟨h1, fun q hq => ?_⟩
      rcases (hW q).mp hq with e | e
      · exact h2 q e
      · rw [e]; exact hc
  · have hr : r < 72 := hW72 r ((hW r).mpr (Or.inl h1))
    by_cases hc : a < sPrice T x ∧ (b = zn ∨ sPrice T x < b)
    · rw [if_pos hc]
      refine Or.inr ⟨x, (hW x).mpr (Or.inr rfl), hc.1, rfl, fun q hq ha => ?_⟩
      rcases (hW q).mp hq with e | e
      · intro hlt
        have h5 := h4 q e ha
        rcases hc.2 with e2 | e2
        · obtain ⟨pr, e3, h6⟩ := yprice I hr
          rw [h3, e3] at e2
          rw [zi_ne_zn (by omega)] at e2
          exact e2
        · have a1 := Int32.lt_iff_toInt_lt.mp hlt
          have a2 := Int32.lt_iff_toInt_lt.mp e2
          exact h5 (Int32.lt_iff_toInt_lt.mpr (by omega))
      · rw [e]; exact irr _
    · rw [if_neg hc]
      refine Or.inr ⟨r, (hW r).mpr (Or.inl h1), h2, h3, fun q hq ha => ?_⟩
      rcases (hW q).mp hq with e | e
      · exact h4 q e ha
      · rw [e] at ha ⊢
        exact fun hlt => hc ⟨ha, Or.inr hlt⟩
theorem zLs_skip {W W' : Nat → Prop} {a b : Int32} (hW : ∀ r, W' r ↔ W r) (h : zLs T W a b) : zLs T W' a b := by
  rcases h with ⟨h1, h2⟩ | ⟨r, h1, h2, h3, h4⟩
  · exact Or.inl ⟨h1, fun q hq => h2 q ((hW q).mp hq)⟩
  · exact Or.inr ⟨r, (hW r).mpr h1, h2, h3, fun q hq => h4 q ((hW q).mp hq)⟩
theorem zLs_uniq {W W' : Nat → Prop} {a b b' : Int32} (I : zIv T) (hW : ∀ r, W' r ↔ W r) (hW72 : ∀ r, W r → r < 72) (h : zLs T W a b) (h' : zLs T W' a b') : b = b' := by
  rcases h with ⟨h1, h2⟩ | ⟨r, h1, h2, h3, h4⟩
  · rcases h' with ⟨g1, g2⟩ | ⟨q, g1, g2, g3, g4⟩
    · rw [h1, g1]
    · exact absurd g2 (h2 q ((hW q).mp g1))
  · rcases h' with ⟨g1, g2⟩ | ⟨q, g1, g2, g3, g4⟩
    · exact absurd h2 (g2 r ((hW r).mpr h1))
    · have a1 := h4 q ((hW q).mp g1) g2
      have a2 := g4 r ((hW r).mpr h1) h2
      rw [← g3] at a1
      rw [← h3] at a2
      apply Int32.toInt.inj
      have b1 : ¬ b'.toInt < b.toInt := fun q => a1 (Int32.lt_iff_toInt_lt.mpr q)
      have b2 : ¬ b.toInt < b'.toInt := fun q => a2 (Int32.lt_iff_toInt_lt.mpr q)
      omega
theorem zLs_class (I : zIv T) (a : Int32) : ∀ d i b, i + d ≤ 72 → zLs T (fun r => r < i ∧ sOff T r (T 1 5) = true) a b → zLs T (fun r => r < i + d ∧ sOff T r (T 1 5) = true) a (zfo (sStepF T a) d i b)
  | 0, i, b, _, h => h
  | d + 1, i, b, hd, h => by
    rw [zfo, show i + (d + 1) = i + 1 + d by omega]
    refine zLs_class I a d (i + 1) _ (by omega) ?_
    unfold sStepF
    cases ho : sOff T i (T 1 5)
    · rw [Bool.and_false, if_neg (by simp)]
      refine zLs_skip (fun r => ⟨fun ⟨h1, h2⟩ => ⟨?_, h2⟩, fun ⟨h1, h2⟩ => ⟨by omega, h2⟩⟩) h
      by_cases e : r = i
      · rw [e, ho] at h2; cases h2
      · omega
    · rw [Bool.and_true]
      have := zLs_add (W' := fun r => r < i + 1 ∧ sOff T r (T 1 5) = true) (x := i) I (fun r => ⟨fun ⟨h1, h2⟩ => by
        by_cases e : r = i
        · exact Or.inr e
        · exact Or.inl ⟨by omega, h2⟩, fun q => by
        rcases q with ⟨h1, h2⟩ | e
        · exact ⟨by omega, h2⟩
        · rw [e]; exact ⟨by omega, ho⟩⟩) (fun r hr => by omega) h
      have ec : (if (decide (a < sPrice T i) && (decide (b = zn) || decide (sPrice T i < b))) = true then sPrice T i else b) = if a < sPrice T i ∧ (b = zn ∨ sPrice T i < b) then sPrice T i else b := zif_congr (by simp)
      rw [ec]
      exact this
/-- the model's step -/
def sStepM (T : ZD2) (a : Int32) (l : List Nat) (i : Nat) (b : Int32) : Int32 := if a < sPrice T (l.getD i 0) ∧ (b = zn ∨ sPrice T (l.getD i 0) < b) then sPrice T (l.getD i 0) else b
theorem zLs_model (I : zIv T) (a : Int32) : ∀ d i b, i + d ≤ (sL T).length → zLs T (fun r => ∃ j, j < i ∧ (sL T).getD j 0 = r) a b → zLs T (fun r => ∃ j, j < i + d ∧ (sL T).getD j 0 = r) a (zfo (sStepM T a (sL T)) d i b)
  | 0, i, b, _, h => h
  | d + 1, i, b, hd, h => by
    rw [zfo, show i + (d + 1) = i + 1 + d by omega]
    refine zLs_model I a d (i + 1) _ (by omega) ?_
    unfold sStepM
    refine zLs_add (x := (sL T).getD i 0) I (fun r => ⟨fun ⟨j, h1, h2⟩ => ?_, fun q => ?_⟩) (fun r ⟨j, h1, h2⟩ => by rw [← h2]; exact (sL_in (T := T) sL_all (by omega)).1) h
    · by_cases e : j = i
      · right; rw [← h2, e]
      · exact Or.inl ⟨j, by omega, h2⟩
    · rcases q with ⟨j, h1, h2⟩ | e
      · exact ⟨j, by omega, h2⟩
      · exact ⟨i, by omega, e.symm⟩
theorem sStep_eq (I : zIv T) (a : Int32) : zfo (sStepF T a) 72 0 zn = zfo (sStepM T a (sL T)) (sL T).length 0 zn := by
  have h1 := zLs_class I a 72 0 zn (by omega) (Or.inl ⟨rfl, fun r h => by omega⟩)
  have h2 := zLs_model I a (sL T).length 0 zn (by omega) (Or.inl ⟨rfl, fun r ⟨j, h, _⟩ => by omega⟩)
  rw [Nat.zero_add] at h1 h2
  refine zLs_uniq I (fun r => ?_) (fun r hr => hr.1) h1 h2
  have hm := sL_iff (T := T) (x := r)
  constructor
  · rintro ⟨j, h3, h4⟩
    rw [← h4]
    exact sL_iff.mp (List.mem_of_getElem? (zget_D h3))
  · intro h
    obtain ⟨j, hj⟩ := List.mem_iff_getElem?.mp (hm.mpr h)
    have hlt := (List.getElem?_eq_some_iff.mp hj).1
    refine ⟨j, hlt, ?_⟩
    rw [List.getD_eq_getElem?_getD, hj]
    rfl
/-- a fold over programs and pages is one over rows -/
theorem znestF {α : Type} {f : Nat → α → α} {pg : Nat → Nat} {np : Nat} (hn : np ≤ 6) (hp : ∀ p, p < 6 → pg p ≤ 12) (h : ∀ p g a, p < 6 → g < 12 → (np ≤ p ∨ pg p ≤ g) → f (12 * p + g) a = a) (a : α) : zfo (fun p a => zfo (fun g a => f (12 * p + g) a) (pg p) 0 a) np 0 a = zfo f 72 0 a := by
  have e1 : ∀ p a, p < 6 → zfo (fun g a => f (12 * p + g) a) (pg p) 0 a = zfo f 12 (12 * p) a := by
    intro p a h6
    have hp12 := hp p h6
    have e := zfo_pad (f := fun g a => f (12 * p + g) a) (d := pg p) (e := 12 - pg p) (i := 0) (a := a) (fun j b h1 h2 => h p j b h6 (by omega) (Or.inr (by omega)))
    rw [show pg p + (12 - pg p) = 12 by omega] at e
    rw [← e, zfo_shift (f := fun g a => f (12 * p + g) a) (g := f) (s := 12 * p) (fun j a => rfl) 12 0 a]
    rfl
  have e2 : zfo (fun p a => zfo (fun g a => f (12 * p + g) a) (pg p) 0 a) np 0 a = zfo (fun p a => zfo f 12 (12 * p) a) np 0 a := zfo_congr np 0 a fun p c _ h2 => e1 p c (by omega)
  have e3 : zfo (fun p a => zfo f 12 (12 * p) a) 6 0 a = zfo (fun p a => zfo f 12 (12 * p) a) np 0 a := by
    have := zfo_pad (f := fun p a => zfo f 12 (12 * p) a) (d := np) (e := 6 - np) (i := 0) (a := a) (fun p c h1 h2 => by
      rw [← e1 p c (by omega)]
      exact zfo_id _ _ _ fun j b h3 h4 => by
        have hpp := hp p (by omega)
        exact h p j b (by omega) (by omega) (Or.inl (by omega)))
    rwa [show np + (6 - np) = 6 by omega] at this
  rw [e2, ← e3]
  have e4 : ∀ a b i c, zfo f (a + b) i c = zfo f b (i + a) (zfo f a i c) := fun a b i c => zfo_add _ a b i c
  show zfo f 12 60 (zfo f 12 48 (zfo f 12 36 (zfo f 12 24 (zfo f 12 12 (zfo f 12 0 a))))) = _
  rw [show (72 : Nat) = 12 + (12 + (12 + (12 + (12 + 12)))) from rfl, e4, e4, e4, e4, e4]
end
section
variable {X : ZX} {D T : ZD2} {s : Nat → Int32} {O : ZO2} {k : Nat × Nat × Nat}
theorem m241 {a : Int32} (I : zIv T) (S : zRs D T) (R : zRd s T) (h : D 168 1 = zi 1) (h1 : ¬ a < zi 0) (h2 : ¬ zi 200 < a) : ∃ D', zFrS D D' ∧ D' 168 0 = zi 0 ∧ zev X 241 0 [.ref 168, .int a, zJ, zJ, zJ] [] (zHP (zrow D 172 s) O, k) = some (.inl (some (.int (zfo (sStepF T a) 72 0 zn))), (zHP (zrow D' 172 s) O, k)) := by
  have hl := zsL_len I
  have S0 := zRs_th (c := 0) S
  obtain ⟨D', q1, q2, q3, q4⟩ := m211 (X := X) (O := O) (k := k) I S0 R (zIv_wok I)
  have e199 := m199 (X := X) (s := s) (O := O) (k := k) h
  have e175 := m175p (X := X) (D := zrow (zth D 0) 172 s) (O := O) (k := k) h1 h2
  refine ⟨D', zFrS_tr zFrS_th (zFrS_M q2), (q2.2 0 (by omega)).trans (zth_0 _ _), ?_⟩
  rw [sStep_eq I]
  simp (disch := first | assumption | omega) only [b241_0, e199, b241_4, e175, b241_16, m176f0, b241_28, ↓zn_l, zl_0, zl_1, zl_2, zl_3, zl_4, zl_5, zl_6, zl_7, zl_8, zl_9, zl_10, zl_11, zl_12, zl_13, zl_14, zl_15, zl_16, zl_17, zl_18, zl_19, zl_20, zl_21, zl_22, zl_23, zl_24, zl_25, zl_26, zl_27, zl_28, zl_29, zl_30, zl_31, zl_32, zl_36, zl_46, zl_48, zl_50, zl_57, zl_63, zl_64, zl_72, zl_97, zl_99, zl_100, zl_101, zl_122, zl_127, zl_200, zl_255, zl_406, zl_534, zl_540, zl_600, zl_9999, zl_33, zl_34, zl_35, zl_37, zl_38, zl_39, zl_40, zl_41, zl_42, zl_43, zl_44, zl_45, zl_47, zl_49, zl_52, zl_53, zl_54, zl_55, zl_58, zl_59, zl_60, zl_61, zl_62, zl_65, zl_70, zl_71, zl_98, zl_102, zl_103, zl_104, zl_105, zl_110, zl_111, zl_115, zl_120, zl_123, zl_126, zl_128, zl_256, zl_1000, zl_1024, zcon_inl, zcon_inr, Option.toList_some, Option.toList_none, List.cons_append, List.nil_append, List.append_nil, Nat.add_zero, zbind_some, zi_toNat, zi_lt, zi_inj, zi_add, zi_mul, zi_ne_zn, zn_ne_zi, zn_lt_zi, zi_lt_zn, Nat.not_lt_zero, false_or, if_true, if_false, true_or, or_false, Nat.reduceEqDiff, eq_self, q1]
  refine b241_37.trans ?_
  simp only [↓zn_l, zl_0, zl_1, zl_2, zl_3, zl_4, zl_5, zl_6, zl_7, zl_8, zl_9, zl_10, zl_11, zl_12, zl_13, zl_14, zl_15, zl_16, zl_17, zl_18, zl_19, zl_20, zl_21, zl_22, zl_23, zl_24, zl_25, zl_26, zl_27, zl_28, zl_29, zl_30, zl_31, zl_32, zl_36, zl_46, zl_48, zl_50, zl_57, zl_63, zl_64, zl_72, zl_97, zl_99, zl_100, zl_101, zl_122, zl_127, zl_200, zl_255, zl_406, zl_534, zl_540, zl_600, zl_9999, zl_33, zl_34, zl_35, zl_37, zl_38, zl_39, zl_40, zl_41, zl_42, zl_43, zl_44, zl_45, zl_47, zl_49, zl_52, zl_53, zl_54, zl_55, zl_58, zl_59, zl_60, zl_61, zl_62, zl_65, zl_70, zl_71, zl_98, zl_102, zl_103, zl_104, zl_105, zl_110, zl_111, zl_115, zl_120, zl_123, zl_126, zl_128, zl_256, zl_1000, zl_1024]
  refine (zloopG (β := Value) (ok := fun v => v.category = 1) (P := fun i (b : Int32) v => zev X 241 41 [.ref 168, .int a, .int b, .int (zi i), v] [] (zHP (zrow D' 172 s) O, k)) (Q := fun b => some (.inl (some (.int b)), (zHP (zrow D' 172 s) O, k))) (f := sStepM T a (sL T)) (n := (sL T).length) (J := fun _ _ => True) ?_ ?_ (sL T).length 0 zn zJ (by omega) trivial rfl).1
  · intro i b v hi _ hv
    obtain ⟨r1, r2⟩ := sL_in (T := T) sL_all hi
    have e1 := zML_at q3 hi
    have e218 := m218r (X := X) (D := D') (O := O) (k := k) I R r1 r2
    refine ⟨.int (sPrice T ((sL T).getD i 0)), rfl, ?_, trivial⟩
    unfold sStepM
    generalize (sL T).getD i 0 = r at *
    have hle : r / 12 * 12 ≤ r := Nat.div_mul_le_self r 12
    have h72 : ¬ 72 ≤ i := by omega
    refine b241_41.trans ?_
    simp (disch := first | assumption | omega) only [↓zn_l, zl_0, zl_1, zl_2, zl_3, zl_4, zl_5, zl_6, zl_7, zl_8, zl_9, zl_10, zl_11, zl_12, zl_13, zl_14, zl_15, zl_16, zl_17, zl_18, zl_19, zl_20, zl_21, zl_22, zl_23, zl_24, zl_25, zl_26, zl_27, zl_28, zl_29, zl_30, zl_31, zl_32, zl_36, zl_46, zl_48, zl_50, zl_57, zl_63, zl_64, zl_72, zl_97, zl_99, zl_100, zl_101, zl_122, zl_127, zl_200, zl_255, zl_406, zl_534, zl_540, zl_600, zl_9999, zl_33, zl_34, zl_35, zl_37, zl_38, zl_39, zl_40, zl_41, zl_42, zl_43, zl_44, zl_45, zl_47, zl_49, zl_52, zl_53, zl_54, zl_55, zl_58, zl_59, zl_60, zl_61, zl_62, zl_65, zl_70, zl_71, zl_98, zl_102, zl_103, zl_104, zl_105, zl_110, zl_111, zl_115, zl_120, zl_123, zl_126, zl_128, zl_256, zl_1000, zl_1024, zcon_inl, zcon_inr, Option.toList_some, Option.toList_none, List.cons_append, List.nil_append, List.append_nil, Nat.add_zero, zbind_some, zi_toNat, zi_lt, zi_inj, zi_add, zi_mul, zi_ne_zn, zn_ne_zi, zn_lt_zi, zi_lt_zn, Nat.not_lt_zero, false_or, if_true, if_false, true_or, or_false, Nat.reduceEqDiff, eq_self, e168s, q3.1, hi, h72, e181s, e1, zi_div, zi_sub, e218]
    refine b241_71.trans ?_
    by_cases c1 : a < sPrice T r
    · by_cases c2 : b = zn
      · simp only [↓zn_l, zl_0, zl_1, zl_2, zl_3, zl_4, zl_5, zl_6, zl_7, zl_8, zl_9, zl_10, zl_11, zl_12, zl_13, zl_14, zl_15, zl_16, zl_17, zl_18, zl_19, zl_20, zl_21, zl_22, zl_23, zl_24, zl_25, zl_26, zl_27, zl_28, zl_29, zl_30, zl_31, zl_32, zl_36, zl_46, zl_48, zl_50, zl_57, zl_63, zl_64, zl_72, zl_97, zl_99, zl_100, zl_101, zl_122, zl_127, zl_200, zl_255, zl_406, zl_534, zl_540, zl_600, zl_9999, zl_33, zl_34, zl_35, zl_37, zl_38, zl_39, zl_40, zl_41, zl_42, zl_43, zl_44, zl_45, zl_47, zl_49, zl_52, zl_53, zl_54, zl_55, zl_58, zl_59, zl_60, zl_61, zl_62, zl_65, zl_70, zl_71, zl_98, zl_102, zl_103, zl_104, zl_105, zl_110, zl_111, zl_115, zl_120, zl_123, zl_126, zl_128, zl_256, zl_1000, zl_1024, c1, c2, if_true, zi_add, true_and, true_or]
      · by_cases c3 : sPrice T r < b <;> simp only [↓zn_l, zl_0, zl_1, zl_2, zl_3, zl_4, zl_5, zl_6, zl_7, zl_8, zl_9, zl_10, zl_11, zl_12, zl_13, zl_14, zl_15, zl_16, zl_17, zl_18, zl_19, zl_20, zl_21, zl_22, zl_23, zl_24, zl_25, zl_26, zl_27, zl_28, zl_29, zl_30, zl_31, zl_32, zl_36, zl_46, zl_48, zl_50, zl_57, zl_63, zl_64, zl_72, zl_97, zl_99, zl_100, zl_101, zl_122, zl_127, zl_200, zl_255, zl_406, zl_534, zl_540, zl_600, zl_9999, zl_33, zl_34, zl_35, zl_37, zl_38, zl_39, zl_40, zl_41, zl_42, zl_43, zl_44, zl_45, zl_47, zl_49, zl_52, zl_53, zl_54, zl_55, zl_58, zl_59, zl_60, zl_61, zl_62, zl_65, zl_70, zl_71, zl_98, zl_102, zl_103, zl_104, zl_105, zl_110, zl_111, zl_115, zl_120, zl_123, zl_126, zl_128, zl_256, zl_1000, zl_1024, c1, c2, c3, if_true, if_false, zi_add, true_and, false_or]
    · simp only [↓zn_l, zl_0, zl_1, zl_2, zl_3, zl_4, zl_5, zl_6, zl_7, zl_8, zl_9, zl_10, zl_11, zl_12, zl_13, zl_14, zl_15, zl_16, zl_17, zl_18, zl_19, zl_20, zl_21, zl_22, zl_23, zl_24, zl_25, zl_26, zl_27, zl_28, zl_29, zl_30, zl_31, zl_32, zl_36, zl_46, zl_48, zl_50, zl_57, zl_63, zl_64, zl_72, zl_97, zl_99, zl_100, zl_101, zl_122, zl_127, zl_200, zl_255, zl_406, zl_534, zl_540, zl_600, zl_9999, zl_33, zl_34, zl_35, zl_37, zl_38, zl_39, zl_40, zl_41, zl_42, zl_43, zl_44, zl_45, zl_47, zl_49, zl_52, zl_53, zl_54, zl_55, zl_58, zl_59, zl_60, zl_61, zl_62, zl_65, zl_70, zl_71, zl_98, zl_102, zl_103, zl_104, zl_105, zl_110, zl_111, zl_115, zl_120, zl_123, zl_126, zl_128, zl_256, zl_1000, zl_1024, c1, if_false, zi_add, false_and]
  · intro b v _ _
    refine b241_41.trans ?_
    simp (disch := first | assumption | omega) only [↓zn_l, zl_0, zl_1, zl_2, zl_3, zl_4, zl_5, zl_6, zl_7, zl_8, zl_9, zl_10, zl_11, zl_12, zl_13, zl_14, zl_15, zl_16, zl_17, zl_18, zl_19, zl_20, zl_21, zl_22, zl_23, zl_24, zl_25, zl_26, zl_27, zl_28, zl_29, zl_30, zl_31, zl_32, zl_36, zl_46, zl_48, zl_50, zl_57, zl_63, zl_64, zl_72, zl_97, zl_99, zl_100, zl_101, zl_122, zl_127, zl_200, zl_255, zl_406, zl_534, zl_540, zl_600, zl_9999, zl_33, zl_34, zl_35, zl_37, zl_38, zl_39, zl_40, zl_41, zl_42, zl_43, zl_44, zl_45, zl_47, zl_49, zl_52, zl_53, zl_54, zl_55, zl_58, zl_59, zl_60, zl_61, zl_62, zl_65, zl_70, zl_71, zl_98, zl_102, zl_103, zl_104, zl_105, zl_110, zl_111, zl_115, zl_120, zl_123, zl_126, zl_128, zl_256, zl_1000, zl_1024, zcon_inl, zcon_inr, Option.toList_some, Option.toList_none, List.cons_append, List.nil_append, List.append_nil, Nat.add_zero, zbind_some, zi_toNat, zi_lt, zi_inj, zi_add, zi_mul, zi_ne_zn, zn_ne_zi, zn_lt_zi, zi_lt_zn, Nat.not_lt_zero, false_or, if_true, if_false, true_or, or_false, Nat.reduceEqDiff, eq_self, e168s, q3.1, Nat.lt_irrefl]
theorem m241n1 {a : Int32} (h : D 168 1 = zi 0) : zev X 241 0 [.ref 168, .int a, zJ, zJ, zJ] [] (zHP (zrow D 172 s) O, k) = some (.inl (some (.int (zi 0))), (zHP (zrow (zth D 1) 172 s) O, k)) := by
  simp (disch := first | assumption | omega) only [b241_0, b241_4, ↓zn_l, zl_0, zl_1, zl_2, zl_3, zl_4, zl_5, zl_6, zl_7, zl_8, zl_9, zl_10, zl_11, zl_12, zl_13, zl_14, zl_15, zl_16, zl_17, zl_18, zl_19, zl_20, zl_21, zl_22, zl_23, zl_24, zl_25, zl_26, zl_27, zl_28, zl_29, zl_30, zl_31, zl_32, zl_36, zl_46, zl_48, zl_50, zl_57, zl_63, zl_64, zl_72, zl_97, zl_99, zl_100, zl_101, zl_122, zl_127, zl_200, zl_255, zl_406, zl_534, zl_540, zl_600, zl_9999, zl_33, zl_34, zl_35, zl_37, zl_38, zl_39, zl_40, zl_41, zl_42, zl_43, zl_44, zl_45, zl_47, zl_49, zl_52, zl_53, zl_54, zl_55, zl_58, zl_59, zl_60, zl_61, zl_62, zl_65, zl_70, zl_71, zl_98, zl_102, zl_103, zl_104, zl_105, zl_110, zl_111, zl_115, zl_120, zl_123, zl_126, zl_128, zl_256, zl_1000, zl_1024, zcon_inl, zcon_inr, Option.toList_some, Option.toList_none, List.cons_append, List.nil_append, List.append_nil, Nat.add_zero, zbind_some, zi_toNat, zi_lt, zi_inj, zi_add, zi_mul, zi_ne_zn, zn_ne_zi, zn_lt_zi, zi_lt_zn, Nat.not_lt_zero, false_or, if_true, if_false, true_or, or_false, Nat.reduceEqDiff, eq_self, m199n, h]
theorem m241n2 {a : Int32} (h : D 168 1 = zi 1) (ha : a < zi 0 ∨ zi 200 < a) : zev X 241 0 [.ref 168, .int a, zJ, zJ, zJ] [] (zHP (zrow D 172 s) O, k) = some (.inl (some (.int (zi 0))), (zHP (zrow (zth D 2) 172 s) O, k)) := by
  simp (disch := first | assumption | omega) only [b241_0, b241_4, b241_16, b241_28, ↓zn_l, zl_0, zl_1, zl_2, zl_3, zl_4, zl_5, zl_6, zl_7, zl_8, zl_9, zl_10, zl_11, zl_12, zl_13, zl_14, zl_15, zl_16, zl_17, zl_18, zl_19, zl_20, zl_21, zl_22, zl_23, zl_24, zl_25, zl_26, zl_27, zl_28, zl_29, zl_30, zl_31, zl_32, zl_36, zl_46, zl_48, zl_50, zl_57, zl_63, zl_64, zl_72, zl_97, zl_99, zl_100, zl_101, zl_122, zl_127, zl_200, zl_255, zl_406, zl_534, zl_540, zl_600, zl_9999, zl_33, zl_34, zl_35, zl_37, zl_38, zl_39, zl_40, zl_41, zl_42, zl_43, zl_44, zl_45, zl_47, zl_49, zl_52, zl_53, zl_54, zl_55, zl_58, zl_59, zl_60, zl_61, zl_62, zl_65, zl_70, zl_71, zl_98, zl_102, zl_103, zl_104, zl_105, zl_110, zl_111, zl_115, zl_120, zl_123, zl_126, zl_128, zl_256, zl_1000, zl_1024, zcon_inl, zcon_inr, Option.toList_some, Option.toList_none, List.cons_append, List.nil_append, List.append_nil, Nat.add_zero, zbind_some, zi_toNat, zi_lt, zi_inj, zi_add, zi_mul, zi_ne_zn, zn_ne_zi, zn_lt_zi, zi_lt_zn, Nat.not_lt_zero, false_or, if_true, if_false, true_or, or_false, Nat.reduceEqDiff, eq_self, m199, h, m175w, m176t0]
theorem m242 {p g : Nat} (I : zIv T) (S : zRs D T) (R : zRd s T) (h : D 168 1 = zi 1) (hp : p < sNp T) (hg : g < sPgs T p) : zev X 242 0 [.ref 168, .int (zi p), .int (zi g), zJ, zJ, zJ] [] (zHP (zrow D 172 s) O, k) = some (.inl (some (.int (if sIn T (12 * p + g) then zfo (sShr T (T 3 (5 * (12 * p + g)))) 72 0 (zi 0) else zi 0))), (zHP (zrow (zth D 0) 172 s) O, k)) := by
  have n1 := zIv_np I
  have n2 := zIv_np6 I
  have hp6 : p < 6 := by omega
  have hg12 : g < 12 := by have := (zIv_pg I hp6).2; omega
  have S0 := zRs_th (c := 0) S
  have e228 := m228 (X := X) (s := s) (O := O) (k := k) I S h hp hg
  have e214 := m214 (X := X) (D := zth D 0) (O := O) (k := k) R hp6 hg12
  have e208 := @m208 X (zth D 0) s O k p g 0 hp6 hg12 (by omega)
  rw [Nat.add_zero (46 + 5 * (12 * p + g)), (R.2.2.1 (12 * p + g) (by omega)).1] at e208
  simp (disch := first | assumption | omega) only [b242_0, e228, b242_6, ↓zn_l, zl_0, zl_1, zl_2, zl_3, zl_4, zl_5, zl_6, zl_7, zl_8, zl_9, zl_10, zl_11, zl_12, zl_13, zl_14, zl_15, zl_16, zl_17, zl_18, zl_19, zl_20, zl_21, zl_22, zl_23, zl_24, zl_25, zl_26, zl_27, zl_28, zl_29, zl_30, zl_31, zl_32, zl_36, zl_46, zl_48, zl_50, zl_57, zl_63, zl_64, zl_72, zl_97, zl_99, zl_100, zl_101, zl_122, zl_127, zl_200, zl_255, zl_406, zl_534, zl_540, zl_600, zl_9999, zl_33, zl_34, zl_35, zl_37, zl_38, zl_39, zl_40, zl_41, zl_42, zl_43, zl_44, zl_45, zl_47, zl_49, zl_52, zl_53, zl_54, zl_55, zl_58, zl_59, zl_60, zl_61, zl_62, zl_65, zl_70, zl_71, zl_98, zl_102, zl_103, zl_104, zl_105, zl_110, zl_111, zl_115, zl_120, zl_123, zl_126, zl_128, zl_256, zl_1000, zl_1024, zcon_inl, zcon_inr, Option.toList_some, Option.toList_none, List.cons_append, List.nil_append, List.append_nil, Nat.add_zero, zbind_some, zi_toNat, zi_lt, zi_inj, zi_add, zi_mul, zi_ne_zn, zn_ne_zi, zn_lt_zi, zi_lt_zn, Nat.not_lt_zero, false_or, if_true, if_false, true_or, or_false, Nat.reduceEqDiff, eq_self, e214]
  refine b242_15.trans ?_
  simp only [↓zn_l, zl_0, zl_1, zl_2, zl_3, zl_4, zl_5, zl_6, zl_7, zl_8, zl_9, zl_10, zl_11, zl_12, zl_13, zl_14, zl_15, zl_16, zl_17, zl_18, zl_19, zl_20, zl_21, zl_22, zl_23, zl_24, zl_25, zl_26, zl_27, zl_28, zl_29, zl_30, zl_31, zl_32, zl_36, zl_46, zl_48, zl_50, zl_57, zl_63, zl_64, zl_72, zl_97, zl_99, zl_100, zl_101, zl_122, zl_127, zl_200, zl_255, zl_406, zl_534, zl_540, zl_600, zl_9999, zl_33, zl_34, zl_35, zl_37, zl_38, zl_39, zl_40, zl_41, zl_42, zl_43, zl_44, zl_45, zl_47, zl_49, zl_52, zl_53, zl_54, zl_55, zl_58, zl_59, zl_60, zl_61, zl_62, zl_65, zl_70, zl_71, zl_98, zl_102, zl_103, zl_104, zl_105, zl_110, zl_111, zl_115, zl_120, zl_123, zl_126, zl_128, zl_256, zl_1000, zl_1024, zb_0]
  cases hi : sIn T (12 * p + g)
  · simp only [if_true, Bool.false_eq_true, if_false]
  · obtain ⟨f1, f2⟩ := sFr_of (zIv_at I (12 * p + g) (by omega)) hi
    simp only [if_true, if_false, Bool.true_eq_false]
    have nest := znestF (f := sShr T (T 3 (5 * (12 * p + g)))) (pg := sPgs T) (np := sNp T) n2 (fun q hq => (zIv_pg I hq).2) (fun q h a hq hh hb => by
      unfold sShr
      rw [(I.2.2.2.1.2 q h hq hh hb).1, f2, decide_eq_false (fun e => (zn_ne_zi (by omega)).mp e)]
      rfl) (zi 0)
    rw [← nest]
    have inner : ∀ q, q < sNp T → ∀ d i (a : Int32), i + d = sPgs T q → zev X 242 37 [.ref 168, .int (zi p), .int (zi g), .int a, .int (zi q), .int (zi i)] [] (zHP (zrow (zth D 0) 172 s) O, k) = zev X 242 25 [.ref 168, .int (zi p), .int (zi g), .int (zfo (fun h a => sShr T (T 3 (5 * (12 * p + g))) (12 * q + h) a) d i a), .int (zi (q + 1)), .int (zi (sPgs T q))] [] (zHP (zrow (zth D 0) 172 s) O, k) := by
      intro q hq d
      have hq6 : ¬ 6 ≤ q := by omega
      obtain ⟨g1, g2⟩ := zIv_pg I (p := q) (by omega)
      have eP : zth D 0 170 q = zi (sPgs T q) := by rw [zth_a (by omega)]; exact (S.2.1 q hq).trans g1
      induction d with
      | zero =>
        intro i a hi
        have : i = sPgs T q := by omega
        subst this
        refine b242_37.trans ?_
        simp (disch := first | assumption | omega) only [↓zn_l, zl_0, zl_1, zl_2, zl_3, zl_4, zl_5, zl_6, zl_7, zl_8, zl_9, zl_10, zl_11, zl_12, zl_13, zl_14, zl_15, zl_16, zl_17, zl_18, zl_19, zl_20, zl_21, zl_22, zl_23, zl_24, zl_25, zl_26, zl_27, zl_28, zl_29, zl_30, zl_31, zl_32, zl_36, zl_46, zl_48, zl_50, zl_57, zl_63, zl_64, zl_72, zl_97, zl_99, zl_100, zl_101, zl_122, zl_127, zl_200, zl_255, zl_406, zl_534, zl_540, zl_600, zl_9999, zl_33, zl_34, zl_35, zl_37, zl_38, zl_39, zl_40, zl_41, zl_42, zl_43, zl_44, zl_45, zl_47, zl_49, zl_52, zl_53, zl_54, zl_55, zl_58, zl_59, zl_60, zl_61, zl_62, zl_65, zl_70, zl_71, zl_98, zl_102, zl_103, zl_104, zl_105, zl_110, zl_111, zl_115, zl_120, zl_123, zl_126, zl_128, zl_256, zl_1000, zl_1024, zcon_inl, zcon_inr, Option.toList_some, Option.toList_none, List.cons_append, List.nil_append, List.append_nil, Nat.add_zero, zbind_some, zi_toNat, zi_lt, zi_inj, zi_add, zi_mul, zi_ne_zn, zn_ne_zi, zn_lt_zi, zi_lt_zn, Nat.not_lt_zero, false_or, if_true, if_false, true_or, or_false, Nat.reduceEqDiff, eq_self, e170s, eP, hq6, Nat.lt_irrefl]
        rfl
      | succ d ih =>
        intro i a hi
        have hi2 : i < sPgs T q := by omega
        have e208q := @m208 X (zth D 0) s O k q i 0 (by omega) (by omega) (by omega)
        rw [Nat.add_zero (46 + 5 * (12 * q + i)), (R.2.2.1 (12 * q + i) (by omega)).1] at e208q
        rw [zfo, ← ih (i + 1) _ (by omega)]
        refine b242_37.trans ?_
        simp (disch := first | assumption | omega) only [↓zn_l, zl_0, zl_1, zl_2, zl_3, zl_4, zl_5, zl_6, zl_7, zl_8, zl_9, zl_10, zl_11, zl_12, zl_13, zl_14, zl_15, zl_16, zl_17, zl_18, zl_19, zl_20, zl_21, zl_22, zl_23, zl_24, zl_25, zl_26, zl_27, zl_28, zl_29, zl_30, zl_31, zl_32, zl_36, zl_46, zl_48, zl_50, zl_57, zl_63, zl_64, zl_72, zl_97, zl_99, zl_100, zl_101, zl_122, zl_127, zl_200, zl_255, zl_406, zl_534, zl_540, zl_600, zl_9999, zl_33, zl_34, zl_35, zl_37, zl_38, zl_39, zl_40, zl_41, zl_42, zl_43, zl_44, zl_45, zl_47, zl_49, zl_52, zl_53, zl_54, zl_55, zl_58, zl_59, zl_60, zl_61, zl_62, zl_65, zl_70, zl_71, zl_98, zl_102, zl_103, zl_104, zl_105, zl_110, zl_111, zl_115, zl_120, zl_123, zl_126, zl_128, zl_256, zl_1000, zl_1024, zcon_inl, zcon_inr, Option.toList_some, Option.toList_none, List.cons_append, List.nil_append, List.append_nil, Nat.add_zero, zbind_some, zi_toNat, zi_lt, zi_inj, zi_add, zi_mul, zi_ne_zn, zn_ne_zi, zn_lt_zi, zi_lt_zn, Nat.not_lt_zero, false_or, if_true, if_false, true_or, or_false, Nat.reduceEqDiff, eq_self, e170s, eP, hq6, hi2, e208q]
        refine b242_59.trans ?_
        simp (disch := first | assumption | omega) only [↓zn_l, zl_0, zl_1, zl_2, zl_3, zl_4, zl_5, zl_6, zl_7, zl_8, zl_9, zl_10, zl_11, zl_12, zl_13, zl_14, zl_15, zl_16, zl_17, zl_18, zl_19, zl_20, zl_21, zl_22, zl_23, zl_24, zl_25, zl_26, zl_27, zl_28, zl_29, zl_30, zl_31, zl_32, zl_36, zl_46, zl_48, zl_50, zl_57, zl_63, zl_64, zl_72, zl_97, zl_99, zl_100, zl_101, zl_122, zl_127, zl_200, zl_255, zl_406, zl_534, zl_540, zl_600, zl_9999, zl_33, zl_34, zl_35, zl_37, zl_38, zl_39, zl_40, zl_41, zl_42, zl_43, zl_44, zl_45, zl_47, zl_49, zl_52, zl_53, zl_54, zl_55, zl_58, zl_59, zl_60, zl_61, zl_62, zl_65, zl_70, zl_71, zl_98, zl_102, zl_103, zl_104, zl_105, zl_110, zl_111, zl_115, zl_120, zl_123, zl_126, zl_128, zl_256, zl_1000, zl_1024, zcon_inl, zcon_inr, Option.toList_some, Option.toList_none, List.cons_append, List.nil_append, List.append_nil, Nat.add_zero, zbind_some, zi_toNat, zi_lt, zi_inj, zi_add, zi_mul, zi_ne_zn, zn_ne_zi, zn_lt_zi, zi_lt_zn, Nat.not_lt_zero, false_or, if_true, if_false, true_or, or_false, Nat.reduceEqDiff, eq_self, e208]
        refine b242_66.trans ?_
        unfold sShr
        rw [zrow12 (by omega)]
        by_cases e : T 3 (5 * (12 * q + i)) = T 3 (5 * (12 * p + g))
        · simp only [↓zn_l, zl_0, zl_1, zl_2, zl_3, zl_4, zl_5, zl_6, zl_7, zl_8, zl_9, zl_10, zl_11, zl_12, zl_13, zl_14, zl_15, zl_16, zl_17, zl_18, zl_19, zl_20, zl_21, zl_22, zl_23, zl_24, zl_25, zl_26, zl_27, zl_28, zl_29, zl_30, zl_31, zl_32, zl_36, zl_46, zl_48, zl_50, zl_57, zl_63, zl_64, zl_72, zl_97, zl_99, zl_100, zl_101, zl_122, zl_127, zl_200, zl_255, zl_406, zl_534, zl_540, zl_600, zl_9999, zl_33, zl_34, zl_35, zl_37, zl_38, zl_39, zl_40, zl_41, zl_42, zl_43, zl_44, zl_45, zl_47, zl_49, zl_52, zl_53, zl_54, zl_55, zl_58, zl_59, zl_60, zl_61, zl_62, zl_65, zl_70, zl_71, zl_98, zl_102, zl_103, zl_104, zl_105, zl_110, zl_111, zl_115, zl_120, zl_123, zl_126, zl_128, zl_256, zl_1000, zl_1024, e, if_true, m204_1, zcon_inl, Option.toList_some, List.cons_append, List.nil_append, decide_true]
          refine b242_77.trans ?_
          simp only [↓zn_l, zl_0, zl_1, zl_2, zl_3, zl_4, zl_5, zl_6, zl_7, zl_8, zl_9, zl_10, zl_11, zl_12, zl_13, zl_14, zl_15, zl_16, zl_17, zl_18, zl_19, zl_20, zl_21, zl_22, zl_23, zl_24, zl_25, zl_26, zl_27, zl_28, zl_29, zl_30, zl_31, zl_32, zl_36, zl_46, zl_48, zl_50, zl_57, zl_63, zl_64, zl_72, zl_97, zl_99, zl_100, zl_101, zl_122, zl_127, zl_200, zl_255, zl_406, zl_534, zl_540, zl_600, zl_9999, zl_33, zl_34, zl_35, zl_37, zl_38, zl_39, zl_40, zl_41, zl_42, zl_43, zl_44, zl_45, zl_47, zl_49, zl_52, zl_53, zl_54, zl_55, zl_58, zl_59, zl_60, zl_61, zl_62, zl_65, zl_70, zl_71, zl_98, zl_102, zl_103, zl_104, zl_105, zl_110, zl_111, zl_115, zl_120, zl_123, zl_126, zl_128, zl_256, zl_1000, zl_1024, zi_add]
        · simp only [↓zn_l, zl_0, zl_1, zl_2, zl_3, zl_4, zl_5, zl_6, zl_7, zl_8, zl_9, zl_10, zl_11, zl_12, zl_13, zl_14, zl_15, zl_16, zl_17, zl_18, zl_19, zl_20, zl_21, zl_22, zl_23, zl_24, zl_25, zl_26, zl_27, zl_28, zl_29, zl_30, zl_31, zl_32, zl_36, zl_46, zl_48, zl_50, zl_57, zl_63, zl_64, zl_72, zl_97, zl_99, zl_100, zl_101, zl_122, zl_127, zl_200, zl_255, zl_406, zl_534, zl_540, zl_600, zl_9999, zl_33, zl_34, zl_35, zl_37, zl_38, zl_39, zl_40, zl_41, zl_42, zl_43, zl_44, zl_45, zl_47, zl_49, zl_52, zl_53, zl_54, zl_55, zl_58, zl_59, zl_60, zl_61, zl_62, zl_65, zl_70, zl_71, zl_98, zl_102, zl_103, zl_104, zl_105, zl_110, zl_111, zl_115, zl_120, zl_123, zl_126, zl_128, zl_256, zl_1000, zl_1024, e, if_false, m204_0, zcon_inl, Option.toList_some, List.cons_append, List.nil_append, decide_false, Bool.false_eq_true]
          refine b242_77.trans ?_
          have ez : a ||| (zi 0 <<< (zi q &&& zi 31)) = a := by
            rw [show zi 0 = (0 : Int32) from rfl, Int32.zero_shiftLeft, Int32.or_zero]
          simp only [ez, ↓zn_l, zl_0, zl_1, zl_2, zl_3, zl_4, zl_5, zl_6, zl_7, zl_8, zl_9, zl_10, zl_11, zl_12, zl_13, zl_14, zl_15, zl_16, zl_17, zl_18, zl_19, zl_20, zl_21, zl_22, zl_23, zl_24, zl_25, zl_26, zl_27, zl_28, zl_29, zl_30, zl_31, zl_32, zl_36, zl_46, zl_48, zl_50, zl_57, zl_63, zl_64, zl_72, zl_97, zl_99, zl_100, zl_101, zl_122, zl_127, zl_200, zl_255, zl_406, zl_534, zl_540, zl_600, zl_9999, zl_33, zl_34, zl_35, zl_37, zl_38, zl_39, zl_40, zl_41, zl_42, zl_43, zl_44, zl_45, zl_47, zl_49, zl_52, zl_53, zl_54, zl_55, zl_58, zl_59, zl_60, zl_61, zl_62, zl_65, zl_70, zl_71, zl_98, zl_102, zl_103, zl_104, zl_105, zl_110, zl_111, zl_115, zl_120, zl_123, zl_126, zl_128, zl_256, zl_1000, zl_1024, zi_add]
    refine (zloopG (β := Value) (ok := fun v => v.category = 1) (P := fun q (a : Int32) v => zev X 242 25 [.ref 168, .int (zi p), .int (zi g), .int a, .int (zi q), v] [] (zHP (zrow (zth D 0) 172 s) O, k)) (Q := fun a => some (.inl (some (.int a)), (zHP (zrow (zth D 0) 172 s) O, k))) (f := fun q a => zfo (fun h a => sShr T (T 3 (5 * (12 * p + g))) (12 * q + h) a) (sPgs T q) 0 a) (n := sNp T) (J := fun _ _ => True) ?_ ?_ (sNp T) 0 (zi 0) zJ (by omega) trivial rfl).1
    · intro q a v hq _ hv
      refine ⟨.int (zi (sPgs T q)), rfl, ?_, trivial⟩
      refine b242_25.trans ?_
      simp (disch := first | assumption | omega) only [↓zn_l, zl_0, zl_1, zl_2, zl_3, zl_4, zl_5, zl_6, zl_7, zl_8, zl_9, zl_10, zl_11, zl_12, zl_13, zl_14, zl_15, zl_16, zl_17, zl_18, zl_19, zl_20, zl_21, zl_22, zl_23, zl_24, zl_25, zl_26, zl_27, zl_28, zl_29, zl_30, zl_31, zl_32, zl_36, zl_46, zl_48, zl_50, zl_57, zl_63, zl_64, zl_72, zl_97, zl_99, zl_100, zl_101, zl_122, zl_127, zl_200, zl_255, zl_406, zl_534, zl_540, zl_600, zl_9999, zl_33, zl_34, zl_35, zl_37, zl_38, zl_39, zl_40, zl_41, zl_42, zl_43, zl_44, zl_45, zl_47, zl_49, zl_52, zl_53, zl_54, zl_55, zl_58, zl_59, zl_60, zl_61, zl_62, zl_65, zl_70, zl_71, zl_98, zl_102, zl_103, zl_104, zl_105, zl_110, zl_111, zl_115, zl_120, zl_123, zl_126, zl_128, zl_256, zl_1000, zl_1024, zcon_inl, zcon_inr, Option.toList_some, Option.toList_none, List.cons_append, List.nil_append, List.append_nil, Nat.add_zero, zbind_some, zi_toNat, zi_lt, zi_inj, zi_add, zi_mul, zi_ne_zn, zn_ne_zi, zn_lt_zi, zi_lt_zn, Nat.not_lt_zero, false_or, if_true, if_false, true_or, or_false, Nat.reduceEqDiff, eq_self, e168s, S0.1.1, n1, hq]
      exact inner q hq (sPgs T q) 0 a (by omega)
    · intro a v _ _
      refine b242_25.trans ?_
      simp (disch := first | assumption | omega) only [↓zn_l, zl_0, zl_1, zl_2, zl_3, zl_4, zl_5, zl_6, zl_7, zl_8, zl_9, zl_10, zl_11, zl_12, zl_13, zl_14, zl_15, zl_16, zl_17, zl_18, zl_19, zl_20, zl_21, zl_22, zl_23, zl_24, zl_25, zl_26, zl_27, zl_28, zl_29, zl_30, zl_31, zl_32, zl_36, zl_46, zl_48, zl_50, zl_57, zl_63, zl_64, zl_72, zl_97, zl_99, zl_100, zl_101, zl_122, zl_127, zl_200, zl_255, zl_406, zl_534, zl_540, zl_600, zl_9999, zl_33, zl_34, zl_35, zl_37, zl_38, zl_39, zl_40, zl_41, zl_42, zl_43, zl_44, zl_45, zl_47, zl_49, zl_52, zl_53, zl_54, zl_55, zl_58, zl_59, zl_60, zl_61, zl_62, zl_65, zl_70, zl_71, zl_98, zl_102, zl_103, zl_104, zl_105, zl_110, zl_111, zl_115, zl_120, zl_123, zl_126, zl_128, zl_256, zl_1000, zl_1024, zcon_inl, zcon_inr, Option.toList_some, Option.toList_none, List.cons_append, List.nil_append, List.append_nil, Nat.add_zero, zbind_some, zi_toNat, zi_lt, zi_inj, zi_add, zi_mul, zi_ne_zn, zn_ne_zi, zn_lt_zi, zi_lt_zn, Nat.not_lt_zero, false_or, if_true, if_false, true_or, or_false, Nat.reduceEqDiff, eq_self, e168s, S0.1.1, n1, Nat.lt_irrefl]
theorem m242n1 {a b : Int32} (h : D 168 1 = zi 0) : zev X 242 0 [.ref 168, .int a, .int b, zJ, zJ, zJ] [] (zHP (zrow D 172 s) O, k) = some (.inl (some (.int (zi 0))), (zHP (zrow (zth D 1) 172 s) O, k)) := by
  have e := m228n1 (X := X) (s := s) (O := O) (k := k) (a := a) (b := b) h
  simp (disch := first | assumption | omega) only [b242_0, b242_6, ↓zn_l, zl_0, zl_1, zl_2, zl_3, zl_4, zl_5, zl_6, zl_7, zl_8, zl_9, zl_10, zl_11, zl_12, zl_13, zl_14, zl_15, zl_16, zl_17, zl_18, zl_19, zl_20, zl_21, zl_22, zl_23, zl_24, zl_25, zl_26, zl_27, zl_28, zl_29, zl_30, zl_31, zl_32, zl_36, zl_46, zl_48, zl_50, zl_57, zl_63, zl_64, zl_72, zl_97, zl_99, zl_100, zl_101, zl_122, zl_127, zl_200, zl_255, zl_406, zl_534, zl_540, zl_600, zl_9999, zl_33, zl_34, zl_35, zl_37, zl_38, zl_39, zl_40, zl_41, zl_42, zl_43, zl_44, zl_45, zl_47, zl_49, zl_52, zl_53, zl_54, zl_55, zl_58, zl_59, zl_60, zl_61, zl_62, zl_65, zl_70, zl_71, zl_98, zl_102, zl_103, zl_104, zl_105, zl_110, zl_111, zl_115, zl_120, zl_123, zl_126, zl_128, zl_256, zl_1000, zl_1024, zcon_inl, zcon_inr, Option.toList_some, Option.toList_none, List.cons_append, List.nil_append, List.append_nil, Nat.add_zero, zbind_some, zi_toNat, zi_lt, zi_inj, zi_add, zi_mul, zi_ne_zn, zn_ne_zi, zn_lt_zi, zi_lt_zn, Nat.not_lt_zero, false_or, if_true, if_false, true_or, or_false, Nat.reduceEqDiff, eq_self, e]
theorem m242n2 {a b : Int32} (I : zIv T) (S : zRs D T) (h : D 168 1 = zi 1) (ha : a < zi 0 ∨ ¬ a < zi (sNp T)) : zev X 242 0 [.ref 168, .int a, .int b, zJ, zJ, zJ] [] (zHP (zrow D 172 s) O, k) = some (.inl (some (.int (zi 0))), (zHP (zrow (zth D 2) 172 s) O, k)) := by
  have e := m228n2 (X := X) (s := s) (O := O) (k := k) (b := b) I S h ha
  simp (disch := first | assumption | omega) only [b242_0, b242_6, ↓zn_l, zl_0, zl_1, zl_2, zl_3, zl_4, zl_5, zl_6, zl_7, zl_8, zl_9, zl_10, zl_11, zl_12, zl_13, zl_14, zl_15, zl_16, zl_17, zl_18, zl_19, zl_20, zl_21, zl_22, zl_23, zl_24, zl_25, zl_26, zl_27, zl_28, zl_29, zl_30, zl_31, zl_32, zl_36, zl_46, zl_48, zl_50, zl_57, zl_63, zl_64, zl_72, zl_97, zl_99, zl_100, zl_101, zl_122, zl_127, zl_200, zl_255, zl_406, zl_534, zl_540, zl_600, zl_9999, zl_33, zl_34, zl_35, zl_37, zl_38, zl_39, zl_40, zl_41, zl_42, zl_43, zl_44, zl_45, zl_47, zl_49, zl_52, zl_53, zl_54, zl_55, zl_58, zl_59, zl_60, zl_61, zl_62, zl_65, zl_70, zl_71, zl_98, zl_102, zl_103, zl_104, zl_105, zl_110, zl_111, zl_115, zl_120, zl_123, zl_126, zl_128, zl_256, zl_1000, zl_1024, zcon_inl, zcon_inr, Option.toList_some, Option.toList_none, List.cons_append, List.nil_append, List.append_nil, Nat.add_zero, zbind_some, zi_toNat, zi_lt, zi_inj, zi_add, zi_mul, zi_ne_zn, zn_ne_zi, zn_lt_zi, zi_lt_zn, Nat.not_lt_zero, false_or, if_true, if_false, true_or, or_false, Nat.reduceEqDiff, eq_self, e]
theorem m242n3 {p : Nat} {b : Int32} (I : zIv T) (S : zRs D T) (h : D 168 1 = zi 1) (hp : p < sNp T) (hb : b < zi 0 ∨ ¬ b < zi (sPgs T p)) : zev X 242 0 [.ref 168, .int (zi p), .int b, zJ, zJ, zJ] [] (zHP (zrow D 172 s) O, k) = some (.inl (some (.int (zi 0))), (zHP (zrow (zth D 2) 172 s) O, k)) := by
  have e := m228n3 (X := X) (s := s) (O := O) (k := k) I S h hp hb
  simp (disch := first | assumption | omega) only [b242_0, b242_6, ↓zn_l, zl_0, zl_1, zl_2, zl_3, zl_4, zl_5, zl_6, zl_7, zl_8, zl_9, zl_10, zl_11, zl_12, zl_13, zl_14, zl_15, zl_16, zl_17, zl_18, zl_19, zl_20, zl_21, zl_22, zl_23, zl_24, zl_25, zl_26, zl_27, zl_28, zl_29, zl_30, zl_31, zl_32, zl_36, zl_46, zl_48, zl_50, zl_57, zl_63, zl_64, zl_72, zl_97, zl_99, zl_100, zl_101, zl_122, zl_127, zl_200, zl_255, zl_406, zl_534, zl_540, zl_600, zl_9999, zl_33, zl_34, zl_35, zl_37, zl_38, zl_39, zl_40, zl_41, zl_42, zl_43, zl_44, zl_45, zl_47, zl_49, zl_52, zl_53, zl_54, zl_55, zl_58, zl_59, zl_60, zl_61, zl_62, zl_65, zl_70, zl_71, zl_98, zl_102, zl_103, zl_104, zl_105, zl_110, zl_111, zl_115, zl_120, zl_123, zl_126, zl_128, zl_256, zl_1000, zl_1024, zcon_inl, zcon_inr, Option.toList_some, Option.toList_none, List.cons_append, List.nil_append, List.append_nil, Nat.add_zero, zbind_some, zi_toNat, zi_lt, zi_inj, zi_add, zi_mul, zi_ne_zn, zn_ne_zi, zn_lt_zi, zi_lt_zn, Nat.not_lt_zero, false_or, if_true, if_false, true_or, or_false, Nat.reduceEqDiff, eq_self, e]
end
