/-! The list of offers is sorted. -/
theorem zpos_ge {p : Nat → Bool} : ∀ {n j : Nat}, zpos p n ≤ j → j < n → p j = true
  | 0, j, _, h => by omega
  | n + 1, j, h, hj => by
    rw [zpos] at h
    split at h
    · rename_i hp
      by_cases e : j = n
      · rw [e]; exact hp
      · exact zpos_ge h (by omega)
    · omega
theorem zpos_pr {p : Nat → Bool} : ∀ {n : Nat}, 0 < zpos p n → p (zpos p n - 1) = false
  | 0, h => absurd h (by rw [zpos]; omega)
  | n + 1, h => by
    by_cases hp : p n = true
    · have e : zpos p (n + 1) = zpos p n := by rw [zpos, if_pos hp]
      rw [e] at h ⊢
      exact zpos_pr h
    · have e : zpos p (n + 1) = n + 1 := by rw [zpos, if_neg hp]
      rw [e]
      exact Bool.eq_false_iff.mpr hp
theorem zins_perm (lt : Nat → Nat → Bool) (r : Nat) (l : List Nat) : (zins lt r l).Perm (r :: l) := by
  unfold zins
  have := List.perm_middle (a := r) (l₁ := l.take (zpos (fun j => lt r (l.getD j 0)) l.length)) (l₂ := l.drop (zpos (fun j => lt r (l.getD j 0)) l.length))
  rw [List.take_append_drop] at this
  exact this
theorem zins_iff {lt : Nat → Nat → Bool} {r x : Nat} {l : List Nat} : x ∈ zins lt r l ↔ x = r ∨ x ∈ l := by
  rw [(zins_perm lt r l).mem_iff, List.mem_cons]
theorem zins_nodup {lt : Nat → Nat → Bool} {r : Nat} {l : List Nat} (h : r ∉ l) (hl : l.Nodup) : (zins lt r l).Nodup := (zins_perm lt r l).nodup_iff.mpr (List.nodup_cons.mpr ⟨h, hl⟩)
theorem sOffs_iff {T : ZD2} {t : Int32} : ∀ {d i : Nat} {l : List Nat} {x : Nat}, x ∈ zfo (sOffL T t) d i l ↔ x ∈ l ∨ (i ≤ x ∧ x < i + d ∧ sOff T x t = true)
  | 0, i, l, x => by
    show x ∈ l ↔ _
    constructor
    · exact Or.inl
    · rintro (h | ⟨h1, h2, -⟩)
      · exact h
      · omega
  | d + 1, i, l, x => by
    rw [zfo, sOffs_iff]
    have e : x ∈ sOffL T t i l ↔ x ∈ l ∨ (x = i ∧ sOff T i t = true) := by
      unfold sOffL
      cases ho : sOff T i t
      · simp
      · simp only [if_true, zins_iff, and_true]
        exact or_comm
    rw [e]
    constructor
    · rintro ((h | ⟨h1, h2⟩) | ⟨h1, h2, h3⟩)
      · exact Or.inl h
      · exact Or.inr ⟨by omega, by omega, by rw [h1]; exact h2⟩
      · exact Or.inr ⟨by omega, by omega, h3⟩
    · rintro (h | ⟨h1, h2, h3⟩)
      · exact Or.inl (Or.inl h)
      · by_cases e : x = i
        · exact Or.inl (Or.inr ⟨e, by rw [← e]; exact h3⟩)
        · exact Or.inr ⟨by omega, by omega, h3⟩
theorem sL_iff {T : ZD2} {x : Nat} : x ∈ sL T ↔ x < 72 ∧ sOff T x (T 1 5) = true := by
  have := sOffs_iff (T := T) (t := T 1 5) (d := 72) (i := 0) (l := []) (x := x)
  unfold sL sOffs
  rw [this]
  constructor
  · rintro (h | ⟨h1, h2, h3⟩)
    · simp at h
    · exact ⟨by omega, h3⟩
  · rintro ⟨h1, h2⟩
    exact Or.inr ⟨by omega, by omega, h2⟩
theorem sOffs_nodup {T : ZD2} {t : Int32} : ∀ {d i : Nat} {l : List Nat}, l.Nodup → (∀ x, x ∈ l → x < i) → (zfo (sOffL T t) d i l).Nodup
  | 0, _, _, h, _ => h
  | d + 1, i, l, h, hx => by
    rw [zfo]
    refine sOffs_nodup ?_ fun x hm => ?_
    · unfold sOffL
      split
      · exact zins_nodup (fun hm => by have := hx i hm; omega) h
      · exact h
    · unfold sOffL at hm
      split at hm
      · rcases zins_iff.mp hm with q | q
        · omega
        · have := hx x q; omega
      · have := hx x hm; omega
theorem sL_nodup {T : ZD2} : (sL T).Nodup := sOffs_nodup (T := T) List.nodup_nil (fun x h => by simp at h)
/-- each before those behind it -/
def zSrt (lt : Nat → Nat → Bool) (l : List Nat) : Prop := ∀ i j a b : Nat, i < j → l[i]? = some a → l[j]? = some b → lt a b = true
theorem zSrt_ins {lt : Nat → Nat → Bool} {r : Nat} {l : List Nat} (htr : ∀ a b c, a < 72 → b < 72 → c < 72 → lt a b = true → lt b c = true → lt a c = true) (htot : ∀ a b, a < 72 → b < 72 → a ≠ b → lt a b = false → lt b a = true) (hr : r < 72) (hx : ∀ x, x ∈ l → x < 72) (hn : r ∉ l) (h : zSrt lt l) : zSrt lt (zins lt r l) := by
  intro i j a b hij ha hb
  have hq := zpos_le (fun j => lt r (l.getD j 0)) l.length
  have hge : ∀ j c, zpos (fun j => lt r (l.getD j 0)) l.length ≤ j → l[j]? = some c → lt r c = true := by
    intro j c h1 h2
    have hj := (List.getElem?_eq_some_iff.mp h2).1
    have := zpos_ge (p := fun j => lt r (l.getD j 0)) h1 hj
    simp only [List.getD_eq_getElem?_getD, h2, Option.getD_some] at this
    exact this
  have hlt : ∀ j c, j < zpos (fun j => lt r (l.getD j 0)) l.length → l[j]? = some c → lt c r = true := by
    intro j c h1 h2
    have hp := zpos_pr (p := fun j => lt r (l.getD j 0)) (n := l.length) (by omega)
    obtain ⟨q, hqe⟩ : ∃ q, zpos (fun j => lt r (l.getD j 0)) l.length = q + 1 := ⟨zpos (fun j => lt r (l.getD j 0)) l.length - 1, by omega⟩
    rw [hqe, Nat.add_sub_cancel] at hp
    have hg := zget_D (l := l) (i := q) (by omega)
    have hm := List.mem_of_getElem? hg
    have hmc := List.mem_of_getElem? h2
    have hd : lt (l.getD q 0) r = true := htot r _ hr (hx _ hm) (fun e => hn (e ▸ hm)) hp
    by_cases e : j = q
    · rw [e, hg] at h2
      cases h2
      exact hd
    · exact htr c _ r (hx _ hmc) (hx _ hm) hr (h j q c _ (by omega) h2 hg) hd
  unfold zins at ha hb
  generalize zpos (fun j => lt r (l.getD j 0)) l.length = q at *
  rcases zins_get hq ha with ⟨a1, a2⟩ | ⟨a1, a2⟩ | ⟨a1, a2⟩
  · rcases zins_get hq hb with ⟨b1, b2⟩ | ⟨b1, b2⟩ | ⟨b1, b2⟩
    · exact h i j a b hij a2 b2
    · rw [b2]; exact hlt i a a1 a2
    · exact h i (j - 1) a b (by omega) a2 b2
  · rcases zins_get hq hb with ⟨b1, b2⟩ | ⟨b1, b2⟩ | ⟨b1, b2⟩
    · omega
    · omega
    · rw [a2]; exact hge (j - 1) b (by omega) b2
  · rcases zins_get hq hb with ⟨b1, b2⟩ | ⟨b1, b2⟩ | ⟨b1, b2⟩
    · omega
    · omega
    · exact h (i - 1) (j - 1) a b (by omega) a2 b2
theorem sOffs_srt {T : ZD2} {t : Int32} (htr : ∀ a b c, a < 72 → b < 72 → c < 72 → sBw T a b = true → sBw T b c = true → sBw T a c = true) (htot : ∀ a b, a < 72 → b < 72 → a ≠ b → sBw T a b = false → sBw T b a = true) : ∀ {d i : Nat} {l : List Nat}, i + d ≤ 72 → zSrt (sBw T) l → (∀ x, x ∈ l → x < i) → zSrt (sBw T) (zfo (sOffL T t) d i l)
  | 0, _, _, _, h, _ => h
  | d + 1, i, l, hd, h, hx => by
    rw [zfo]
    refine sOffs_srt htr htot (by omega) ?_ fun x hm => ?_
    · unfold sOffL
      split
      · exact zSrt_ins htr htot (by omega) (fun x hm => by have := hx x hm; omega) (fun hm => by have := hx i hm; omega) h
      · exact h
    · unfold sOffL at hm
      split at hm
      · rcases zins_iff.mp hm with q | q
        · omega
        · have := hx x q; omega
      · have := hx x hm; omega
/-- the order by three whole numbers -/
theorem sBw_key {T : ZD2} (I : zIv T) {a b : Nat} (ha : a < 72) (hb : b < 72) : sBw T a b = decide (ykey (sWo T a) < ykey (sWo T b) ∨ (ykey (sWo T a) = ykey (sWo T b) ∧ ((T 3 (5 * a + 1)).toInt < (T 3 (5 * b + 1)).toInt ∨ ((T 3 (5 * a + 1)).toInt = (T 3 (5 * b + 1)).toInt ∧ a < b)))) := by
  unfold sBw
  rw [sBef_key (yWo I ha) (yWo I hb)]
  have e1 : (T 3 (5 * a + 1) < T 3 (5 * b + 1)) = ((T 3 (5 * a + 1)).toInt < (T 3 (5 * b + 1)).toInt) := propext Int32.lt_iff_toInt_lt
  have e2 : (T 3 (5 * a + 1) = T 3 (5 * b + 1)) = ((T 3 (5 * a + 1)).toInt = (T 3 (5 * b + 1)).toInt) := propext ⟨fun h => by rw [h], fun h => Int32.toInt.inj h⟩
  simp only [e1, e2]
theorem sBw_tr {T : ZD2} (I : zIv T) {a b c : Nat} (ha : a < 72) (hb : b < 72) (hc : c < 72) (h1 : sBw T a b = true) (h2 : sBw T b c = true) : sBw T a c = true := by
  rw [sBw_key I ha hb, decide_eq_true_eq] at h1
  rw [sBw_key I hb hc, decide_eq_true_eq] at h2
  rw [sBw_key I ha hc, decide_eq_true_eq]
  omega
theorem sBw_tot {T : ZD2} (I : zIv T) {a b : Nat} (ha : a < 72) (hb : b < 72) (hne : a ≠ b) (h1 : sBw T a b = false) : sBw T b a = true := by
  rw [sBw_key I ha hb, decide_eq_false_iff_not] at h1
  rw [sBw_key I hb ha, decide_eq_true_eq]
  omega
theorem sBw_asy {T : ZD2} (I : zIv T) {a b : Nat} (ha : a < 72) (hb : b < 72) (h1 : sBw T a b = true) : sBw T b a = false := by
  rw [sBw_key I ha hb, decide_eq_true_eq] at h1
  rw [sBw_key I hb ha, decide_eq_false_iff_not]
  omega
theorem sL_srt {T : ZD2} (I : zIv T) : zSrt (sBw T) (sL T) := sOffs_srt (fun _ _ _ ha hb hc => sBw_tr I ha hb hc) (fun _ _ ha hb => sBw_tot I ha hb) (d := 72) (i := 0) (l := []) (by omega) (fun i j a b _ h _ => by rw [List.getElem?_nil] at h; cases h) (fun x h => by cases h)
