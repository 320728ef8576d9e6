/-! One step on locals, stack and program counter is the JVM's. -/
section ZS1
variable {p : Program} {l : Launch} {e : Env} {R : Room} {s : State} {m : MethodId} {args : Array Value} {below : List Frame} {meth : Method} {c : Code} {H : Heap} {locs : List Loc} {cells slots : Nat} {Q : State → Prop}
variable {cc : ByteArray} {pc : Nat} {ls : Array Slot} {tx ad : Nat → Nat}
theorem zlv_len {L : List Value} {i : Nat} {v : Value} (h : L[i]? = some v) : i < L.length := (List.getElem?_eq_some_iff.mp h).1
set_option maxHeartbeats 4000000 in
theorem zs_pure {ins : Instr} {x : Nat} {L st L' st' : List Value} {own : String} (hexec : p.tables.exec = Jvm.exec) (hb : c.code = cc) (hown : s.vm.findClass own = some m.cls)
    (htx : ∀ i, ins = .ldc i → ∃ t, vk_R own i t (tx x) s) (h64 : ∀ i, ins = .ldc2_w i → (Cond.constantLong own i (Int64.ofNat x)).before args s = true) (h : zpure ins x L st = some (L', st')) {len : Nat} (hlen : zlen ins = 0 ∨ zlen ins = len) (hdg : decode cc pc = .ok (ins, len)) (hloc : zloc tx ad L ls)
    (k : ∀ ls', zloc tx ad L' ls' → W p l e R s m args below meth c H locs cells slots Q (F0 m (pc + len) ls' (st'.map (zcv tx ad)))) : W p l e R s m args below meth c H locs cells slots Q (F0 m pc ls (st.map (zcv tx ad))) := by
  have hlen : zlen ins ≠ 0 → len = zlen ins := fun q => by omega
  unfold zpure at h
  split at h
  · cases h; cases hlen (Nat.succ_ne_zero _); exact lv_iconst hexec hb hdg rfl (k ls hloc)
  · cases h; cases hlen (Nat.succ_ne_zero _); exact lv_bipush hexec hb hdg rfl (k ls hloc)
  · cases h; cases hlen (Nat.succ_ne_zero _); exact lv_sipush hexec hb hdg rfl (k ls hloc)
  · cases h; cases hlen (Nat.succ_ne_zero _); exact lv_lconst hexec hb hdg rfl (k ls hloc)
  · cases h; cases hlen (Nat.succ_ne_zero _); exact lv_fconst0 hexec hb hdg (k ls hloc)
  · cases h; cases hlen (Nat.succ_ne_zero _); exact lv_dconst0 hexec hb hdg (k ls hloc)
  · obtain ⟨v, h1, h2⟩ := zbind_eq.mp h; cases h2; cases hlen (Nat.succ_ne_zero _); exact lv_iload_n hexec hb hdg rfl (zldi_at hloc h1).2 (k ls hloc)
  · obtain ⟨v, h1, h2⟩ := zbind_eq.mp h; cases h2; cases hlen (Nat.succ_ne_zero _); exact lv_iload hexec hb hdg (zldi_at hloc h1).2 (k ls hloc)
  · obtain ⟨v, h1, h2⟩ := zbind_eq.mp h; cases h2; cases hlen (Nat.succ_ne_zero _); exact lv_lload_n hexec hb hdg rfl (zldl_at hloc h1) (k ls hloc)
  · obtain ⟨v, h1, h2⟩ := zbind_eq.mp h; cases h2; cases hlen (Nat.succ_ne_zero _); exact lv_lload hexec hb hdg (zldl_at hloc h1) (k ls hloc)
  · obtain ⟨v, h1, h2⟩ := zbind_eq.mp h; cases h2; cases hlen (Nat.succ_ne_zero _); exact lv_fload_n hexec hb hdg rfl (zldf_at hloc h1) (k ls hloc)
  · obtain ⟨v, h1, h2⟩ := zbind_eq.mp h; cases h2; cases hlen (Nat.succ_ne_zero _); exact lv_fload hexec hb hdg (zldf_at hloc h1) (k ls hloc)
  · obtain ⟨v, h1, h2⟩ := zbind_eq.mp h; cases h2; cases hlen (Nat.succ_ne_zero _); exact lv_dload_n hexec hb hdg rfl (zldd_at hloc h1) (k ls hloc)
  · obtain ⟨v, h1, h2⟩ := zbind_eq.mp h; cases h2; cases hlen (Nat.succ_ne_zero _); exact lv_dload hexec hb hdg (zldd_at hloc h1) (k ls hloc)
  · obtain ⟨v, h1, h2⟩ := zbind_eq.mp h; cases h2; cases hlen (Nat.succ_ne_zero _)
    obtain ⟨a, ha, hl⟩ := zlda_at hloc h1
    have k := k ls hloc
    rw [List.map_cons, ha] at k
    exact lv_aload_n hexec hb hdg rfl hl k
  · obtain ⟨v, h1, h2⟩ := zbind_eq.mp h; cases h2; cases hlen (Nat.succ_ne_zero _)
    obtain ⟨a, ha, hl⟩ := zlda_at hloc h1
    have k := k ls hloc
    rw [List.map_cons, ha] at k
    exact lv_aload hexec hb hdg hl k
  · obtain ⟨v, h1, h2⟩ := zbind_eq.mp h; cases h2; cases hlen (Nat.succ_ne_zero _)
    obtain ⟨hi, hl⟩ := zst1_at hloc h1 (Or.inr rfl)
    exact lv_istore_n hexec hb hdg rfl hloc hi rfl fun ls' h' => k ls' (hl ls' h')
  · obtain ⟨v, h1, h2⟩ := zbind_eq.mp h; cases h2; cases hlen (Nat.succ_ne_zero _)
    obtain ⟨hi, hl⟩ := zst1_at hloc h1 (Or.inr rfl)
    exact lv_istore hexec hb hdg hloc hi rfl fun ls' h' => k ls' (hl ls' h')
  · obtain ⟨v, h1, h2⟩ := zbind_eq.mp h; cases h2; cases hlen (Nat.succ_ne_zero _)
    obtain ⟨hi, hl⟩ := zst1_at hloc h1 (Or.inr rfl)
    exact lv_fstore_n hexec hb hdg rfl hloc hi rfl fun ls' h' => k ls' (hl ls' h')
  · obtain ⟨v, h1, h2⟩ := zbind_eq.mp h; cases h2; cases hlen (Nat.succ_ne_zero _)
    obtain ⟨hi, hl⟩ := zst1_at hloc h1 (Or.inr rfl)
    exact lv_fstore hexec hb hdg hloc hi rfl fun ls' h' => k ls' (hl ls' h')
  · obtain ⟨v, h1, h2⟩ := zbind_eq.mp h; cases h2; cases hlen (Nat.succ_ne_zero _)
    obtain ⟨hi, hl⟩ := zst2_at hloc h1 rfl
    exact lv_lstore_n hexec hb hdg rfl hloc hi rfl fun ls' h' => k ls' (hl ls' h')
  · obtain ⟨v, h1, h2⟩ := zbind_eq.mp h; cases h2; cases hlen (Nat.succ_ne_zero _)
    obtain ⟨hi, hl⟩ := zst2_at hloc h1 rfl
    exact lv_lstore hexec hb hdg hloc hi rfl fun ls' h' => k ls' (hl ls' h')
  · obtain ⟨v, h1, h2⟩ := zbind_eq.mp h; cases h2; cases hlen (Nat.succ_ne_zero _)
    obtain ⟨hi, hl⟩ := zst2_at hloc h1 rfl
    exact lv_dstore_n hexec hb hdg rfl hloc hi rfl fun ls' h' => k ls' (hl ls' h')
  · obtain ⟨v, h1, h2⟩ := zbind_eq.mp h; cases h2; cases hlen (Nat.succ_ne_zero _)
    obtain ⟨hi, hl⟩ := zst2_at hloc h1 rfl
    exact lv_dstore hexec hb hdg hloc hi rfl fun ls' h' => k ls' (hl ls' h')
  · obtain ⟨v, h1, h2⟩ := zbind_eq.mp h; cases h2; cases hlen (Nat.succ_ne_zero _)
    obtain ⟨hi, hl⟩ := zst1_at hloc h1 (Or.inr rfl)
    exact lv_astore_n hexec hb hdg rfl hloc hi rfl fun ls' h' => k ls' (hl ls' h')
  · obtain ⟨v, h1, h2⟩ := zbind_eq.mp h; cases h2; cases hlen (Nat.succ_ne_zero _)
    obtain ⟨hi, hl⟩ := zst1_at hloc h1 (Or.inr rfl)
    exact lv_astore hexec hb hdg hloc hi rfl fun ls' h' => k ls' (hl ls' h')
  · obtain ⟨v, h1, h2⟩ := zbind_eq.mp h
    obtain ⟨u, h3, h4⟩ := zbind_eq.mp h2
    cases h4; cases hlen (Nat.succ_ne_zero _)
    obtain ⟨hi, hl⟩ := zst1_at hloc h3 (Or.inr rfl)
    obtain ⟨q, hq⟩ := List.getElem?_of_mem (zlv_mem.mpr ⟨_, (zldi_at hloc h1).1, rfl, rfl⟩ : (_, zcv tx ad (.int v)) ∈ zlv tx ad L)
    exact lv_iinc hexec hb hdg hloc hq rfl hi rfl fun ls' h' => k ls' (hl ls' h')
  · cases h; cases hlen (Nat.succ_ne_zero _); exact lv_iadd hexec hb hdg (k ls hloc)
  · cases h; cases hlen (Nat.succ_ne_zero _); exact lv_isub hexec hb hdg (k ls hloc)
  · cases h; cases hlen (Nat.succ_ne_zero _); exact lv_imul hexec hb hdg (k ls hloc)
  · cases h; cases hlen (Nat.succ_ne_zero _); exact lv_iand hexec hb hdg (k ls hloc)
  · cases h; cases hlen (Nat.succ_ne_zero _); exact lv_ior hexec hb hdg (k ls hloc)
  · cases h; cases hlen (Nat.succ_ne_zero _); exact lv_ineg hexec hb hdg (k ls hloc)
  · cases h; cases hlen (Nat.succ_ne_zero _); exact lv_ishl hexec hb hdg (k ls hloc)
  · cases h; cases hlen (Nat.succ_ne_zero _); exact lv_ishr hexec hb hdg (k ls hloc)
  · split at h
    · cases h
    · rename_i hz; cases h; cases hlen (Nat.succ_ne_zero _); exact lv_idiv hexec hb hdg hz (k ls hloc)
  · split at h
    · cases h
    · rename_i hz; cases h; cases hlen (Nat.succ_ne_zero _); exact lv_irem hexec hb hdg hz (k ls hloc)
  · cases h; cases hlen (Nat.succ_ne_zero _); exact lv_ladd hexec hb hdg (k ls hloc)
  · cases h; cases hlen (Nat.succ_ne_zero _); exact lv_lsub hexec hb hdg (k ls hloc)
  · cases h; cases hlen (Nat.succ_ne_zero _); exact lv_land hexec hb hdg (k ls hloc)
  · cases h; cases hlen (Nat.succ_ne_zero _); exact lv_lor hexec hb hdg (k ls hloc)
  · cases h; cases hlen (Nat.succ_ne_zero _); exact lv_lshl hexec hb hdg rfl (k ls hloc)
  · cases h; cases hlen (Nat.succ_ne_zero _); exact lv_lushr hexec hb hdg rfl (k ls hloc)
  · cases h; cases hlen (Nat.succ_ne_zero _); exact W.lcmp hexec hb hdg (k ls hloc)
  · cases h; cases hlen (Nat.succ_ne_zero _); exact lv_i2l hexec hb hdg rfl (k ls hloc)
  · cases h; cases hlen (Nat.succ_ne_zero _); exact lv_l2i hexec hb hdg rfl (k ls hloc)
  · cases h; cases hlen (Nat.succ_ne_zero _); exact lv_i2f hexec hb hdg (k ls hloc)
  · cases h; cases hlen (Nat.succ_ne_zero _); exact lv_i2d hexec hb hdg (k ls hloc)
  · split at h
    · rename_i hz; cases h; cases hlen (Nat.succ_ne_zero _); exact lv_f2d hexec hb hdg hz (k ls hloc)
    · cases h
  · split at h
    · rename_i hz; cases h; cases hlen (Nat.succ_ne_zero _); exact lv_fdiv hexec hb hdg hz (k ls hloc)
    · cases h
  · split at h
    · rename_i hz; cases h; cases hlen (Nat.succ_ne_zero _); exact lv_ddiv hexec hb hdg hz (k ls hloc)
    · cases h
  · cases h; cases hlen (Nat.succ_ne_zero _); exact lv_fcmp hexec hb hdg (k ls hloc)
  · cases h; cases hlen (Nat.succ_ne_zero _); exact lv_dcmp hexec hb hdg (k ls hloc)
  · split at h
    · rename_i hz; cases h; cases hlen (Nat.succ_ne_zero _); exact lv_dup hexec hb hdg (by rw [zcv_cat]; exact hz.1) (k ls hloc)
    · cases h
  · split at h
    · rename_i hz; cases h; cases hlen (Nat.succ_ne_zero _); exact lv_dup2_11 hexec hb hdg (by rw [zcv_cat]; exact hz.1.1) (by rw [zcv_cat]; exact hz.2.1) (k ls hloc)
    · cases h
  · split at h
    · rename_i hz; cases h; cases hlen (Nat.succ_ne_zero _); exact lv_pop hexec hb hdg (by rw [zcv_cat]; exact hz) (k ls hloc)
    · cases h
  · cases h; cases hlen (Nat.succ_ne_zero _); exact lv_null hexec hb hdg (k ls hloc)
  · split at h
    · cases h; cases hlen (Nat.succ_ne_zero _)
      obtain ⟨t, ht⟩ := htx _ rfl
      exact va_ldcS hexec hb hown ht hdg (k ls hloc)
    · cases h
  · cases h; cases hlen (Nat.succ_ne_zero _); exact lv_ldc2 hexec hb hown (h64 _ rfl) hdg (k ls hloc)
  · cases h
theorem ztgt_eq {pc : Nat} {off : Int} (h : 0 ≤ (pc : Int) + off) : (pc : Int) + off = (ztgt pc off : Int) := by
  unfold ztgt
  exact (Int.toNat_of_nonneg h).symm
theorem zzif_eq {pc pc' : Nat} {off : Int} {b : Bool} {st st' : List Value} (h : zzif pc off b st = some (pc', st')) : (pc : Int) + off = (ztgt pc off : Int) ∧ pc' = (if b = true then ztgt pc off else pc + 3) ∧ st' = st := by
  unfold zzif at h
  split at h
  · rename_i hz
    cases h
    exact ⟨ztgt_eq hz, rfl, rfl⟩
  · cases h
set_option maxHeartbeats 4000000 in
theorem zs_jump {ins : Instr} {st st' : List Value} {pc' : Nat} (hexec : p.tables.exec = Jvm.exec) (hb : c.code = cc)
    (h : zjump ins pc st = some (pc', st')) {len : Nat} (hlen : zlen ins = 0 ∨ zlen ins = len) (hdg : decode cc pc = .ok (ins, len))
    (k : W p l e R s m args below meth c H locs cells slots Q (F0 m pc' ls (st'.map (zcv tx ad)))) : W p l e R s m args below meth c H locs cells slots Q (F0 m pc ls (st.map (zcv tx ad))) := by
  have hlen : zlen ins ≠ 0 → len = zlen ins := fun q => by omega
  unfold zjump at h
  split at h
  · split at h
    · rename_i hz
      cases h; cases hlen (Nat.succ_ne_zero _)
      exact lv_goto hexec hb hdg (ztgt_eq hz) k
    · cases h
  · rename_i cd off a st _
    cases hlen (Nat.succ_ne_zero _)
    obtain ⟨ht, h2, h3⟩ := zzif_eq h
    subst h2; subst h3
    cases cd with
    | eq => exact lv_if_eq hexec hb hdg ht (fun q => by rw [if_pos (by simp [zcnd, q])] at k; exact k) (fun q => by rw [if_neg (by simp [zcnd, q])] at k; exact k)
    | ne => exact lv_if_ne hexec hb hdg ht (fun q => by rw [if_pos (by simp [zcnd, q])] at k; exact k) (fun q => by rw [if_neg (by simp [zcnd, q])] at k; exact k)
    | lt => exact lv_if_lt hexec hb hdg ht (fun q => by rw [if_pos (by simp [zcnd, q])] at k; exact k) (fun q => by rw [if_neg (by simp only [zcnd, decide_eq_true_eq]; exact q)] at k; exact k)
    | ge => exact lv_if_ge hexec hb hdg ht (fun q => by rw [if_pos (by simp only [zcnd, decide_eq_true_eq]; exact q)] at k; exact k) (fun q => by rw [if_neg (by simp only [zcnd, decide_eq_true_eq]; exact q)] at k; exact k)
    | gt => exact lv_if_gt hexec hb hdg ht (fun q => by rw [if_pos (by simp only [zcnd, decide_eq_true_eq]; exact q)] at k; exact k) (fun q => by rw [if_neg (by simp only [zcnd, decide_eq_true_eq]; exact q)] at k; exact k)
    | le => exact lv_if_le hexec hb hdg ht (fun q => by rw [if_pos (by simp only [zcnd, decide_eq_true_eq]; exact q)] at k; exact k) (fun q => by rw [if_neg (by simp only [zcnd, decide_eq_true_eq]; exact q)] at k; exact k)
  · rename_i cd off b a st _
    cases hlen (Nat.succ_ne_zero _)
    obtain ⟨ht, h2, h3⟩ := zzif_eq h
    subst h2; subst h3
    cases cd with
    | eq => exact lv_icmp_eq hexec hb hdg ht (fun q => by rw [if_pos (by simp [zcnd, q])] at k; exact k) (fun q => by rw [if_neg (by simp [zcnd, q])] at k; exact k)
    | ne => exact lv_icmp_ne hexec hb hdg ht (fun q => by rw [if_pos (by simp [zcnd, q])] at k; exact k) (fun q => by rw [if_neg (by simp [zcnd, q])] at k; exact k)
    | lt => exact lv_icmp_lt hexec hb hdg ht (fun q => by rw [if_pos (by simp only [zcnd, decide_eq_true_eq]; exact q)] at k; exact k) (fun q => by rw [if_neg (by simp only [zcnd, decide_eq_true_eq]; exact q)] at k; exact k)
    | ge => exact lv_icmp_ge hexec hb hdg ht (fun q => by rw [if_pos (by simp only [zcnd, decide_eq_true_eq]; exact q)] at k; exact k) (fun q => by rw [if_neg (by simp only [zcnd, decide_eq_true_eq]; exact q)] at k; exact k)
    | gt => exact lv_icmp_gt hexec hb hdg ht (fun q => by rw [if_pos (by simp only [zcnd, decide_eq_true_eq]; exact q)] at k; exact k) (fun q => by rw [if_neg (by simp only [zcnd, decide_eq_true_eq]; exact q)] at k; exact k)
    | le => exact lv_icmp_le hexec hb hdg ht (fun q => by rw [if_pos (by simp only [zcnd, decide_eq_true_eq]; exact q)] at k; exact k) (fun q => by rw [if_neg (by simp only [zcnd, decide_eq_true_eq]; exact q)] at k; exact k)
  · cases h; cases hlen (Nat.succ_ne_zero _)
    exact lv_ifnull hexec hb hdg k
  · split at h
    · rename_i hz
      cases h; cases hlen (Nat.succ_ne_zero _)
      exact lv_ifnonnull hexec hb hdg (ztgt_eq hz) k
    · cases h
  · obtain ⟨t, h1, h2⟩ := zbind_eq.mp h
    cases h2
    unfold zswi at h1
    split at h1
    · rename_i ho
      split at h1
      · rename_i hz
        cases h1
        exact lv_tableOut hexec hb hdg ho (ztgt_eq hz) k
      · cases h1
    · rename_i ho
      split at h1
      · rename_i off hoff
        split at h1
        · rename_i hz
          cases h1
          exact lv_tableIn hexec hb hdg (fun q => ho (Or.inl q)) (fun q => ho (Or.inr q)) hoff (ztgt_eq hz) k
        · cases h1
      · cases h1
  · obtain ⟨t, h1, h2⟩ := zbind_eq.mp h
    cases h2
    unfold zlook at h1
    split at h1
    · rename_i hz
      cases h1
      exact lv_lookup hexec hb hdg hz.1 rfl (ztgt_eq hz.2) k
    · cases h1
  · cases h
end ZS1
