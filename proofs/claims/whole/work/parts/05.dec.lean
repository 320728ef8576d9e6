/-! Decoding in one pass: an instruction is decoded where its own bytes stand (what Shelf42/DecodeLinear.lean of the library does over windows, done here by the bytes). -/
def zbn (code : ByteArray) (p : Nat) : Option Nat := (code.data.toList[p]?).map UInt8.toNat
abbrev ZDec (α : Type) := Reader DecodeError α
theorem zu1 {code : ByteArray} {p a : Nat} (h : zbn code p = some a) : (Reader.u1 : ZDec Nat) code p = .ok (a, p + 1) := by
  unfold zbn at h
  cases e : code.data.toList[p]? with
  | none => rw [e] at h; cases h
  | some x =>
    rw [e] at h
    have hx : x.toNat = a := Option.some.inj h
    have hp : p < code.size := by
      have := (List.getElem?_eq_some_iff.mp e).1
      simpa using this
    have e1 : (Reader.u1 : ZDec Nat) code p = (if h : p < code.size then .ok (code[p].toNat, p + 1) else .error (HasTruncated.truncated p)) := by
      show (do if h : p < code.size then do set (p + 1); Pure.pure code[p].toNat else MonadExcept.throw (HasTruncated.truncated p) : ZDec Nat) code p = _
      rw [dif_pos hp, dif_pos hp]; rfl
    rw [e1, dif_pos hp, ← hx]
    have : code[p] = x := by
      have h2 : code.data.toList[p]? = some code[p] := by
        rw [List.getElem?_eq_getElem (by simpa using hp)]
        rfl
      exact Option.some.inj (h2.symm.trans e)
    rw [this]
theorem zrb {α β : Type} {r : ZDec α} {f : α → ZDec β} {code : ByteArray} {p q : Nat} {a : α} (h : r code p = .ok (a, q)) : (r >>= f) code p = f a code q := by
  have : (r >>= f) code p = (match r code p with | .error e => Except.error e | .ok (a, s) => f a code s) := by
    show (do let (a, s) ← r code p; f a code s : Except DecodeError (β × Nat)) = _
    cases r code p <;> rfl
  rw [this, h]
theorem zrm {α β : Type} (g : α → β) (r : ZDec α) : (g <$> r) = (r >>= fun a => Pure.pure (g a)) := by
  funext A p
  show (do let (a, s) ← r A p; .ok (g a, s) : Except DecodeError (β × Nat)) = (do let (a, s) ← r A p; .ok (g a, s))
  rfl
theorem zu2 {code : ByteArray} {p a b : Nat} (h : zbn code p = some a) (h2 : zbn code (p + 1) = some b) : (Reader.u2 : ZDec Nat) code p = .ok (a * 256 + b, p + 2) := by
  show (Reader.u1 >>= fun hi => Reader.u1 >>= fun lo => Pure.pure (hi * 256 + lo) : ZDec Nat) code p = _
  rw [zrb (zu1 h), zrb (zu1 h2)]
  rfl
theorem zs1 {code : ByteArray} {p a : Nat} (h : zbn code p = some a) : (Reader.s1 : ZDec Int) code p = .ok (Reader.signed 8 a, p + 1) := by
  show (Reader.signed 8 <$> (Reader.u1 : ZDec Nat)) code p = _
  rw [zrm, zrb (zu1 h)]
  rfl
theorem zs2 {code : ByteArray} {p a b : Nat} (h : zbn code p = some a) (h2 : zbn code (p + 1) = some b) : (Reader.s2 : ZDec Int) code p = .ok (Reader.signed 16 (a * 256 + b), p + 2) := by
  show (Reader.signed 16 <$> (Reader.u2 : ZDec Nat)) code p = _
  rw [zrm, zrb (zu2 h h2)]
  rfl
theorem zdcd {code : ByteArray} {pc p' : Nat} {i : Instr} (h : Decoder.instr pc code pc = .ok (i, p')) : decode code pc = .ok (i, p' - pc) := by
  have : decode code pc = (match Decoder.instr pc code pc with | .error x => .error x | .ok (j, s) => .ok (j, s - pc)) := by
    show (do let (j, s) ← Decoder.instr pc code pc; Pure.pure (j, s - pc) : Except DecodeError (Instr × Nat)) = _
    cases Decoder.instr pc code pc <;> rfl
  rw [this, h]
def zKs (K : Nat → Nat → ZDec Instr) : Prop := ∀ pc, Decoder.instr pc = Reader.u1 >>= K pc
section ZDC
variable {K : Nat → Nat → ZDec Instr} {code : ByteArray} {pc : Nat}
theorem zd0 (hK : zKs K) {op : Nat} {i : Instr} (hk : K pc op = Pure.pure i) (h : zbn code pc = some op) : decode code pc = .ok (i, 1) := by
  have e : Decoder.instr pc code pc = .ok (i, pc + 1) := by rw [hK pc, zrb (zu1 h), hk]; rfl
  rw [zdcd e, Nat.add_sub_cancel_left]
theorem zd1 (hK : zKs K) {op a : Nat} {C : Nat → Instr} (hk : K pc op = (Reader.u1 >>= fun n => Pure.pure (C n))) (h : zbn code pc = some op) (h1 : zbn code (pc + 1) = some a) : decode code pc = .ok (C a, 2) := by
  have e : Decoder.instr pc code pc = .ok (C a, pc + 2) := by rw [hK pc, zrb (zu1 h), hk, zrb (zu1 h1)]; rfl
  rw [zdcd e, Nat.add_sub_cancel_left]
theorem zd1s (hK : zKs K) {op a : Nat} {C : Int → Instr} (hk : K pc op = (Reader.s1 >>= fun n => Pure.pure (C n))) (h : zbn code pc = some op) (h1 : zbn code (pc + 1) = some a) : decode code pc = .ok (C (Reader.signed 8 a), 2) := by
  have e : Decoder.instr pc code pc = .ok (C (Reader.signed 8 a), pc + 2) := by rw [hK pc, zrb (zu1 h), hk, zrb (zs1 h1)]; rfl
  rw [zdcd e, Nat.add_sub_cancel_left]
theorem zd2 (hK : zKs K) {op a b : Nat} {C : Nat → Instr} (hk : K pc op = (Reader.u2 >>= fun n => Pure.pure (C n))) (h : zbn code pc = some op) (h1 : zbn code (pc + 1) = some a) (h2 : zbn code (pc + 2) = some b) : decode code pc = .ok (C (a * 256 + b), 3) := by
  have e : Decoder.instr pc code pc = .ok (C (a * 256 + b), pc + 3) := by rw [hK pc, zrb (zu1 h), hk, zrb (zu2 h1 h2)]; rfl
  rw [zdcd e, Nat.add_sub_cancel_left]
theorem zd2s (hK : zKs K) {op a b : Nat} {C : Int → Instr} (hk : K pc op = (Reader.s2 >>= fun n => Pure.pure (C n))) (h : zbn code pc = some op) (h1 : zbn code (pc + 1) = some a) (h2 : zbn code (pc + 2) = some b) : decode code pc = .ok (C (Reader.signed 16 (a * 256 + b)), 3) := by
  have e : Decoder.instr pc code pc = .ok (C (Reader.signed 16 (a * 256 + b)), pc + 3) := by rw [hK pc, zrb (zu1 h), hk, zrb (zs2 h1 h2)]; rfl
  rw [zdcd e, Nat.add_sub_cancel_left]
theorem zdi (hK : zKs K) {op a b : Nat} {C : Nat → Int → Instr} (hk : K pc op = (Reader.u1 >>= fun n => Reader.s1 >>= fun k => Pure.pure (C n k))) (h : zbn code pc = some op) (h1 : zbn code (pc + 1) = some a) (h2 : zbn code (pc + 2) = some b) : decode code pc = .ok (C a (Reader.signed 8 b), 3) := by
  have e : Decoder.instr pc code pc = .ok (C a (Reader.signed 8 b), pc + 3) := by rw [hK pc, zrb (zu1 h), hk, zrb (zu1 h1), zrb (zs1 h2)]; rfl
  rw [zdcd e, Nat.add_sub_cancel_left]
end ZDC
def zy1 (op : Nat) (n : Int) : List Nat := if -128 ≤ n ∧ n < 128 then [op, (n % 256).toNat] else []
def zy2 (op : Nat) (n : Int) : List Nat := if -32768 ≤ n ∧ n < 32768 then [op, (n % 65536).toNat / 256, (n % 65536).toNat % 256] else []
def zyu (op n : Nat) : List Nat := [op, n / 256, n % 256]
def zcdn : ClassFile.Cond → Nat
  | .eq => 0 | .ne => 1 | .lt => 2 | .ge => 3 | .gt => 4 | .le => 5
def zenc : Instr → List Nat
  | .aconst_null => [1]
  | .iconst (-1) => [2]
  | .iconst 0 => [3]
  | .iconst 1 => [4]
  | .iconst 2 => [5]
  | .iconst 3 => [6]
  | .iconst 4 => [7]
  | .iconst 5 => [8]
  | .lconst 0 => [9]
  | .lconst 1 => [10]
  | .fconst 0 => [11]
  | .dconst 0 => [14]
  | .bipush n => zy1 16 n
  | .sipush n => zy2 17 n
  | .ldc i => [18, i]
  | .ldc_w i => zyu 19 i
  | .ldc2_w i => zyu 20 i
  | .iload i => [21, i]
  | .lload i => [22, i]
  | .fload i => [23, i]
  | .dload i => [24, i]
  | .aload i => [25, i]
  | .iload_n 0 => [26]
  | .iload_n 1 => [27]
  | .iload_n 2 => [28]
  | .iload_n 3 => [29]
  | .lload_n 0 => [30]
  | .lload_n 1 => [31]
  | .lload_n 2 => [32]
  | .lload_n 3 => [33]
  | .fload_n 0 => [34]
  | .fload_n 1 => [35]
  | .fload_n 2 => [36]
  | .fload_n 3 => [37]
  | .dload_n 0 => [38]
  | .dload_n 1 => [39]
  | .dload_n 2 => [40]
  | .dload_n 3 => [41]
  | .aload_n 0 => [42]
  | .aload_n 1 => [43]
  | .aload_n 2 => [44]
  | .aload_n 3 => [45]
  | .iaload => [46]
  | .laload => [47]
  | .faload => [48]
  | .daload => [49]
  | .aaload => [50]
  | .baload => [51]
  | .istore i => [54, i]
  | .lstore i => [55, i]
  | .fstore i => [56, i]
  | .dstore i => [57, i]
  | .astore i => [58, i]
  | .istore_n 0 => [59]
  | .istore_n 1 => [60]
  | .istore_n 2 => [61]
  | .istore_n 3 => [62]
  | .lstore_n 0 => [63]
  | .lstore_n 1 => [64]
  | .lstore_n 2 => [65]
  | .lstore_n 3 => [66]
  | .fstore_n 0 => [67]
  | .fstore_n 1 => [68]
  | .fstore_n 2 => [69]
  | .fstore_n 3 => [70]
  | .dstore_n 0 => [71]
  | .dstore_n 1 => [72]
  | .dstore_n 2 => [73]
  | .dstore_n 3 => [74]
  | .astore_n 0 => [75]
  | .astore_n 1 => [76]
  | .astore_n 2 => [77]
  | .astore_n 3 => [78]
  | .iastore => [79]
  | .lastore => [80]
  | .fastore => [81]
  | .dastore => [82]
  | .aastore => [83]
  | .bastore => [84]
  | .pop => [87]
  | .dup => [89]
  | .dup2 => [92]
  | .iadd => [96]
  | .ladd => [97]
  | .isub => [100]
  | .lsub => [101]
  | .imul => [104]
  | .idiv => [108]
  | .fdiv => [110]
  | .ddiv => [111]
  | .irem => [112]
  | .ineg => [116]
  | .ishl => [120]
  | .lshl => [121]
  | .ishr => [122]
  | .lushr => [125]
  | .iand => [126]
  | .land => [127]
  | .ior => [128]
  | .lor => [129]
  | .iinc i n => if -128 ≤ n ∧ n < 128 then [132, i, (n % 256).toNat] else []
  | .i2l => [133]
  | .i2f => [134]
  | .i2d => [135]
  | .l2i => [136]
  | .f2d => [141]
  | .lcmp => [148]
  | .fcmp .l => [149]
  | .fcmp .g => [150]
  | .dcmp .l => [151]
  | .dcmp .g => [152]
  | .ifCond cd n => zy2 (153 + zcdn cd) n
  | .if_icmp cd n => zy2 (159 + zcdn cd) n
  | .goto n => zy2 167 n
  | .ireturn => [172]
  | .lreturn => [173]
  | .freturn => [174]
  | .dreturn => [175]
  | .areturn => [176]
  | .return_ => [177]
  | .getfield i => zyu 180 i
  | .putfield i => zyu 181 i
  | .invokevirtual i => zyu 182 i
  | .invokespecial i => zyu 183 i
  | .invokestatic i => zyu 184 i
  | .new i => zyu 187 i
  | .newarray .boolean => [188, 4]
  | .newarray .float => [188, 6]
  | .newarray .double => [188, 7]
  | .newarray .int => [188, 10]
  | .newarray .long => [188, 11]
  | .anewarray i => zyu 189 i
  | .arraylength => [190]
  | .athrow => [191]
  | .ifnull n => zy2 198 n
  | .ifnonnull n => zy2 199 n
  | _ => []
def zat (code : ByteArray) (pc : Nat) (bs : List Nat) : Prop := ∀ j a, bs[j]? = some a → zbn code (pc + j) = some a
theorem zsg8 {n : Int} (h : -128 ≤ n ∧ n < 128) : Reader.signed 8 (n % 256).toNat = n := by
  unfold Reader.signed
  split <;> omega
theorem zsg16 {n : Int} (h : -32768 ≤ n ∧ n < 32768) : Reader.signed 16 ((n % 65536).toNat / 256 * 256 + (n % 65536).toNat % 256) = n := by
  have e : (n % 65536).toNat / 256 * 256 + (n % 65536).toNat % 256 = (n % 65536).toNat := by omega
  rw [e]
  unfold Reader.signed
  split <;> omega
section ZEN
variable {K : Nat → Nat → ZDec Instr} {code : ByteArray} {pc : Nat}
theorem ze0 (hK : zKs K) {op : Nat} {i : Instr} (h : zat code pc [op]) (hk : K pc op = Pure.pure i) : decode code pc = .ok (i, 1) := zd0 hK hk (h 0 op rfl)
theorem ze1 (hK : zKs K) {op a : Nat} {C : Nat → Instr} (h : zat code pc [op, a]) (hk : K pc op = (Reader.u1 >>= fun n => Pure.pure (C n))) : decode code pc = .ok (C a, 2) := zd1 hK hk (h 0 op rfl) (h 1 a rfl)
theorem ze1s (hK : zKs K) {op : Nat} {n : Int} {C : Int → Instr} (hne : zy1 op n ≠ []) (h : zat code pc (zy1 op n)) (hk : K pc op = (Reader.s1 >>= fun n => Pure.pure (C n))) : decode code pc = .ok (C n, (zy1 op n).length) := by
  unfold zy1 at hne h ⊢
  split at h
  · rename_i hr
    rw [if_pos hr]
    have := zd1s hK hk (h 0 op rfl) (h 1 _ rfl)
    rw [zsg8 hr] at this
    exact this
  · rename_i hr
    rw [if_neg hr] at hne
    exact absurd rfl hne
theorem ze2s (hK : zKs K) {op : Nat} {n : Int} {C : Int → Instr} (hne : zy2 op n ≠ []) (h : zat code pc (zy2 op n)) (hk : K pc op = (Reader.s2 >>= fun n => Pure.pure (C n))) : decode code pc = .ok (C n, (zy2 op n).length) := by
  unfold zy2 at hne h ⊢
  split at h
  · rename_i hr
    rw [if_pos hr]
    have := zd2s hK hk (h 0 op rfl) (h 1 _ rfl) (h 2 _ rfl)
    rw [zsg16 hr] at this
    exact this
  · rename_i hr
    rw [if_neg hr] at hne
    exact absurd rfl hne
theorem ze2 (hK : zKs K) {op n : Nat} {C : Nat → Instr} (h : zat code pc (zyu op n)) (hk : K pc op = (Reader.u2 >>= fun n => Pure.pure (C n))) : decode code pc = .ok (C n, 3) := by
  have := zd2 hK hk (h 0 op rfl) (h 1 _ rfl) (h 2 _ rfl)
  rw [show n / 256 * 256 + n % 256 = n by omega] at this
  exact this
theorem zei (hK : zKs K) {op i : Nat} {n : Int} {C : Nat → Int → Instr} (hr : -128 ≤ n ∧ n < 128) (h : zat code pc [op, i, (n % 256).toNat]) (hk : K pc op = (Reader.u1 >>= fun n => Reader.s1 >>= fun k => Pure.pure (C n k))) : decode code pc = .ok (C i n, 3) := by
  have := zdi hK hk (h 0 op rfl) (h 1 _ rfl) (h 2 _ rfl)
  rw [zsg8 hr] at this
  exact this
theorem zena (hK : zKs K) {op a : Nat} {i : Instr} (h : zat code pc [op, a]) (hk : ∃ N : Nat → ZDec Instr, K pc op = (Reader.u1 >>= N) ∧ N a = Pure.pure i) : decode code pc = .ok (i, 2) := by
  obtain ⟨N, h1, h2⟩ := hk
  have e : Decoder.instr pc code pc = .ok (i, pc + 2) := by
    rw [hK pc, zrb (zu1 (show zbn code pc = some op from h 0 op rfl)), h1, zrb (zu1 (h 1 a rfl)), h2]
    rfl
  rw [zdcd e, Nat.add_sub_cancel_left]
end ZEN
def zKx : { K : Nat → Nat → ZDec Instr // zKs K } := ⟨_, fun _ => rfl⟩
set_option maxHeartbeats 8000000 in
set_option maxRecDepth 100000 in
theorem zenc_ok {code : ByteArray} {pc : Nat} {i : Instr} (hne : zenc i ≠ []) (h : zat code pc (zenc i)) : decode code pc = .ok (i, (zenc i).length) := by
  revert hne h
  unfold zenc
  split
  all_goals intro hne h
  all_goals first
    | exact absurd rfl hne
    | exact ze0 zKx.2 h rfl
    | exact ze1 zKx.2 h rfl
    | exact ze2 zKx.2 h rfl
    | exact ze1s zKx.2 hne h rfl
    | exact ze2s zKx.2 hne h rfl
    | exact zena zKx.2 h ⟨_, rfl, rfl⟩
    | (rename_i cd n; cases cd <;> exact ze2s zKx.2 hne h rfl)
    | (split at h
       · rename_i hr
         rw [if_pos hr]
         exact zei zKx.2 hr h rfl
       · rename_i hr
         rw [if_neg hr] at hne
         exact absurd rfl hne)
/-- one pass over a method's bytes: each instruction's own stand there; those of switches are passed over -/
def zskip : Instr → Bool
  | .tableswitch _ _ _ _ => true
  | .lookupswitch _ _ => true
  | _ => false
def zlin : List (Nat × ZI) → Nat → List Nat → Bool
  | [], _, _ => true
  | q :: t, pc, l => (q.1 == pc && (zskip q.2.1 || (zenc q.2.1 == l.take q.2.2.1 && (zenc q.2.1).length == q.2.2.1 && q.2.2.1 != 0))) && zlin t (pc + q.2.2.1) (l.drop q.2.2.1)
theorem zlin_ok {code : ByteArray} : ∀ (t : List (Nat × ZI)) (pc : Nat) (l : List Nat), zlin t pc l = true → (∀ j a, l[j]? = some a → zbn code (pc + j) = some a) → ∀ q ∈ t, zskip q.2.1 = false → decode code q.1 = .ok (q.2.1, q.2.2.1)
  | [], _, _, _, _, q, hq, _ => by cases hq
  | q0 :: t, pc, l, h, hl, q, hq, hs => by
    have h' : ((q0.1 == pc && (zskip q0.2.1 || (zenc q0.2.1 == l.take q0.2.2.1 && (zenc q0.2.1).length == q0.2.2.1 && q0.2.2.1 != 0))) && zlin t (pc + q0.2.2.1) (l.drop q0.2.2.1)) = true := h
    rw [Bool.and_eq_true] at h'
    obtain ⟨h1, h2⟩ := h'
    rcases List.mem_cons.mp hq with rfl | hq
    · rw [hs] at h1
      simp only [Bool.false_or, Bool.and_eq_true, beq_iff_eq, bne_iff_ne, ne_eq] at h1
      obtain ⟨e1, ⟨e2, e3⟩, e4⟩ := h1
      rw [e1]
      have := zenc_ok (code := code) (pc := pc) (i := q.2.1) (fun z => e4 (by rw [← e3, z]; rfl)) (fun j a hj => hl j a (by
        rw [e2, List.getElem?_take] at hj
        split at hj
        · exact hj
        · cases hj))
      rw [e3] at this
      exact this
    · refine zlin_ok t _ _ h2 (fun j a hj => ?_) q hq hs
      rw [List.getElem?_drop] at hj
      rw [Nat.add_assoc]
      exact hl _ _ hj
