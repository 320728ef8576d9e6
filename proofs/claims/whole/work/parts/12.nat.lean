/-! The JDK's members that stand for themselves: words and decode rows by program (wip/whole/gen_nat.py), then length and charAt of a text constant. -/
def zy_len : MethodName := ⟨"java/lang/String", "length", "()I"⟩
def zy_cod : MethodName := ⟨"java/lang/String", "coder", "()B"⟩
def zy_chr : MethodName := ⟨"java/lang/String", "charAt", "(I)C"⟩
def zy_lat : MethodName := ⟨"java/lang/String", "isLatin1", "()Z"⟩
def zy_l1 : MethodName := ⟨"java/lang/StringLatin1", "charAt", "([BI)C"⟩
def zy_ci : MethodName := ⟨"java/lang/String", "checkIndex", "(II)V"⟩
def zy_pi : MethodName := ⟨"jdk/internal/util/Preconditions", "checkIndex", "(IILjava/util/function/BiFunction;)I"⟩
def zJW : List Cond := [.initialized "java/lang/String", .initialized "java/lang/StringLatin1", .initialized "jdk/internal/util/Preconditions", .initialized "java/lang/System", .instanceMethod Lib.objectInit, .code Lib.objectInit ⟨#[0xb1]⟩ 1 none, .arrayClass .int, .arrayClass .float, .instanceMethod zy_len, .selects "java/lang/String" zy_len zy_len, .code zy_len prog_18_method_54_code 1 (some .int), .methodLink "java/lang/String" 335 zy_cod, .instanceMethod zy_cod, .selects "java/lang/String" zy_cod zy_cod, .code zy_cod prog_18_method_152_code 1 (some .byte), .fieldLink "java/lang/String" 38 "java/lang/String" "COMPACT_STRINGS" "Z", .instanceMethod zy_chr, .selects "java/lang/String" zy_chr zy_chr, .code zy_chr prog_18_method_56_code 2 (some .char), .methodLink "java/lang/String" 492 zy_lat, .instanceMethod zy_lat, .selects "java/lang/String" zy_lat zy_lat, .code zy_lat prog_18_method_154_code 1 (some .boolean), .methodLink "java/lang/String" 495 zy_l1, .static zy_l1, .code zy_l1 prog_19_method_2_code 2 (some .char), .methodLink "java/lang/StringLatin1" 9 zy_ci, .static zy_ci, .code zy_ci prog_18_method_155_code 2 none, .fieldLink "java/lang/String" 1053 "jdk/internal/util/Preconditions" "SIOOBE_FORMATTER" "Ljava/util/function/BiFunction;", .methodLink "java/lang/String" 1059 zy_pi, .static zy_pi, .code zy_pi prog_24_method_11_code 3 (some .int), .static arraycopyName, .native arraycopyName, .arrayClass .boolean, .arrayClass .long, .arrayClass .double, .fieldLink "java/lang/String" 9 "java/lang/String" "value" "[B", .fieldLink "java/lang/String" 15 "java/lang/String" "coder" "B"]
set_option maxRecDepth 100000 in
theorem zJW_in : ∀ w ∈ zJW, w ∈ zGW := zIn [130, 0, 0, 2, 8, 0, 22, 141, 208, 0, 0, 0, 0, 0, 0, 0, 2, 0, 0, 0, 0, 0, 0, 0, 0, 0, 0, 0, 0, 0, 1, 0, 0, 147, 0, 810, 535, 0, 1, 0] rfl (by decide +kernel)
theorem zj_ini_s : (Cond.initialized "java/lang/String" : Cond) ∈ zGW := zJW_in _ (List.mem_of_getElem? (i := 0) rfl)
theorem zj_ini_l : (Cond.initialized "java/lang/StringLatin1" : Cond) ∈ zGW := zJW_in _ (List.mem_of_getElem? (i := 1) rfl)
theorem zj_ini_p : (Cond.initialized "jdk/internal/util/Preconditions" : Cond) ∈ zGW := zJW_in _ (List.mem_of_getElem? (i := 2) rfl)
theorem zj_ini_sys : (Cond.initialized "java/lang/System" : Cond) ∈ zGW := zJW_in _ (List.mem_of_getElem? (i := 3) rfl)
theorem zj_inst_obj : (Cond.instanceMethod Lib.objectInit : Cond) ∈ zGW := zJW_in _ (List.mem_of_getElem? (i := 4) rfl)
theorem zj_code_obj : (Cond.code Lib.objectInit ⟨#[0xb1]⟩ 1 none : Cond) ∈ zGW := zJW_in _ (List.mem_of_getElem? (i := 5) rfl)
theorem zj_arr_int : (Cond.arrayClass .int : Cond) ∈ zGW := zJW_in _ (List.mem_of_getElem? (i := 6) rfl)
theorem zj_arr_float : (Cond.arrayClass .float : Cond) ∈ zGW := zJW_in _ (List.mem_of_getElem? (i := 7) rfl)
theorem zj_inst_len : (Cond.instanceMethod zy_len : Cond) ∈ zGW := zJW_in _ (List.mem_of_getElem? (i := 8) rfl)
theorem zj_sel_len : (Cond.selects "java/lang/String" zy_len zy_len : Cond) ∈ zGW := zJW_in _ (List.mem_of_getElem? (i := 9) rfl)
theorem zj_code_len : (Cond.code zy_len prog_18_method_54_code 1 (some .int) : Cond) ∈ zGW := zJW_in _ (List.mem_of_getElem? (i := 10) rfl)
theorem zj_link_cod : (Cond.methodLink "java/lang/String" 335 zy_cod : Cond) ∈ zGW := zJW_in _ (List.mem_of_getElem? (i := 11) rfl)
theorem zj_inst_cod : (Cond.instanceMethod zy_cod : Cond) ∈ zGW := zJW_in _ (List.mem_of_getElem? (i := 12) rfl)
theorem zj_sel_cod : (Cond.selects "java/lang/String" zy_cod zy_cod : Cond) ∈ zGW := zJW_in _ (List.mem_of_getElem? (i := 13) rfl)
theorem zj_code_cod : (Cond.code zy_cod prog_18_method_152_code 1 (some .byte) : Cond) ∈ zGW := zJW_in _ (List.mem_of_getElem? (i := 14) rfl)
theorem zj_fld_38 : (Cond.fieldLink "java/lang/String" 38 "java/lang/String" "COMPACT_STRINGS" "Z" : Cond) ∈ zGW := zJW_in _ (List.mem_of_getElem? (i := 15) rfl)
theorem zj_inst_chr : (Cond.instanceMethod zy_chr : Cond) ∈ zGW := zJW_in _ (List.mem_of_getElem? (i := 16) rfl)
theorem zj_sel_chr : (Cond.selects "java/lang/String" zy_chr zy_chr : Cond) ∈ zGW := zJW_in _ (List.mem_of_getElem? (i := 17) rfl)
theorem zj_code_chr : (Cond.code zy_chr prog_18_method_56_code 2 (some .char) : Cond) ∈ zGW := zJW_in _ (List.mem_of_getElem? (i := 18) rfl)
theorem zj_link_lat : (Cond.methodLink "java/lang/String" 492 zy_lat : Cond) ∈ zGW := zJW_in _ (List.mem_of_getElem? (i := 19) rfl)
theorem zj_inst_lat : (Cond.instanceMethod zy_lat : Cond) ∈ zGW := zJW_in _ (List.mem_of_getElem? (i := 20) rfl)
theorem zj_sel_lat : (Cond.selects "java/lang/String" zy_lat zy_lat : Cond) ∈ zGW := zJW_in _ (List.mem_of_getElem? (i := 21) rfl)
theorem zj_code_lat : (Cond.code zy_lat prog_18_method_154_code 1 (some .boolean) : Cond) ∈ zGW := zJW_in _ (List.mem_of_getElem? (i := 22) rfl)
theorem zj_link_l1 : (Cond.methodLink "java/lang/String" 495 zy_l1 : Cond) ∈ zGW := zJW_in _ (List.mem_of_getElem? (i := 23) rfl)
theorem zj_stat_l1 : (Cond.static zy_l1 : Cond) ∈ zGW := zJW_in _ (List.mem_of_getElem? (i := 24) rfl)
theorem zj_code_l1 : (Cond.code zy_l1 prog_19_method_2_code 2 (some .char) : Cond) ∈ zGW := zJW_in _ (List.mem_of_getElem? (i := 25) rfl)
theorem zj_link_ci : (Cond.methodLink "java/lang/StringLatin1" 9 zy_ci : Cond) ∈ zGW := zJW_in _ (List.mem_of_getElem? (i := 26) rfl)
theorem zj_stat_ci : (Cond.static zy_ci : Cond) ∈ zGW := zJW_in _ (List.mem_of_getElem? (i := 27) rfl)
theorem zj_code_ci : (Cond.code zy_ci prog_18_method_155_code 2 none : Cond) ∈ zGW := zJW_in _ (List.mem_of_getElem? (i := 28) rfl)
theorem zj_fld_1053 : (Cond.fieldLink "java/lang/String" 1053 "jdk/internal/util/Preconditions" "SIOOBE_FORMATTER" "Ljava/util/function/BiFunction;" : Cond) ∈ zGW := zJW_in _ (List.mem_of_getElem? (i := 29) rfl)
theorem zj_link_pi : (Cond.methodLink "java/lang/String" 1059 zy_pi : Cond) ∈ zGW := zJW_in _ (List.mem_of_getElem? (i := 30) rfl)
theorem zj_stat_pi : (Cond.static zy_pi : Cond) ∈ zGW := zJW_in _ (List.mem_of_getElem? (i := 31) rfl)
theorem zj_code_pi : (Cond.code zy_pi prog_24_method_11_code 3 (some .int) : Cond) ∈ zGW := zJW_in _ (List.mem_of_getElem? (i := 32) rfl)
theorem zj_stat_copy : (Cond.static arraycopyName : Cond) ∈ zGW := zJW_in _ (List.mem_of_getElem? (i := 33) rfl)
theorem zj_nat_copy : (Cond.native arraycopyName : Cond) ∈ zGW := zJW_in _ (List.mem_of_getElem? (i := 34) rfl)
theorem zj_arr_boolean : (Cond.arrayClass .boolean : Cond) ∈ zGW := zJW_in _ (List.mem_of_getElem? (i := 35) rfl)
theorem zj_arr_long : (Cond.arrayClass .long : Cond) ∈ zGW := zJW_in _ (List.mem_of_getElem? (i := 36) rfl)
theorem zj_arr_double : (Cond.arrayClass .double : Cond) ∈ zGW := zJW_in _ (List.mem_of_getElem? (i := 37) rfl)
theorem zj_fld_9 : (Cond.fieldLink "java/lang/String" 9 "java/lang/String" "value" "[B" : Cond) ∈ zGW := zJW_in _ (List.mem_of_getElem? (i := 38) rfl)
theorem zj_fld_15 : (Cond.fieldLink "java/lang/String" 15 "java/lang/String" "coder" "B" : Cond) ∈ zGW := zJW_in _ (List.mem_of_getElem? (i := 39) rfl)
theorem zjd_len_0 : decode prog_18_method_54_code 0 = .ok (.aload_n 0, 1) := by decide +kernel
theorem zjd_len_1 : decode prog_18_method_54_code 1 = .ok (.getfield 9, 3) := by decide +kernel
theorem zjd_len_4 : decode prog_18_method_54_code 4 = .ok (.arraylength, 1) := by decide +kernel
theorem zjd_len_5 : decode prog_18_method_54_code 5 = .ok (.aload_n 0, 1) := by decide +kernel
theorem zjd_len_6 : decode prog_18_method_54_code 6 = .ok (.invokevirtual 335, 3) := by decide +kernel
theorem zjd_len_9 : decode prog_18_method_54_code 9 = .ok (.ishr, 1) := by decide +kernel
theorem zjd_len_10 : decode prog_18_method_54_code 10 = .ok (.ireturn, 1) := by decide +kernel
theorem zjd_chr_0 : decode prog_18_method_56_code 0 = .ok (.aload_n 0, 1) := by decide +kernel
theorem zjd_chr_1 : decode prog_18_method_56_code 1 = .ok (.invokevirtual 492, 3) := by decide +kernel
theorem zjd_chr_4 : decode prog_18_method_56_code 4 = .ok (.ifCond .eq 12, 3) := by decide +kernel
theorem zjd_chr_7 : decode prog_18_method_56_code 7 = .ok (.aload_n 0, 1) := by decide +kernel
theorem zjd_chr_8 : decode prog_18_method_56_code 8 = .ok (.getfield 9, 3) := by decide +kernel
theorem zjd_chr_11 : decode prog_18_method_56_code 11 = .ok (.iload_n 1, 1) := by decide +kernel
theorem zjd_chr_12 : decode prog_18_method_56_code 12 = .ok (.invokestatic 495, 3) := by decide +kernel
theorem zjd_chr_15 : decode prog_18_method_56_code 15 = .ok (.ireturn, 1) := by decide +kernel
theorem zjd_chr_16 : decode prog_18_method_56_code 16 = .ok (.aload_n 0, 1) := by decide +kernel
theorem zjd_chr_17 : decode prog_18_method_56_code 17 = .ok (.getfield 9, 3) := by decide +kernel
theorem zjd_chr_20 : decode prog_18_method_56_code 20 = .ok (.iload_n 1, 1) := by decide +kernel
theorem zjd_chr_21 : decode prog_18_method_56_code 21 = .ok (.invokestatic 498, 3) := by decide +kernel
theorem zjd_chr_24 : decode prog_18_method_56_code 24 = .ok (.ireturn, 1) := by decide +kernel
theorem zjd_cod_0 : decode prog_18_method_152_code 0 = .ok (.getstatic 38, 3) := by decide +kernel
theorem zjd_cod_3 : decode prog_18_method_152_code 3 = .ok (.ifCond .eq 10, 3) := by decide +kernel
theorem zjd_cod_6 : decode prog_18_method_152_code 6 = .ok (.aload_n 0, 1) := by decide +kernel
theorem zjd_cod_7 : decode prog_18_method_152_code 7 = .ok (.getfield 15, 3) := by decide +kernel
theorem zjd_cod_10 : decode prog_18_method_152_code 10 = .ok (.goto 4, 3) := by decide +kernel
theorem zjd_cod_13 : decode prog_18_method_152_code 13 = .ok (.iconst 1, 1) := by decide +kernel
theorem zjd_cod_14 : decode prog_18_method_152_code 14 = .ok (.ireturn, 1) := by decide +kernel
theorem zjd_lat_0 : decode prog_18_method_154_code 0 = .ok (.getstatic 38, 3) := by decide +kernel
theorem zjd_lat_3 : decode prog_18_method_154_code 3 = .ok (.ifCond .eq 14, 3) := by decide +kernel
theorem zjd_lat_6 : decode prog_18_method_154_code 6 = .ok (.aload_n 0, 1) := by decide +kernel
theorem zjd_lat_7 : decode prog_18_method_154_code 7 = .ok (.getfield 15, 3) := by decide +kernel
theorem zjd_lat_10 : decode prog_18_method_154_code 10 = .ok (.ifCond .ne 7, 3) := by decide +kernel
theorem zjd_lat_13 : decode prog_18_method_154_code 13 = .ok (.iconst 1, 1) := by decide +kernel
theorem zjd_lat_14 : decode prog_18_method_154_code 14 = .ok (.goto 4, 3) := by decide +kernel
theorem zjd_lat_17 : decode prog_18_method_154_code 17 = .ok (.iconst 0, 1) := by decide +kernel
theorem zjd_lat_18 : decode prog_18_method_154_code 18 = .ok (.ireturn, 1) := by decide +kernel
theorem zjd_ci_0 : decode prog_18_method_155_code 0 = .ok (.iload_n 0, 1) := by decide +kernel
theorem zjd_ci_1 : decode prog_18_method_155_code 1 = .ok (.iload_n 1, 1) := by decide +kernel
theorem zjd_ci_2 : decode prog_18_method_155_code 2 = .ok (.getstatic 1053, 3) := by decide +kernel
theorem zjd_ci_5 : decode prog_18_method_155_code 5 = .ok (.invokestatic 1059, 3) := by decide +kernel
theorem zjd_ci_8 : decode prog_18_method_155_code 8 = .ok (.pop, 1) := by decide +kernel
theorem zjd_ci_9 : decode prog_18_method_155_code 9 = .ok (.return_, 1) := by decide +kernel
theorem zjd_l1_0 : decode prog_19_method_2_code 0 = .ok (.iload_n 1, 1) := by decide +kernel
theorem zjd_l1_1 : decode prog_19_method_2_code 1 = .ok (.aload_n 0, 1) := by decide +kernel
theorem zjd_l1_2 : decode prog_19_method_2_code 2 = .ok (.arraylength, 1) := by decide +kernel
theorem zjd_l1_3 : decode prog_19_method_2_code 3 = .ok (.invokestatic 9, 3) := by decide +kernel
theorem zjd_l1_6 : decode prog_19_method_2_code 6 = .ok (.aload_n 0, 1) := by decide +kernel
theorem zjd_l1_7 : decode prog_19_method_2_code 7 = .ok (.iload_n 1, 1) := by decide +kernel
theorem zjd_l1_8 : decode prog_19_method_2_code 8 = .ok (.baload, 1) := by decide +kernel
theorem zjd_l1_9 : decode prog_19_method_2_code 9 = .ok (.sipush 255, 3) := by decide +kernel
theorem zjd_l1_12 : decode prog_19_method_2_code 12 = .ok (.iand, 1) := by decide +kernel
theorem zjd_l1_13 : decode prog_19_method_2_code 13 = .ok (.i2c, 1) := by decide +kernel
theorem zjd_l1_14 : decode prog_19_method_2_code 14 = .ok (.ireturn, 1) := by decide +kernel
theorem zjd_pi_0 : decode prog_24_method_11_code 0 = .ok (.iload_n 0, 1) := by decide +kernel
theorem zjd_pi_1 : decode prog_24_method_11_code 1 = .ok (.ifCond .lt 8, 3) := by decide +kernel
theorem zjd_pi_4 : decode prog_24_method_11_code 4 = .ok (.iload_n 0, 1) := by decide +kernel
theorem zjd_pi_5 : decode prog_24_method_11_code 5 = .ok (.iload_n 1, 1) := by decide +kernel
theorem zjd_pi_6 : decode prog_24_method_11_code 6 = .ok (.if_icmp .lt 10, 3) := by decide +kernel
theorem zjd_pi_9 : decode prog_24_method_11_code 9 = .ok (.aload_n 2, 1) := by decide +kernel
theorem zjd_pi_10 : decode prog_24_method_11_code 10 = .ok (.iload_n 0, 1) := by decide +kernel
theorem zjd_pi_11 : decode prog_24_method_11_code 11 = .ok (.iload_n 1, 1) := by decide +kernel
theorem zjd_pi_12 : decode prog_24_method_11_code 12 = .ok (.invokestatic 95, 3) := by decide +kernel
theorem zjd_pi_15 : decode prog_24_method_11_code 15 = .ok (.athrow, 1) := by decide +kernel
theorem zjd_pi_16 : decode prog_24_method_11_code 16 = .ok (.iload_n 0, 1) := by decide +kernel
theorem zjd_pi_17 : decode prog_24_method_11_code 17 = .ok (.ireturn, 1) := by decide +kernel
theorem zGWgood : ∀ w ∈ zGW, goodWord w = true := fun _ h => (List.mem_filter.mp h).2
theorem zgi {ws : List Cond} (h : ∀ w ∈ ws, w ∈ zGW) : GoodIn zGW ws := goodIn_sub h (List.all_eq_true.mpr fun w hw => zGWgood w (h w hw))
theorem zcons {w : Cond} {ws : List Cond} (h : w ∈ zGW) (hs : ∀ w ∈ ws, w ∈ zGW) : ∀ x ∈ w :: ws, x ∈ zGW := fun x hx => (List.mem_cons.mp hx).elim (fun q => q ▸ h) (hs x)
theorem zself : ∀ x ∈ zGW, x ∈ zGW := fun _ h => h
theorem znar (x : UInt32) : narrow .char (.int (x % 65536).toInt32) = .int (x % 65536).toInt32 := by
  have e : ((x % 65536).toUInt16).toUInt32 = x % 65536 := by
    apply UInt32.toNat.inj
    have h1 : (((x % 65536).toUInt16).toUInt32).toNat = (x % 65536).toNat % 65536 := by simp
    have h2 : (x % 65536).toNat = x.toNat % 65536 := by simp
    omega
  show Value.int (((x % 65536).toUInt16).toUInt32).toInt32 = _
  rw [e]
def zF : Nat → Prop := fun _ => False
theorem zF_S {H : Heap} : va_S zF H H [] := va_S.rf
theorem zF_to {A : Nat → Prop} : ∀ q, zF q → A q := fun _ h => h.elim
/-! The JDK's String: length and charAt of a constant. -/
def zjs (q b : Nat) (bs : List Int32) (A : Nat → Prop) (U : State) (H : Heap) : Prop :=
  va_O "java/lang/String" q A U H ∧ va_OF "java/lang/String" "coder" "B" (.int 0) q A U H ∧ va_OF "java/lang/String" "value" "[B" (.ref b) q A U H ∧ va_T .byte b bs.length (fun j => .int (bs.getD j 0)) A U H ∧
  va_Z "java/lang/String" "COMPACT_STRINGS" "Z" (.int 1) A U H ∧ va_Zq "jdk/internal/util/Preconditions" "SIOOBE_FORMATTER" "Ljava/util/function/BiFunction;" A U H
theorem zjs.moved {q b : Nat} {bs : List Int32} {A : Nat → Prop} {u U : State} {H : Heap} (hvm : u.vm.Alike U.vm) (h : zjs q b bs A u H) : zjs q b bs A U H :=
  ⟨va_O.moved hvm h.1, va_OF.moved hvm h.2.1, va_OF.moved hvm h.2.2.1, va_T.moved hvm h.2.2.2.1, va_Z.moved hvm h.2.2.2.2.1, va_Zq.moved hvm h.2.2.2.2.2⟩
theorem zjs.kept {q b : Nat} {bs : List Int32} {A : Nat → Prop} {U : State} {H H1 : Heap} (h : zjs q b bs A U H) (hq : ∀ a : Nat, a < H.size → ¬ A a → H1[a]? = H[a]?) : zjs q b bs A U H1 :=
  ⟨h.1.kept hq, h.2.1.kept hq, h.2.2.1.kept hq, h.2.2.2.1.kept hq, h.2.2.2.2.1.kept hq, h.2.2.2.2.2.kept hq⟩
theorem zjs.narrow {q b : Nat} {bs : List Int32} {A B : Nat → Prop} {U : State} {H : Heap} (h : zjs q b bs A U H) (hAB : ∀ q, B q → A q) : zjs q b bs B U H :=
  ⟨h.1.narrow hAB, h.2.1.narrow hAB, h.2.2.1.narrow hAB, h.2.2.2.1.narrow hAB, h.2.2.2.2.1.narrow hAB, h.2.2.2.2.2.narrow hAB⟩
def zjP (av : List Value) (q b : Nat) (bs : List Int32) : Array Value → State → Prop := va_Pc av (fun U => zjs q b bs zF U U.heap)
def zjQ (v : Int32) : Array Value → State → Outcome → State → Prop := va_Qi (S := Unit) (fun r _ => r = v) (fun _ _ => True) zF
theorem zjP_blind {av : List Value} {q b : Nat} {bs : List Int32} : FrameBlind (zjP av q b bs) := fun a U g mk h => ⟨h.1, zjs.moved (u := U) (U := U.calling g mk a) (Vm.Alike.refl U.vm) h.2⟩
theorem zjQ_of {v : Int32} {a : Array Value} {s t : State} (ht : t.heap = s.heap) : zjQ v a s (.returned (some (.int v))) t := ⟨⟨v, (), rfl, rfl, trivial⟩, ⟨by rw [ht]; exact Nat.le_refl _, fun _ _ _ => by rw [ht]⟩⟩
set_option maxHeartbeats 4000000 in
set_option maxRecDepth 100000 in
theorem zj_coder (l : Launch) (q b : Nat) (bs : List Int32) : Met l zy_cod (.code zy_cod prog_18_method_152_code 1 (some .byte) :: zGW) ({ frames := 0, cells := 0, slots := 0, locals := 0 }) (zjP [.ref q] q b bs) (zjQ 0) 0 0 zF := by
  refine Met.ofW (cc := prog_18_method_152_code) (maxL := 1) (ret := (some .byte)) (by decide) rfl ?_
  intro p e s m args below meth c s₁ B hml hv
  obtain ⟨rfl, hs⟩ := hv
  have hx := B.exec
  have hb := B.bytes
  have hr := B.returns
  have hts := fun w h => atoms_spec (ws := .code zy_cod prog_18_method_152_code 1 (some .byte) :: zGW) B.pre w (List.mem_cons_of_mem _ h)
  have hown : s.vm.findClass "java/lang/String" = some m.cls := findClass_of_methodNamed B.named
  have hlocks := B.notSynchronized
  have hl := lv_entry ([.ref q]) (n := 1) (Nat.le_of_ble_eq_true rfl)
  rw [lg_entry_eq]
  generalize (lg_sl ([.ref q]) ++ List.replicate (1 - (lg_sl ([.ref q])).length) Slot.unset).toArray = ls at hl ⊢
  have hl : lv_has ls 1 [(0, .ref q)] := hl
  refine va_gets hx hb hs.2.2.2.2.1 zF_S hown (hts _ zj_fld_38) (fun _ h => h) zjd_cod_0 ?_
  refine lv_if_eq (tgt := 13) hx hb zjd_cod_3 (by decide) (fun h => absurd h (by decide)) (fun _ => ?_)
  refine lv_aload_n hx hb zjd_cod_6 rfl (lv_at hl 0 rfl) ?_
  refine vk_getf hx hb hs.2.1 zF_S hown (hts _ zj_fld_15) (fun _ h => h) zjd_cod_7 ?_
  refine lv_goto (tgt := 14) hx hb zjd_cod_10 (by decide) ?_
  exact W.zret (ty := .byte) hx hb hr rfl (fun t ht hW => zjQ_of ht) (fun _ h => by cases h) zjd_cod_14
set_option maxHeartbeats 4000000 in
set_option maxRecDepth 100000 in
theorem zj_latin (l : Launch) (q b : Nat) (bs : List Int32) : Met l zy_lat (.code zy_lat prog_18_method_154_code 1 (some .boolean) :: zGW) ({ frames := 0, cells := 0, slots := 0, locals := 0 }) (zjP [.ref q] q b bs) (zjQ 1) 0 0 zF := by
  refine Met.ofW (cc := prog_18_method_154_code) (maxL := 1) (ret := (some .boolean)) (by decide) rfl ?_
  intro p e s m args below meth c s₁ B hml hv
  obtain ⟨rfl, hs⟩ := hv
  have hx := B.exec
  have hb := B.bytes
  have hr := B.returns
  have hts := fun w h => atoms_spec (ws := .code zy_lat prog_18_method_154_code 1 (some .boolean) :: zGW) B.pre w (List.mem_cons_of_mem _ h)
  have hown : s.vm.findClass "java/lang/String" = some m.cls := findClass_of_methodNamed B.named
  have hlocks := B.notSynchronized
  have hl := lv_entry ([.ref q]) (n := 1) (Nat.le_of_ble_eq_true rfl)
  rw [lg_entry_eq]
  generalize (lg_sl ([.ref q]) ++ List.replicate (1 - (lg_sl ([.ref q])).length) Slot.unset).toArray = ls at hl ⊢
  have hl : lv_has ls 1 [(0, .ref q)] := hl
  refine va_gets hx hb hs.2.2.2.2.1 zF_S hown (hts _ zj_fld_38) (fun _ h => h) zjd_lat_0 ?_
  refine lv_if_eq (tgt := 17) hx hb zjd_lat_3 (by decide) (fun h => absurd h (by decide)) (fun _ => ?_)
  refine lv_aload_n hx hb zjd_lat_6 rfl (lv_at hl 0 rfl) ?_
  refine vk_getf hx hb hs.2.1 zF_S hown (hts _ zj_fld_15) (fun _ h => h) zjd_lat_7 ?_
  refine lv_if_ne (tgt := 17) hx hb zjd_lat_10 (by decide) (fun h => absurd rfl h) (fun _ => ?_)
  refine lv_iconst (v := 1) hx hb zjd_lat_13 (by decide) ?_
  refine lv_goto (tgt := 18) hx hb zjd_lat_14 (by decide) ?_
  exact W.zret (ty := .boolean) hx hb hr rfl (fun t ht hW => zjQ_of ht) (fun _ h => by cases h) zjd_lat_18
set_option maxHeartbeats 4000000 in
set_option maxRecDepth 100000 in
theorem zj_length (l : Launch) (q b : Nat) (bs : List Int32) (hL : bs.length < 2 ^ 31) : Met l zy_len (.code zy_len prog_18_method_54_code 1 (some .int) :: zGW) ({ frames := 1, cells := 0, slots := 0, locals := 20 }) (zjP [.ref q] q b bs) (zjQ (Int32.ofNat bs.length)) 0 0 zF := by
  refine Met.ofW (cc := prog_18_method_54_code) (maxL := 1) (ret := (some .int)) (by decide) rfl ?_
  intro p e s m args below meth c s₁ B hml hv
  obtain ⟨rfl, hs⟩ := hv
  have hx := B.exec
  have hb := B.bytes
  have hr := B.returns
  have hts := fun w h => atoms_spec (ws := .code zy_len prog_18_method_54_code 1 (some .int) :: zGW) B.pre w (List.mem_cons_of_mem _ h)
  have hown : s.vm.findClass "java/lang/String" = some m.cls := findClass_of_methodNamed B.named
  have hlocks := B.notSynchronized
  have hl := lv_entry ([.ref q]) (n := 1) (Nat.le_of_ble_eq_true rfl)
  rw [lg_entry_eq]
  generalize (lg_sl ([.ref q]) ++ List.replicate (1 - (lg_sl ([.ref q])).length) Slot.unset).toArray = ls at hl ⊢
  have hl : lv_has ls 1 [(0, .ref q)] := hl
  refine lv_aload_n hx hb zjd_len_0 rfl (lv_at hl 0 rfl) ?_
  refine vk_getf hx hb hs.2.2.1 zF_S hown (hts _ zj_fld_9) (fun _ h => h) zjd_len_1 ?_
  refine va_tlen hx hb hs.2.2.2.1 zF_S rfl zjd_len_4 ?_
  refine lv_aload_n hx hb zjd_len_5 rfl (lv_at hl 0 rfl) ?_
  obtain ⟨cell, g1, g2, g3, -⟩ := hs.1
  refine va_calli (H0 := s.heap) (A0 := zF) (va_runV (As := []) (rest := [.int (Int32.ofNat bs.length)]) ⟨hx, hb, hml, hown, hts⟩ (zj_coder l q b bs) (cwV 0 hts (zgi (zcons zj_link_cod (zcons zj_inst_cod (zcons zj_sel_cod (zcons zj_ini_s (zcons zj_code_cod zself)))))) rfl rfl rfl (by decide +kernel) ⟨Nat.le_of_ble_eq_true rfl, Nat.le_of_ble_eq_true rfl⟩) ⟨zjP_blind, ⟨cell, g1, g2, g3⟩, fun U hU hW => ⟨rfl, by show zjs _ _ _ zF U U.heap; rw [hU]; exact zjs.moved hW.alike hs⟩⟩ rfl rfl hl.1 rfl (lv_room (Nat.le_of_ble_eq_true rfl)) zjd_len_6 ⟨Nat.le_of_ble_eq_true rfl, Nat.le_of_ble_eq_true rfl⟩) zF_S (fun q _ h => h) (fun q h => h) (fun r u t H1 locs ht hvm hw hB hz1 hk1 hS => ?_)
  subst hw
  have hH : H1 = s.heap ∨ True := Or.inr trivial
  refine lv_ishr hx hb zjd_len_9 ?_
  have e0 : Int32.ofNat bs.length >>> ((0 : Int32) &&& 31) = Int32.ofNat bs.length := by
    show Int32.ofNat bs.length >>> (0 : Int32) = _
    exact Int32.shiftRight_zero
  rw [e0]
  exact W.iret hx hb hr (fun t ht hW => ⟨⟨_, (), rfl, rfl, trivial⟩, hS.F ht⟩) hS.2.2 zjd_len_10
set_option maxHeartbeats 4000000 in
set_option maxRecDepth 100000 in
theorem zj_pre (l : Launch) (i n : Int32) (v : Value) (h0 : ¬ i < 0) (h1 : i < n) : Met l zy_pi (.code zy_pi prog_24_method_11_code 3 (some .int) :: zGW) ({ frames := 0, cells := 0, slots := 0, locals := 0 }) (va_Pc [.int i, .int n, v] (fun _ => v.category = 1)) (zjQ i) 0 0 zF := by
  refine Met.ofW (cc := prog_24_method_11_code) (maxL := 3) (ret := (some .int)) (by decide) rfl ?_
  intro p e s m args below meth c s₁ B hml hv
  obtain ⟨rfl, hc⟩ := hv
  have hx := B.exec
  have hb := B.bytes
  have hr := B.returns
  have hlocks := B.notSynchronized
  have hlen : (lg_sl ([.int i, .int n, v])).length ≤ 3 := by
    cases v <;> first | exact Nat.le_of_ble_eq_true rfl | cases hc
  have hl := lv_entry ([.int i, .int n, v]) (n := 3) hlen
  rw [lg_entry_eq]
  generalize (lg_sl ([.int i, .int n, v]) ++ List.replicate (3 - (lg_sl ([.int i, .int n, v])).length) Slot.unset).toArray = ls at hl ⊢
  have h0' : ls[0]? = some (.val (.int i)) := hl.2.2 (0, .int i) (by simp [lv_args])
  have h1' : ls[1]? = some (.val (.int n)) := hl.2.2 (1, .int n) (by simp [lv_args, Value.category])
  refine lv_iload_n hx hb zjd_pi_0 rfl h0' ?_
  refine lv_if_lt (tgt := 9) hx hb zjd_pi_1 (by decide) (fun h => absurd h h0) (fun _ => ?_)
  refine lv_iload_n hx hb zjd_pi_4 rfl h0' ?_
  refine lv_iload_n hx hb zjd_pi_5 rfl h1' ?_
  refine lv_icmp_lt (tgt := 16) hx hb zjd_pi_6 (by decide) (fun _ => ?_) (fun h => absurd h1 h)
  refine lv_iload_n hx hb zjd_pi_16 rfl h0' ?_
  exact W.iret hx hb hr (fun t ht hW => zjQ_of ht) (fun _ h => by cases h) zjd_pi_17
set_option maxHeartbeats 4000000 in
set_option maxRecDepth 100000 in
theorem zj_check (l : Launch) (q b : Nat) (bs : List Int32) (i n : Int32) (h0 : ¬ i < 0) (h1 : i < n) : Met l zy_ci (.code zy_ci prog_18_method_155_code 2 none :: zGW) ({ frames := 1, cells := 0, slots := 0, locals := 22 }) (zjP [.int i, .int n] q b bs) (va_Qv (S := Unit) (fun _ => True) (fun _ _ => True) zF) 0 0 zF := by
  refine Met.ofW (cc := prog_18_method_155_code) (maxL := 2) (ret := none) (by decide) rfl ?_
  intro p e s m args below meth c s₁ B hml hv
  obtain ⟨rfl, hs⟩ := hv
  have hx := B.exec
  have hb := B.bytes
  have hr := B.returns
  have hts := fun w h => atoms_spec (ws := .code zy_ci prog_18_method_155_code 2 none :: zGW) B.pre w (List.mem_cons_of_mem _ h)
  have hown : s.vm.findClass "java/lang/String" = some m.cls := findClass_of_methodNamed B.named
  have hlocks := B.notSynchronized
  have hl := lv_entry ([.int i, .int n]) (n := 2) (Nat.le_of_ble_eq_true rfl)
  rw [lg_entry_eq]
  generalize (lg_sl ([.int i, .int n]) ++ List.replicate (2 - (lg_sl ([.int i, .int n])).length) Slot.unset).toArray = ls at hl ⊢
  have hl : lv_has ls 2 [(0, .int i), (1, .int n)] := hl
  refine lv_iload_n hx hb zjd_ci_0 rfl (lv_at hl 0 rfl) ?_
  refine lv_iload_n hx hb zjd_ci_1 rfl (lv_at hl 1 rfl) ?_
  have key : ∀ v : Value, v.category = 1 → va_Z "jdk/internal/util/Preconditions" "SIOOBE_FORMATTER" "Ljava/util/function/BiFunction;" v zF s s.heap → W p l e (headSpec (Cond.code zy_ci prog_18_method_155_code 2 none :: zGW) { frames := 1, cells := 0, slots := 0, locals := 22 }).room s m [Value.int i, Value.int n].toArray below meth c s.heap [] 0 0 (MQ below (va_Qv (S := Unit) (fun _ => True) (fun _ _ => True) zF) [Value.int i, Value.int n].toArray s 0 0 zF) (F0 m 2 ls [.int n, .int i]) := by
    intro v hv hZ
    refine va_gets hx hb hZ zF_S hown (hts _ zj_fld_1053) (fun _ h => h) zjd_ci_2 ?_
    refine va_calli (H0 := s.heap) (A0 := zF) (va_runS (As := [.int i, .int n, v]) (rest := []) ⟨hx, hb, hml, hown, hts⟩ (zj_pre l i n v h0 h1) (va_cwS 3 hts (zgi (zcons zj_link_pi (zcons zj_stat_pi (zcons zj_ini_p (zcons zj_code_pi zself))))) rfl rfl rfl (by decide +kernel) ⟨Nat.le_of_ble_eq_true rfl, Nat.le_of_ble_eq_true rfl⟩) ⟨fun a U g mk h => h, fun U hU hW => ⟨rfl, hv⟩⟩ rfl rfl hl.1 rfl (lv_room (Nat.le_of_ble_eq_true rfl)) zjd_ci_5 ⟨Nat.le_of_ble_eq_true rfl, Nat.le_of_ble_eq_true rfl⟩) zF_S (fun q _ h => h) (fun q h => h) (fun r u t H1 locs ht hvm hw hB hz1 hk1 hS => ?_)
    refine lv_pop hx hb zjd_ci_8 rfl ?_
    exact W.vret hx hb hr (fun t ht hW => ⟨⟨(), rfl, trivial, trivial⟩, hS.F ht⟩) hS.2.2 zjd_ci_9
  rcases hs.2.2.2.2.2 with h | ⟨t, h⟩
  · exact key .null rfl h
  · exact key (.ref t) rfl h
set_option maxHeartbeats 4000000 in
set_option maxRecDepth 100000 in
theorem zj_l1 (l : Launch) (q b : Nat) (bs : List Int32) (i : Int32) (h0 : ¬ i < 0) (hL : bs.length < 2 ^ 31) (h1 : i.toNatClampNeg < bs.length) : Met l zy_l1 (.code zy_l1 prog_19_method_2_code 2 (some .char) :: zGW) ({ frames := 2, cells := 0, slots := 0, locals := 43 }) (zjP [.ref b, .int i] q b bs) (zjQ (((bs.getD i.toNatClampNeg 0 &&& 255).toUInt32 % 65536).toInt32)) 0 0 zF := by
  refine Met.ofW (cc := prog_19_method_2_code) (maxL := 2) (ret := (some .char)) (by decide) rfl ?_
  intro p e s m args below meth c s₁ B hml hv
  obtain ⟨rfl, hs⟩ := hv
  have hx := B.exec
  have hb := B.bytes
  have hr := B.returns
  have hts := fun w h => atoms_spec (ws := .code zy_l1 prog_19_method_2_code 2 (some .char) :: zGW) B.pre w (List.mem_cons_of_mem _ h)
  have hown : s.vm.findClass "java/lang/StringLatin1" = some m.cls := findClass_of_methodNamed B.named
  have hlocks := B.notSynchronized
  have hl := lv_entry ([.ref b, .int i]) (n := 2) (Nat.le_of_ble_eq_true rfl)
  rw [lg_entry_eq]
  generalize (lg_sl ([.ref b, .int i]) ++ List.replicate (2 - (lg_sl ([.ref b, .int i])).length) Slot.unset).toArray = ls at hl ⊢
  have hl : lv_has ls 2 [(0, .ref b), (1, .int i)] := hl
  have hin : vp_in i bs.length := fun h => h.elim h0 (fun h => absurd h1 (Nat.not_lt.mpr h))
  have hlt : i < Int32.ofNat bs.length := by
    have e1 : i = Int32.ofNat i.toNatClampNeg := by
      apply Int32.toInt_inj.mp
      rw [Int32.toInt_ofNat_of_lt (Nat.lt_trans h1 hL)]
      have : 0 ≤ i.toInt := by
        have := Int32.not_lt.mp h0
        exact Int32.le_iff_toInt_le.mp this
      show i.toInt = (i.toInt.toNat : Int)
      omega
    rw [e1]
    exact (Int32.ofNat_lt_ofNat (Nat.lt_trans h1 hL) hL).mpr h1
  refine lv_iload_n hx hb zjd_l1_0 rfl (lv_at hl 1 rfl) ?_
  refine lv_aload_n hx hb zjd_l1_1 rfl (lv_at hl 0 rfl) ?_
  refine va_tlen hx hb hs.2.2.2.1 zF_S rfl zjd_l1_2 ?_
  refine va_callv (H0 := s.heap) (A0 := zF) (va_runS (As := [.int i, .int (Int32.ofNat bs.length)]) (rest := []) ⟨hx, hb, hml, hown, hts⟩ (zj_check l q b bs i (Int32.ofNat bs.length) h0 hlt) (va_cwS 2 hts (zgi (zcons zj_link_ci (zcons zj_stat_ci (zcons zj_ini_s (zcons zj_code_ci zself))))) rfl rfl rfl (by decide +kernel) ⟨Nat.le_of_ble_eq_true rfl, Nat.le_of_ble_eq_true rfl⟩) ⟨zjP_blind, fun U hU hW => ⟨rfl, by show zjs _ _ _ zF U U.heap; rw [hU]; exact zjs.moved hW.alike hs⟩⟩ rfl rfl hl.1 rfl (lv_room (Nat.le_of_ble_eq_true rfl)) zjd_l1_3 ⟨Nat.le_of_ble_eq_true rfl, Nat.le_of_ble_eq_true rfl⟩) zF_S (fun q _ h => h) (fun q h => h) (fun u t H1 locs ht hvm hw hB hz1 hk1 hS => ?_)
  refine lv_aload_n hx hb zjd_l1_6 rfl (lv_at hl 0 rfl) ?_
  refine lv_iload_n hx hb zjd_l1_7 rfl (lv_at hl 1 rfl) ?_
  refine va_tb hx hb hs.2.2.2.1 hS hin rfl zjd_l1_8 ?_
  refine lv_sipush hx hb zjd_l1_9 rfl ?_
  refine lv_iand hx hb zjd_l1_12 ?_
  refine lv_i2c hx hb zjd_l1_13 rfl ?_
  exact W.zret (ty := .char) hx hb hr (znar _) (fun t ht hW => ⟨⟨_, (), rfl, rfl, trivial⟩, hS.F ht⟩) hS.2.2 zjd_l1_14
set_option maxHeartbeats 4000000 in
set_option maxRecDepth 100000 in
theorem zj_charAt (l : Launch) (q b : Nat) (bs : List Int32) (i : Int32) (h0 : ¬ i < 0) (hL : bs.length < 2 ^ 31) (h1 : i.toNatClampNeg < bs.length) : Met l zy_chr (.code zy_chr prog_18_method_56_code 2 (some .char) :: zGW) ({ frames := 3, cells := 0, slots := 0, locals := 64 }) (zjP [.ref q, .int i] q b bs) (zjQ (((bs.getD i.toNatClampNeg 0 &&& 255).toUInt32 % 65536).toInt32)) 0 0 zF := by
  refine Met.ofW (cc := prog_18_method_56_code) (maxL := 2) (ret := (some .char)) (by decide) rfl ?_
  intro p e s m args below meth c s₁ B hml hv
  obtain ⟨rfl, hs⟩ := hv
  have hx := B.exec
  have hb := B.bytes
  have hr := B.returns
  have hts := fun w h => atoms_spec (ws := .code zy_chr prog_18_method_56_code 2 (some .char) :: zGW) B.pre w (List.mem_cons_of_mem _ h)
  have hown : s.vm.findClass "java/lang/String" = some m.cls := findClass_of_methodNamed B.named
  have hlocks := B.notSynchronized
  have hl := lv_entry ([.ref q, .int i]) (n := 2) (Nat.le_of_ble_eq_true rfl)
  rw [lg_entry_eq]
  generalize (lg_sl ([.ref q, .int i]) ++ List.replicate (2 - (lg_sl ([.ref q, .int i])).length) Slot.unset).toArray = ls at hl ⊢
  have hl : lv_has ls 2 [(0, .ref q), (1, .int i)] := hl
  refine lv_aload_n hx hb zjd_chr_0 rfl (lv_at hl 0 rfl) ?_
  obtain ⟨cell, g1, g2, g3, -⟩ := hs.1
  refine va_calli (H0 := s.heap) (A0 := zF) (va_runV (As := []) (rest := []) ⟨hx, hb, hml, hown, hts⟩ (zj_latin l q b bs) (cwV 0 hts (zgi (zcons zj_link_lat (zcons zj_inst_lat (zcons zj_sel_lat (zcons zj_ini_s (zcons zj_code_lat zself)))))) rfl rfl rfl (by decide +kernel) ⟨Nat.le_of_ble_eq_true rfl, Nat.le_of_ble_eq_true rfl⟩) ⟨zjP_blind, ⟨cell, g1, g2, g3⟩, fun U hU hW => ⟨rfl, by show zjs _ _ _ zF U U.heap; rw [hU]; exact zjs.moved hW.alike hs⟩⟩ rfl rfl hl.1 rfl (lv_room (Nat.le_of_ble_eq_true rfl)) zjd_chr_1 ⟨Nat.le_of_ble_eq_true rfl, Nat.le_of_ble_eq_true rfl⟩) zF_S (fun q _ h => h) (fun q h => h) (fun r u t H1 locs ht hvm hw hB hz1 hk1 hS => ?_)
  subst hw
  have hs1 : zjs q b bs zF s H1 := hs.kept hk1
  refine lv_if_eq (tgt := 16) hx hb zjd_chr_4 (by decide) (fun h => absurd h (by decide)) (fun _ => ?_)
  refine lv_aload_n hx hb zjd_chr_7 rfl (lv_at hl 0 rfl) ?_
  refine vk_getf hx hb hs.2.2.1 hS hown (hts _ zj_fld_9) (fun _ h => h) zjd_chr_8 ?_
  refine lv_iload_n hx hb zjd_chr_11 rfl (lv_at hl 1 rfl) ?_
  refine va_calli (H0 := s.heap) (A0 := zF) (va_runS (As := [.ref b, .int i]) (rest := []) ⟨hx, hb, hml, hown, hts⟩ (zj_l1 l q b bs i h0 hL h1) (va_cwS 2 hts (zgi (zcons zj_link_l1 (zcons zj_stat_l1 (zcons zj_ini_l (zcons zj_code_l1 zself))))) rfl rfl rfl (by decide +kernel) ⟨Nat.le_of_ble_eq_true rfl, Nat.le_of_ble_eq_true rfl⟩) ⟨zjP_blind, fun U hU hW => ⟨rfl, by show zjs _ _ _ zF U U.heap; rw [hU]; exact zjs.moved hW.alike hs1⟩⟩ rfl rfl hl.1 rfl (lv_room (Nat.le_of_ble_eq_true rfl)) zjd_chr_12 ⟨Nat.le_of_ble_eq_true rfl, Nat.le_of_ble_eq_true rfl⟩) hS (fun q _ h => h) (fun q h => h) (fun r u t H2 locs ht hvm hw hB hz2 hk2 hS => ?_)
  subst hw
  exact W.zret (ty := .char) hx hb hr (znar _) (fun t ht hW => ⟨⟨_, (), rfl, rfl, trivial⟩, hS.F ht⟩) hS.2.2 zjd_chr_15
