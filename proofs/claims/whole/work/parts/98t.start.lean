/-! The start: constructors over a heap as a list, by program (gen_ctor.py). -/
def zLi (l : List ZE) : ZH := fun a => (l[a]?).getD zNo
def zLc (l r : List ZE) (a b : Nat) : ZS := (zLi (l ++ r), (l.length + r.length, a, b))
theorem zLi_new (l : List ZE) (e : ZE) : zset (zLi l) l.length e = zLi (l ++ [e]) := by
  funext a
  unfold zset zLi
  split
  · rename_i h
    rw [h, List.getElem?_append_right (Nat.le_refl _), Nat.sub_self]
    rfl
  · rename_i h
    by_cases c : a < l.length
    · rw [List.getElem?_append_left c]
    · rw [List.getElem?_eq_none (by omega), List.getElem?_eq_none (by rw [List.length_append]; show l.length + 1 ≤ a; omega)]
theorem zLi_set (l r : List ZE) (j : Nat) (e : ZE) (h : j < r.length) : zset (zLi (l ++ r)) (l.length + j) e = zLi (l ++ r.set j e) := by
  funext a
  unfold zset zLi
  split
  · rename_i q
    rw [q, List.getElem?_append_right (Nat.le_add_right _ _), Nat.add_sub_cancel_left, List.getElem?_set_self h]
    rfl
  · rename_i q
    by_cases c : a < l.length
    · rw [List.getElem?_append_left c, List.getElem?_append_left c]
    · rw [List.getElem?_append_right (by omega), List.getElem?_append_right (by omega), List.getElem?_set_ne (by omega)]
theorem zLi_get {l r : List ZE} {j : Nat} {x : ZE} (h : r[j]? = some x) : zLi (l ++ r) (l.length + j) = x := by
  unfold zLi
  rw [List.getElem?_append_right (Nat.le_add_right _ _), Nat.add_sub_cancel_left, h]
  rfl
theorem zLc_app (l r0 r : List ZE) (a b : Nat) : zLc (l ++ r0) r a b = zLc l (r0 ++ r) a b := by
  unfold zLc
  rw [List.append_assoc, List.length_append, List.length_append, Nat.add_assoc]
theorem zln {r s : List ZE} {m n k : Nat} (h1 : r.length = m) (h2 : s.length = n) (h : m + n = k) : (r ++ s).length = k := by
  rw [List.length_append, h1, h2, h]
theorem zlh {h : ZE} {r : List ZE} {m n : Nat} (h1 : r.length = m) (h2 : m + 1 = n) : (h :: r).length = n := by
  rw [List.length_cons, h1, h2]
theorem zfin {l r r' : List ZE} {A A' B B' : Nat} (hr : r = r') (h1 : A = A') (h2 : B = B') : (some (.inl none, zLc l r A B) : Option ZR) = some (.inl none, zLc l r' A' B') := by
  rw [hr, h1, h2]
theorem zva8 (m : Nat) : (va_up (va_up (va_up (va_up (va_up (va_up (va_up (va_up (fun _ => none) 0 (some (m + 2))) 1 (some (m + 15))) 2 (some (m + 28))) 3 (some (m + 41))) 4 (some (m + 54))) 5 (some (m + 67))) 6 (some (m + 80))) 7 (some (m + 93)) : Nat → Option Nat) = fun j => [m + 2, m + 15, m + 28, m + 41, m + 54, m + 67, m + 80, m + 93][j]? := by
  funext j
  match j with
  | 0 => rfl
  | 1 => rfl
  | 2 => rfl
  | 3 => rfl
  | 4 => rfl
  | 5 => rfl
  | 6 => rfl
  | 7 => rfl
  | j + 8 =>
    unfold va_up
    rw [if_neg (by omega), if_neg (by omega), if_neg (by omega), if_neg (by omega), if_neg (by omega), if_neg (by omega), if_neg (by omega), if_neg (by omega)]
    rfl
theorem zgA {h x : ZE} {t blk : List ZE} {n : Nat} (hl : (h :: t).length = n) (hb : blk[0]? = some x) : (h :: (t ++ blk))[n]? = some x := by
  have e : h :: (t ++ blk) = (h :: t) ++ blk := rfl
  rw [e, List.getElem?_append_right (by rw [hl]; exact Nat.le_refl _), hl, Nat.sub_self]
  exact hb
theorem zlt_get {r : List ZE} {j : Nat} {x : ZE} (h : r[j]? = some x) : j < r.length := (List.getElem?_eq_some_iff.mp h).1
section
variable {X : ZX} {μ pc x y : Nat} {L st : List Value} {l r : List ZE} {a b : Nat}
theorem zst_4u {as L1 rest : List Value} {ins : Instr} {S S' : ZS} (hf : zfetch μ pc = some (ins, 3, 4, x, y)) (hc : zcw0 x st = some (as, L1, rest)) (hr : zrcv y as S.1 = true) (h : zev X x 0 L1 [] S = some (.inl none, S')) : zev X μ pc L st S = zev X μ (pc + 3) L rest S' := zst_4h hf hc hr h
theorem zq_new' {i n kk : Nat} {fs : List Value} (hf : zfetch μ pc = some (.new i, 3, 1, x, y)) (hd : zdef[x]? = some fs) (hn : r.length = n) (hk : fs.length = kk) : zev X μ pc L st (zLc l r a b) = zev X μ (pc + 3) L (.ref (l.length + n) :: st) (zLc l (r ++ [.inr (x, fs)]) (a + 1) (b + kk)) := by
  subst hn hk
  refine zst_1 hf ?_
  show zbind zdef[x]? (fun fs => some (Value.ref (l.length + r.length) :: st, zalloc (zLc l r a b) (.inr (x, fs)) fs.length)) = _
  rw [hd]
  show some (_, (zset (zLi (l ++ r)) (l.length + r.length) _, (l.length + r.length + 1, a + 1, b + fs.length))) = _
  rw [← List.length_append, zLi_new, List.append_assoc]
  unfold zLc
  rw [List.length_append, List.length_append]
  rfl
theorem zq_new {i n kk : Nat} {h : ZE} {fs : List Value} (hf : zfetch μ pc = some (.new i, 3, 1, x, y)) (hd : zdef[x]? = some fs) (hn : (h :: r).length = n) (hk : fs.length = kk) : zev X μ pc L st (zLc l (h :: r) a b) = zev X μ (pc + 3) L (.ref (l.length + n) :: st) (zLc l (h :: (r ++ [.inr (x, fs)])) (a + 1) (b + kk)) := by
  have key := @zq_new' X μ pc x y L st l (h :: r) a b i n kk fs hf hd hn hk
  exact key
theorem zq_arr' {t : ArrayType} {w : Int32} {m n : Nat} {q : Nat × ((Nat → Int32) ⊕ (Nat → Int64) ⊕ (Nat → UInt32) ⊕ (Nat → UInt64) ⊕ (Nat → Option Nat))} (hf : zfetch μ pc = some (.newarray t, 2, 1, x, y)) (hq : znewT t = some q) (hw : zwid w = true) (hm : w.toNatClampNeg = m) (hn : r.length = n) : zev X μ pc L (.int w :: st) (zLc l r a b) = zev X μ (pc + 2) L (.ref (l.length + n) :: st) (zLc l (r ++ [.inl (q.1, m, q.2)]) (a + 1) (b + m)) := by
  subst hn
  refine zst_1 hf ?_
  show zbind (znewT t) (fun q => if zwid w = true then some (Value.ref (l.length + r.length) :: st, zalloc (zLc l r a b) (.inl (q.1, w.toNatClampNeg, q.2)) w.toNatClampNeg) else none) = _
  rw [hq, zbind_some, if_pos hw, hm]
  show some (_, (zset (zLi (l ++ r)) (l.length + r.length) _, (l.length + r.length + 1, a + 1, b + m))) = _
  rw [← List.length_append, zLi_new, List.append_assoc]
  unfold zLc
  rw [List.length_append, List.length_append]
  rfl
theorem zq_arr {t : ArrayType} {w : Int32} {m n : Nat} {h : ZE} {q : Nat × ((Nat → Int32) ⊕ (Nat → Int64) ⊕ (Nat → UInt32) ⊕ (Nat → UInt64) ⊕ (Nat → Option Nat))} (hf : zfetch μ pc = some (.newarray t, 2, 1, x, y)) (hq : znewT t = some q) (hw : zwid w = true) (hm : w.toNatClampNeg = m) (hn : (h :: r).length = n) : zev X μ pc L (.int w :: st) (zLc l (h :: r) a b) = zev X μ (pc + 2) L (.ref (l.length + n) :: st) (zLc l (h :: (r ++ [.inl (q.1, m, q.2)])) (a + 1) (b + m)) := zq_arr' hf hq hw hm hn
theorem zq_arf' {i n : Nat} {w : Int32} {m : Nat} (hf : zfetch μ pc = some (.anewarray i, 3, 1, x, y)) (hw : zwid w = true) (hm : w.toNatClampNeg = m) (hn : r.length = n) : zev X μ pc L (.int w :: st) (zLc l r a b) = zev X μ (pc + 3) L (.ref (l.length + n) :: st) (zLc l (r ++ [.inl (5, m, .inr (.inr (.inr (.inr fun _ => none))))]) (a + 1) (b + m)) := by
  subst hn
  refine zst_1 hf ?_
  show (if zwid w = true then some (Value.ref (l.length + r.length) :: st, zalloc (zLc l r a b) (.inl (5, w.toNatClampNeg, .inr (.inr (.inr (.inr fun _ => none))))) w.toNatClampNeg) else none) = _
  rw [if_pos hw, hm]
  show some (_, (zset (zLi (l ++ r)) (l.length + r.length) _, (l.length + r.length + 1, a + 1, b + m))) = _
  rw [← List.length_append, zLi_new, List.append_assoc]
  unfold zLc
  rw [List.length_append, List.length_append]
  rfl
theorem zq_arf {i n : Nat} {w : Int32} {m : Nat} {h : ZE} (hf : zfetch μ pc = some (.anewarray i, 3, 1, x, y)) (hw : zwid w = true) (hm : w.toNatClampNeg = m) (hn : (h :: r).length = n) : zev X μ pc L (.int w :: st) (zLc l (h :: r) a b) = zev X μ (pc + 3) L (.ref (l.length + n) :: st) (zLc l (h :: (r ++ [.inl (5, m, .inr (.inr (.inr (.inr fun _ => none))))])) (a + 1) (b + m)) := zq_arf' hf hw hm hn
theorem zq_put {i j : Nat} {r' : List ZE} {fs : List Value} {v : Value} (hf : zfetch μ pc = some (.putfield i, 3, 1, x, y)) (hr : r[j]? = some (.inr (x, fs))) (hy : y < fs.length) (hfit : zfit (zTys.getD x (fun _ => .byte) y) v = true) (hs : r.set j (.inr (x, fs.set y v)) = r') : zev X μ pc L (v :: .ref (l.length + j) :: st) (zLc l r a b) = zev X μ (pc + 3) L st (zLc l r' a b) := by
  refine zst_1 hf ?_
  show (if zfit (zTys.getD x (fun _ => .byte) y) v = true then zbind (zputF (zLi (l ++ r)) (l.length + j) x y v) (fun h => some (st, (h, (l.length + r.length, a, b)))) else none) = _
  have e : zputF (zLi (l ++ r)) (l.length + j) x y v = some (zLi (l ++ r')) := by
    unfold zputF
    rw [zLi_get hr]
    show (if x = x ∧ y < fs.length then some (zset (zLi (l ++ r)) (l.length + j) (.inr (x, fs.set y v))) else none) = _
    rw [if_pos ⟨rfl, hy⟩, zLi_set l r j _ (zlt_get hr), hs]
  rw [if_pos hfit, e]
  have el : r'.length = r.length := by rw [← hs, List.length_set]
  unfold zLc
  rw [el]
  rfl
theorem zq_get {i j : Nat} {fs : List Value} {v : Value} (hf : zfetch μ pc = some (.getfield i, 3, 1, x, y)) (hr : r[j]? = some (.inr (x, fs))) (hv : fs[y]? = some v) : zev X μ pc L (.ref (l.length + j) :: st) (zLc l r a b) = zev X μ (pc + 3) L (v :: st) (zLc l r a b) := by
  refine zst_1 hf ?_
  show zbind (zgetF (zLi (l ++ r)) (l.length + j) x y) (fun v => some (v :: st, zLc l r a b)) = _
  have e : zgetF (zLi (l ++ r)) (l.length + j) x y = some v := by
    unfold zgetF
    rw [zLi_get hr]
    show (if x = x then fs[y]? else none) = _
    rw [if_pos rfl, hv]
  rw [e]
  rfl
theorem zq_put0 {i : Nat} {fs fs' : List Value} {v : Value} (hf : zfetch μ pc = some (.putfield i, 3, 1, x, y)) (hy : y < fs.length) (hfit : zfit (zTys.getD x (fun _ => .byte) y) v = true) (hs : fs.set y v = fs') : zev X μ pc L (v :: .ref l.length :: st) (zLc l (.inr (x, fs) :: r) a b) = zev X μ (pc + 3) L st (zLc l (.inr (x, fs') :: r) a b) := zq_put (j := 0) hf rfl hy hfit (by rw [← hs]; rfl)
theorem zq_get0 {i : Nat} {fs : List Value} {v : Value} (hf : zfetch μ pc = some (.getfield i, 3, 1, x, y)) (hv : fs[y]? = some v) : zev X μ pc L (.ref l.length :: st) (zLc l (.inr (x, fs) :: r) a b) = zev X μ (pc + 3) L (v :: st) (zLc l (.inr (x, fs) :: r) a b) := zq_get (j := 0) hf rfl hv
theorem zq_len {j n : Nat} {f : (Nat → Int32) ⊕ (Nat → Int64) ⊕ (Nat → UInt32) ⊕ (Nat → UInt64) ⊕ (Nat → Option Nat)} (hf : zfetch μ pc = some (.arraylength, 1, 1, x, y)) (hr : r[j]? = some (.inl (5, n, f))) : zev X μ pc L (.ref (l.length + j) :: st) (zLc l r a b) = zev X μ (pc + 1) L (.int (zi n) :: st) (zLc l r a b) := by
  refine zst_1 hf ?_
  show zbind (zalen (zLi (l ++ r)) (l.length + j)) (fun v => some (Value.int v :: st, zLc l r a b)) = _
  have e : zalen (zLi (l ++ r)) (l.length + j) = some (zi n) := by
    unfold zalen
    rw [zLi_get hr]
    rfl
  rw [e]
  rfl
theorem zq_ast {ji jb q n : Nat} {r' : List ZE} {f : Nat → Option Nat} {fs : List Value} {w : Int32} (hf : zfetch μ pc = some (.aastore, 1, 1, x, y)) (hr : r[ji]? = some (.inl (5, n, .inr (.inr (.inr (.inr f)))))) (hb : r[jb]? = some (.inr (2, fs))) (hq : w.toNatClampNeg = q) (hn : ¬ (w < 0 ∨ n ≤ w.toNatClampNeg ∨ 2 ≠ 2)) (hs : r.set ji (.inl (5, n, .inr (.inr (.inr (.inr (va_up f q (some (l.length + jb)))))))) = r') : zev X μ pc L (.ref (l.length + jb) :: .int w :: .ref (l.length + ji) :: st) (zLc l r a b) = zev X μ (pc + 1) L st (zLc l r' a b) := by
  refine zst_1 hf ?_
  show zbind (zast (zLi (l ++ r)) (l.length + ji) w (l.length + jb) 2) (fun h => some (st, (h, (l.length + r.length, a, b)))) = _
  have e : zast (zLi (l ++ r)) (l.length + ji) w (l.length + jb) 2 = some (zLi (l ++ r')) := by
    unfold zast
    rw [zLi_get hr, zLi_get hb]
    show (if w < 0 ∨ n ≤ w.toNatClampNeg ∨ 2 ≠ 2 then none else some (zset (zLi (l ++ r)) (l.length + ji) (.inl (5, n, .inr (.inr (.inr (.inr (va_up f w.toNatClampNeg (some (l.length + jb)))))))))) = _
    rw [if_neg hn, hq, zLi_set l r ji _ (zlt_get hr), hs]
  have el : r'.length = r.length := by rw [← hs, List.length_set]
  rw [e]
  unfold zLc
  rw [el]
  rfl
theorem zq_ast2 {jb q n : Nat} {h : ZE} {rest blk : List ZE} {f : Nat → Option Nat} {fs : List Value} {w : Int32} (hf : zfetch μ pc = some (.aastore, 1, 1, x, y)) (hl : (h :: .inl (5, n, .inr (.inr (.inr (.inr f)))) :: rest).length = jb) (hb : blk[0]? = some (.inr (2, fs))) (hq : w.toNatClampNeg = q) (hn : ¬ (w < 0 ∨ n ≤ w.toNatClampNeg ∨ 2 ≠ 2)) : zev X μ pc L (.ref (l.length + jb) :: .int w :: .ref (l.length + 1) :: st) (zLc l (h :: .inl (5, n, .inr (.inr (.inr (.inr f)))) :: (rest ++ blk)) a b) = zev X μ (pc + 1) L st (zLc l (h :: .inl (5, n, .inr (.inr (.inr (.inr (va_up f q (some (l.length + jb))))))) :: (rest ++ blk)) a b) := by
  refine zq_ast (ji := 1) (jb := jb) (fs := fs) hf rfl ?_ hq hn rfl
  have e : h :: (Sum.inl (5, n, .inr (.inr (.inr (.inr f)))) : ZE) :: (rest ++ blk) = (h :: .inl (5, n, .inr (.inr (.inr (.inr f)))) :: rest) ++ blk := rfl
  rw [e, List.getElem?_append_right (by rw [hl]; exact Nat.le_refl _), hl, Nat.sub_self]
  exact hb
theorem zct_app {d : ZE} {as : List Value} {blk : Nat → List ZE} {ca cb : Nat} (h : ∀ (l : List ZE) (a b : Nat), zev X x 0 (.ref l.length :: as) [] (zLc l [d] a b) = some (.inl none, zLc l (blk l.length) (a + ca) (b + cb))) (l r0 : List ZE) (n : Nat) (hn : r0.length = n) (a b : Nat) : zev X x 0 (.ref (l.length + n) :: as) [] (zLc l (r0 ++ [d]) a b) = some (.inl none, zLc l (r0 ++ blk (l.length + n)) (a + ca) (b + cb)) := by
  subst hn
  have g := h (l ++ r0) a b
  rw [zLc_app, zLc_app, List.length_append] at g
  exact g
end
section
variable {X : ZX}
def zbT1_5 (m : Nat) : List ZE := (.inr (5, [.int (zi 1), .int (zi 5), .ref (m + 1)]) :: ([] ++ [.inl (0, 5, .inl fun _ => 0)]))
theorem zbT1_5_len (m : Nat) : (zbT1_5 m).length = 2 := by
  unfold zbT1_5
  exact zlh (zln (rfl) (rfl) rfl) rfl
set_option maxHeartbeats 4000000 in
theorem cT1_50 (l : List ZE) (a b : Nat) : zev X 90 0 [.ref l.length, .int (zi 1), .int (zi 5)] [] (zLc l (.inr (5, [.int 0, .int 0, .null]) :: []) a b) = some (.inl none, zLc l (zbT1_5 l.length) (a + 1) (b + 5)) := (zst_p 1 (pc' := 1) (L' := [.ref l.length, .int (zi 1), .int (zi 5)]) (st' := [.ref l.length]) rfl).trans ((zst_6 (st' := []) rfl (Nat.le_of_ble_eq_true rfl) rfl).trans ((zst_p 2 (pc' := 6) (L' := [.ref l.length, .int (zi 1), .int (zi 5)]) (st' := [.int (zi 1), .ref l.length]) rfl).trans ((zq_put0 (l := l) (r := []) (fs := [.int 0, .int 0, .null]) (fs' := [.int (zi 1), .int 0, .null]) rfl (Nat.le_of_ble_eq_true rfl) rfl rfl).trans ((zst_p 2 (pc' := 11) (L' := [.ref l.length, .int (zi 1), .int (zi 5)]) (st' := [.int (zi 5), .ref l.length]) rfl).trans ((zq_put0 (l := l) (r := []) (fs := [.int (zi 1), .int 0, .null]) (fs' := [.int (zi 1), .int (zi 5), .null]) rfl (Nat.le_of_ble_eq_true rfl) rfl rfl).trans ((zst_p 5 (pc' := 19) (L' := [.ref l.length, .int (zi 1), .int (zi 5)]) (st' := [.int (zi 5), .int (zi 0), .ref l.length]) rfl).trans ((zst_6 (st' := [.int (zi 5), .ref l.length]) rfl (Nat.le_of_ble_eq_true rfl) rfl).trans ((zq_arr (h := .inr (5, [.int (zi 1), .int (zi 5), .null])) (r := []) (m := 5) (n := 1) rfl rfl (by decide) (by decide) (zlh (rfl) rfl)).trans ((zq_put0 (l := l) (r := ([] ++ [.inl (0, 5, .inl fun _ => 0)])) (fs := [.int (zi 1), .int (zi 5), .null]) (fs' := [.int (zi 1), .int (zi 5), .ref (l.length + 1)]) rfl (Nat.le_of_ble_eq_true rfl) rfl rfl).trans ((zst_3 rfl rfl).trans (zfin rfl (by omega) (by omega))))))))))))
theorem cT1_5 (l : List ZE) (h : ZE) (r0 : List ZE) (n : Nat) (hn : (h :: r0).length = n) (a b : Nat) : zev X 90 0 [.ref (l.length + n), .int (zi 1), .int (zi 5)] [] (zLc l (h :: (r0 ++ (.inr (5, [.int 0, .int 0, .null]) :: []))) a b) = some (.inl none, zLc l (h :: (r0 ++ zbT1_5 (l.length + n))) (a + 1) (b + 5)) := zct_app cT1_50 l (h :: r0) n hn a b
def zbT1_15 (m : Nat) : List ZE := (.inr (5, [.int (zi 1), .int (zi 15), .ref (m + 1)]) :: ([] ++ [.inl (0, 15, .inl fun _ => 0)]))
theorem zbT1_15_len (m : Nat) : (zbT1_15 m).length = 2 := by
  unfold zbT1_15
  exact zlh (zln (rfl) (rfl) rfl) rfl
set_option maxHeartbeats 4000000 in
theorem cT1_150 (l : List ZE) (a b : Nat) : zev X 90 0 [.ref l.length, .int (zi 1), .int (zi 15)] [] (zLc l (.inr (5, [.int 0, .int 0, .null]) :: []) a b) = some (.inl none, zLc l (zbT1_15 l.length) (a + 1) (b + 15)) := (zst_p 1 (pc' := 1) (L' := [.ref l.length, .int (zi 1), .int (zi 15)]) (st' := [.ref l.length]) rfl).trans ((zst_6 (st' := []) rfl (Nat.le_of_ble_eq_true rfl) rfl).trans ((zst_p 2 (pc' := 6) (L' := [.ref l.length, .int (zi 1), .int (zi 15)]) (st' := [.int (zi 1), .ref l.length]) rfl).trans ((zq_put0 (l := l) (r := []) (fs := [.int 0, .int 0, .null]) (fs' := [.int (zi 1), .int 0, .null]) rfl (Nat.le_of_ble_eq_true rfl) rfl rfl).trans ((zst_p 2 (pc' := 11) (L' := [.ref l.length, .int (zi 1), .int (zi 15)]) (st' := [.int (zi 15), .ref l.length]) rfl).trans ((zq_put0 (l := l) (r := []) (fs := [.int (zi 1), .int 0, .null]) (fs' := [.int (zi 1), .int (zi 15), .null]) rfl (Nat.le_of_ble_eq_true rfl) rfl rfl).trans ((zst_p 5 (pc' := 19) (L' := [.ref l.length, .int (zi 1), .int (zi 15)]) (st' := [.int (zi 15), .int (zi 0), .ref l.length]) rfl).trans ((zst_6 (st' := [.int (zi 15), .ref l.length]) rfl (Nat.le_of_ble_eq_true rfl) rfl).trans ((zq_arr (h := .inr (5, [.int (zi 1), .int (zi 15), .null])) (r := []) (m := 15) (n := 1) rfl rfl (by decide) (by decide) (zlh (rfl) rfl)).trans ((zq_put0 (l := l) (r := ([] ++ [.inl (0, 15, .inl fun _ => 0)])) (fs := [.int (zi 1), .int (zi 15), .null]) (fs' := [.int (zi 1), .int (zi 15), .ref (l.length + 1)]) rfl (Nat.le_of_ble_eq_true rfl) rfl rfl).trans ((zst_3 rfl rfl).trans (zfin rfl (by omega) (by omega))))))))))))
theorem cT1_15 (l : List ZE) (h : ZE) (r0 : List ZE) (n : Nat) (hn : (h :: r0).length = n) (a b : Nat) : zev X 90 0 [.ref (l.length + n), .int (zi 1), .int (zi 15)] [] (zLc l (h :: (r0 ++ (.inr (5, [.int 0, .int 0, .null]) :: []))) a b) = some (.inl none, zLc l (h :: (r0 ++ zbT1_15 (l.length + n))) (a + 1) (b + 15)) := zct_app cT1_150 l (h :: r0) n hn a b
def zbT6_12 (m : Nat) : List ZE := (.inr (5, [.int (zi 6), .int (zi 12), .ref (m + 1)]) :: ([] ++ [.inl (0, 72, .inl fun _ => 0)]))
theorem zbT6_12_len (m : Nat) : (zbT6_12 m).length = 2 := by
  unfold zbT6_12
  exact zlh (zln (rfl) (rfl) rfl) rfl
set_option maxHeartbeats 4000000 in
theorem cT6_120 (l : List ZE) (a b : Nat) : zev X 90 0 [.ref l.length, .int (zi 6), .int (zi 12)] [] (zLc l (.inr (5, [.int 0, .int 0, .null]) :: []) a b) = some (.inl none, zLc l (zbT6_12 l.length) (a + 1) (b + 72)) := (zst_p 1 (pc' := 1) (L' := [.ref l.length, .int (zi 6), .int (zi 12)]) (st' := [.ref l.length]) rfl).trans ((zst_6 (st' := []) rfl (Nat.le_of_ble_eq_true rfl) rfl).trans ((zst_p 2 (pc' := 6) (L' := [.ref l.length, .int (zi 6), .int (zi 12)]) (st' := [.int (zi 6), .ref l.length]) rfl).trans ((zq_put0 (l := l) (r := []) (fs := [.int 0, .int 0, .null]) (fs' := [.int (zi 6), .int 0, .null]) rfl (Nat.le_of_ble_eq_true rfl) rfl rfl).trans ((zst_p 2 (pc' := 11) (L' := [.ref l.length, .int (zi 6), .int (zi 12)]) (st' := [.int (zi 12), .ref l.length]) rfl).trans ((zq_put0 (l := l) (r := []) (fs := [.int (zi 6), .int 0, .null]) (fs' := [.int (zi 6), .int (zi 12), .null]) rfl (Nat.le_of_ble_eq_true rfl) rfl rfl).trans ((zst_p 5 (pc' := 19) (L' := [.ref l.length, .int (zi 6), .int (zi 12)]) (st' := [.int (zi 72), .int (zi 0), .ref l.length]) rfl).trans ((zst_6 (st' := [.int (zi 72), .ref l.length]) rfl (Nat.le_of_ble_eq_true rfl) rfl).trans ((zq_arr (h := .inr (5, [.int (zi 6), .int (zi 12), .null])) (r := []) (m := 72) (n := 1) rfl rfl (by decide) (by decide) (zlh (rfl) rfl)).trans ((zq_put0 (l := l) (r := ([] ++ [.inl (0, 72, .inl fun _ => 0)])) (fs := [.int (zi 6), .int (zi 12), .null]) (fs' := [.int (zi 6), .int (zi 12), .ref (l.length + 1)]) rfl (Nat.le_of_ble_eq_true rfl) rfl rfl).trans ((zst_3 rfl rfl).trans (zfin rfl (by omega) (by omega))))))))))))
theorem cT6_12 (l : List ZE) (h : ZE) (r0 : List ZE) (n : Nat) (hn : (h :: r0).length = n) (a b : Nat) : zev X 90 0 [.ref (l.length + n), .int (zi 6), .int (zi 12)] [] (zLc l (h :: (r0 ++ (.inr (5, [.int 0, .int 0, .null]) :: []))) a b) = some (.inl none, zLc l (h :: (r0 ++ zbT6_12 (l.length + n))) (a + 1) (b + 72)) := zct_app cT6_120 l (h :: r0) n hn a b
def zbT72_5 (m : Nat) : List ZE := (.inr (5, [.int (zi 72), .int (zi 5), .ref (m + 1)]) :: ([] ++ [.inl (0, 360, .inl fun _ => 0)]))
theorem zbT72_5_len (m : Nat) : (zbT72_5 m).length = 2 := by
  unfold zbT72_5
  exact zlh (zln (rfl) (rfl) rfl) rfl
set_option maxHeartbeats 4000000 in
theorem cT72_50 (l : List ZE) (a b : Nat) : zev X 90 0 [.ref l.length, .int (zi 72), .int (zi 5)] [] (zLc l (.inr (5, [.int 0, .int 0, .null]) :: []) a b) = some (.inl none, zLc l (zbT72_5 l.length) (a + 1) (b + 360)) := (zst_p 1 (pc' := 1) (L' := [.ref l.length, .int (zi 72), .int (zi 5)]) (st' := [.ref l.length]) rfl).trans ((zst_6 (st' := []) rfl (Nat.le_of_ble_eq_true rfl) rfl).trans ((zst_p 2 (pc' := 6) (L' := [.ref l.length, .int (zi 72), .int (zi 5)]) (st' := [.int (zi 72), .ref l.length]) rfl).trans ((zq_put0 (l := l) (r := []) (fs := [.int 0, .int 0, .null]) (fs' := [.int (zi 72), .int 0, .null]) rfl (Nat.le_of_ble_eq_true rfl) rfl rfl).trans ((zst_p 2 (pc' := 11) (L' := [.ref l.length, .int (zi 72), .int (zi 5)]) (st' := [.int (zi 5), .ref l.length]) rfl).trans ((zq_put0 (l := l) (r := []) (fs := [.int (zi 72), .int 0, .null]) (fs' := [.int (zi 72), .int (zi 5), .null]) rfl (Nat.le_of_ble_eq_true rfl) rfl rfl).trans ((zst_p 5 (pc' := 19) (L' := [.ref l.length, .int (zi 72), .int (zi 5)]) (st' := [.int (zi 360), .int (zi 0), .ref l.length]) rfl).trans ((zst_6 (st' := [.int (zi 360), .ref l.length]) rfl (Nat.le_of_ble_eq_true rfl) rfl).trans ((zq_arr (h := .inr (5, [.int (zi 72), .int (zi 5), .null])) (r := []) (m := 360) (n := 1) rfl rfl (by decide) (by decide) (zlh (rfl) rfl)).trans ((zq_put0 (l := l) (r := ([] ++ [.inl (0, 360, .inl fun _ => 0)])) (fs := [.int (zi 72), .int (zi 5), .null]) (fs' := [.int (zi 72), .int (zi 5), .ref (l.length + 1)]) rfl (Nat.le_of_ble_eq_true rfl) rfl rfl).trans ((zst_3 rfl rfl).trans (zfin rfl (by omega) (by omega))))))))))))
theorem cT72_5 (l : List ZE) (h : ZE) (r0 : List ZE) (n : Nat) (hn : (h :: r0).length = n) (a b : Nat) : zev X 90 0 [.ref (l.length + n), .int (zi 72), .int (zi 5)] [] (zLc l (h :: (r0 ++ (.inr (5, [.int 0, .int 0, .null]) :: []))) a b) = some (.inl none, zLc l (h :: (r0 ++ zbT72_5 (l.length + n))) (a + 1) (b + 360)) := zct_app cT72_50 l (h :: r0) n hn a b
def zbT64_3 (m : Nat) : List ZE := (.inr (5, [.int (zi 64), .int (zi 3), .ref (m + 1)]) :: ([] ++ [.inl (0, 192, .inl fun _ => 0)]))
theorem zbT64_3_len (m : Nat) : (zbT64_3 m).length = 2 := by
  unfold zbT64_3
  exact zlh (zln (rfl) (rfl) rfl) rfl
set_option maxHeartbeats 4000000 in
theorem cT64_30 (l : List ZE) (a b : Nat) : zev X 90 0 [.ref l.length, .int (zi 64), .int (zi 3)] [] (zLc l (.inr (5, [.int 0, .int 0, .null]) :: []) a b) = some (.inl none, zLc l (zbT64_3 l.length) (a + 1) (b + 192)) := (zst_p 1 (pc' := 1) (L' := [.ref l.length, .int (zi 64), .int (zi 3)]) (st' := [.ref l.length]) rfl).trans ((zst_6 (st' := []) rfl (Nat.le_of_ble_eq_true rfl) rfl).trans ((zst_p 2 (pc' := 6) (L' := [.ref l.length, .int (zi 64), .int (zi 3)]) (st' := [.int (zi 64), .ref l.length]) rfl).trans ((zq_put0 (l := l) (r := []) (fs := [.int 0, .int 0, .null]) (fs' := [.int (zi 64), .int 0, .null]) rfl (Nat.le_of_ble_eq_true rfl) rfl rfl).trans ((zst_p 2 (pc' := 11) (L' := [.ref l.length, .int (zi 64), .int (zi 3)]) (st' := [.int (zi 3), .ref l.length]) rfl).trans ((zq_put0 (l := l) (r := []) (fs := [.int (zi 64), .int 0, .null]) (fs' := [.int (zi 64), .int (zi 3), .null]) rfl (Nat.le_of_ble_eq_true rfl) rfl rfl).trans ((zst_p 5 (pc' := 19) (L' := [.ref l.length, .int (zi 64), .int (zi 3)]) (st' := [.int (zi 192), .int (zi 0), .ref l.length]) rfl).trans ((zst_6 (st' := [.int (zi 192), .ref l.length]) rfl (Nat.le_of_ble_eq_true rfl) rfl).trans ((zq_arr (h := .inr (5, [.int (zi 64), .int (zi 3), .null])) (r := []) (m := 192) (n := 1) rfl rfl (by decide) (by decide) (zlh (rfl) rfl)).trans ((zq_put0 (l := l) (r := ([] ++ [.inl (0, 192, .inl fun _ => 0)])) (fs := [.int (zi 64), .int (zi 3), .null]) (fs' := [.int (zi 64), .int (zi 3), .ref (l.length + 1)]) rfl (Nat.le_of_ble_eq_true rfl) rfl rfl).trans ((zst_3 rfl rfl).trans (zfin rfl (by omega) (by omega))))))))))))
theorem cT64_3 (l : List ZE) (h : ZE) (r0 : List ZE) (n : Nat) (hn : (h :: r0).length = n) (a b : Nat) : zev X 90 0 [.ref (l.length + n), .int (zi 64), .int (zi 3)] [] (zLc l (h :: (r0 ++ (.inr (5, [.int 0, .int 0, .null]) :: []))) a b) = some (.inl none, zLc l (h :: (r0 ++ zbT64_3 (l.length + n))) (a + 1) (b + 192)) := zct_app cT64_30 l (h :: r0) n hn a b
def zbT6_1 (m : Nat) : List ZE := (.inr (5, [.int (zi 6), .int (zi 1), .ref (m + 1)]) :: ([] ++ [.inl (0, 6, .inl fun _ => 0)]))
theorem zbT6_1_len (m : Nat) : (zbT6_1 m).length = 2 := by
  unfold zbT6_1
  exact zlh (zln (rfl) (rfl) rfl) rfl
set_option maxHeartbeats 4000000 in
theorem cT6_10 (l : List ZE) (a b : Nat) : zev X 90 0 [.ref l.length, .int (zi 6), .int (zi 1)] [] (zLc l (.inr (5, [.int 0, .int 0, .null]) :: []) a b) = some (.inl none, zLc l (zbT6_1 l.length) (a + 1) (b + 6)) := (zst_p 1 (pc' := 1) (L' := [.ref l.length, .int (zi 6), .int (zi 1)]) (st' := [.ref l.length]) rfl).trans ((zst_6 (st' := []) rfl (Nat.le_of_ble_eq_true rfl) rfl).trans ((zst_p 2 (pc' := 6) (L' := [.ref l.length, .int (zi 6), .int (zi 1)]) (st' := [.int (zi 6), .ref l.length]) rfl).trans ((zq_put0 (l := l) (r := []) (fs := [.int 0, .int 0, .null]) (fs' := [.int (zi 6), .int 0, .null]) rfl (Nat.le_of_ble_eq_true rfl) rfl rfl).trans ((zst_p 2 (pc' := 11) (L' := [.ref l.length, .int (zi 6), .int (zi 1)]) (st' := [.int (zi 1), .ref l.length]) rfl).trans ((zq_put0 (l := l) (r := []) (fs := [.int (zi 6), .int 0, .null]) (fs' := [.int (zi 6), .int (zi 1), .null]) rfl (Nat.le_of_ble_eq_true rfl) rfl rfl).trans ((zst_p 5 (pc' := 19) (L' := [.ref l.length, .int (zi 6), .int (zi 1)]) (st' := [.int (zi 6), .int (zi 0), .ref l.length]) rfl).trans ((zst_6 (st' := [.int (zi 6), .ref l.length]) rfl (Nat.le_of_ble_eq_true rfl) rfl).trans ((zq_arr (h := .inr (5, [.int (zi 6), .int (zi 1), .null])) (r := []) (m := 6) (n := 1) rfl rfl (by decide) (by decide) (zlh (rfl) rfl)).trans ((zq_put0 (l := l) (r := ([] ++ [.inl (0, 6, .inl fun _ => 0)])) (fs := [.int (zi 6), .int (zi 1), .null]) (fs' := [.int (zi 6), .int (zi 1), .ref (l.length + 1)]) rfl (Nat.le_of_ble_eq_true rfl) rfl rfl).trans ((zst_3 rfl rfl).trans (zfin rfl (by omega) (by omega))))))))))))
theorem cT6_1 (l : List ZE) (h : ZE) (r0 : List ZE) (n : Nat) (hn : (h :: r0).length = n) (a b : Nat) : zev X 90 0 [.ref (l.length + n), .int (zi 6), .int (zi 1)] [] (zLc l (h :: (r0 ++ (.inr (5, [.int 0, .int 0, .null]) :: []))) a b) = some (.inl none, zLc l (h :: (r0 ++ zbT6_1 (l.length + n))) (a + 1) (b + 6)) := zct_app cT6_10 l (h :: r0) n hn a b
def zbB600 (m : Nat) : List ZE := (.inr (0, [.ref (m + 1), .int 0]) :: ([] ++ [.inl (0, 600, .inl fun _ => 0)]))
theorem zbB600_len (m : Nat) : (zbB600 m).length = 2 := by
  unfold zbB600
  exact zlh (zln (rfl) (rfl) rfl) rfl
set_option maxHeartbeats 4000000 in
theorem cB6000 (l : List ZE) (a b : Nat) : zev X 0 0 [.ref l.length, .int (zi 600)] [] (zLc l (.inr (0, [.null, .int 0]) :: []) a b) = some (.inl none, zLc l (zbB600 l.length) (a + 1) (b + 600)) := (zst_p 1 (pc' := 1) (L' := [.ref l.length, .int (zi 600)]) (st' := [.ref l.length]) rfl).trans ((zst_6 (st' := []) rfl (Nat.le_of_ble_eq_true rfl) rfl).trans ((zst_p 3 (pc' := 7) (L' := [.ref l.length, .int (zi 600)]) (st' := [.int (zi 600), .int (zi 0), .ref l.length]) rfl).trans ((zst_6 (st' := [.int (zi 600), .ref l.length]) rfl (Nat.le_of_ble_eq_true rfl) rfl).trans ((zq_arr (h := .inr (0, [.null, .int 0])) (r := []) (m := 600) (n := 1) rfl rfl (by decide) (by decide) (zlh (rfl) rfl)).trans ((zq_put0 (l := l) (r := ([] ++ [.inl (0, 600, .inl fun _ => 0)])) (fs := [.null, .int 0]) (fs' := [.ref (l.length + 1), .int 0]) rfl (Nat.le_of_ble_eq_true rfl) rfl rfl).trans ((zst_3 rfl rfl).trans (zfin rfl (by omega) (by omega))))))))
theorem cB600 (l : List ZE) (h : ZE) (r0 : List ZE) (n : Nat) (hn : (h :: r0).length = n) (a b : Nat) : zev X 0 0 [.ref (l.length + n), .int (zi 600)] [] (zLc l (h :: (r0 ++ (.inr (0, [.null, .int 0]) :: []))) a b) = some (.inl none, zLc l (h :: (r0 ++ zbB600 (l.length + n))) (a + 1) (b + 600)) := zct_app cB6000 l (h :: r0) n hn a b
def zbB1024 (m : Nat) : List ZE := (.inr (0, [.ref (m + 1), .int 0]) :: ([] ++ [.inl (0, 1024, .inl fun _ => 0)]))
theorem zbB1024_len (m : Nat) : (zbB1024 m).length = 2 := by
  unfold zbB1024
  exact zlh (zln (rfl) (rfl) rfl) rfl
set_option maxHeartbeats 4000000 in
theorem cB10240 (l : List ZE) (a b : Nat) : zev X 0 0 [.ref l.length, .int (zi 1024)] [] (zLc l (.inr (0, [.null, .int 0]) :: []) a b) = some (.inl none, zLc l (zbB1024 l.length) (a + 1) (b + 1024)) := (zst_p 1 (pc' := 1) (L' := [.ref l.length, .int (zi 1024)]) (st' := [.ref l.length]) rfl).trans ((zst_6 (st' := []) rfl (Nat.le_of_ble_eq_true rfl) rfl).trans ((zst_p 3 (pc' := 7) (L' := [.ref l.length, .int (zi 1024)]) (st' := [.int (zi 1024), .int (zi 0), .ref l.length]) rfl).trans ((zst_6 (st' := [.int (zi 1024), .ref l.length]) rfl (Nat.le_of_ble_eq_true rfl) rfl).trans ((zq_arr (h := .inr (0, [.null, .int 0])) (r := []) (m := 1024) (n := 1) rfl rfl (by decide) (by decide) (zlh (rfl) rfl)).trans ((zq_put0 (l := l) (r := ([] ++ [.inl (0, 1024, .inl fun _ => 0)])) (fs := [.null, .int 0]) (fs' := [.ref (l.length + 1), .int 0]) rfl (Nat.le_of_ble_eq_true rfl) rfl rfl).trans ((zst_3 rfl rfl).trans (zfin rfl (by omega) (by omega))))))))
theorem cB1024 (l : List ZE) (h : ZE) (r0 : List ZE) (n : Nat) (hn : (h :: r0).length = n) (a b : Nat) : zev X 0 0 [.ref (l.length + n), .int (zi 1024)] [] (zLc l (h :: (r0 ++ (.inr (0, [.null, .int 0]) :: []))) a b) = some (.inl none, zLc l (h :: (r0 ++ zbB1024 (l.length + n))) (a + 1) (b + 1024)) := zct_app cB10240 l (h :: r0) n hn a b
def zbMch (m : Nat) : List ZE := (.inr (2, [.ref (m + 1), .ref (m + 3), .ref (m + 5), .ref (m + 7), .ref (m + 9), .ref (m + 11), .int 0]) :: (((((([] ++ zbT1_5 (m + 1)) ++ zbT1_15 (m + 3)) ++ zbT6_12 (m + 5)) ++ zbT72_5 (m + 7)) ++ zbT64_3 (m + 9)) ++ zbT6_1 (m + 11)))
theorem zbMch_len (m : Nat) : (zbMch m).length = 13 := by
  unfold zbMch
  exact zlh (zln (zln (zln (zln (zln (zln (rfl) (zbT1_5_len _) rfl) (zbT1_15_len _) rfl) (zbT6_12_len _) rfl) (zbT72_5_len _) rfl) (zbT64_3_len _) rfl) (zbT6_1_len _) rfl) rfl
set_option maxHeartbeats 4000000 in
theorem cMch0 (l : List ZE) (a b : Nat) : zev X 16 0 [.ref l.length] [] (zLc l (.inr (2, [.null, .null, .null, .null, .null, .null, .int 0]) :: []) a b) = some (.inl none, zLc l (zbMch l.length) (a + 12) (b + 668)) := (zst_p 1 (pc' := 1) (L' := [.ref l.length]) (st' := [.ref l.length]) rfl).trans ((zst_6 (st' := []) rfl (Nat.le_of_ble_eq_true rfl) rfl).trans ((zst_p 1 (pc' := 5) (L' := [.ref l.length]) (st' := [.ref l.length]) rfl).trans ((zq_new (h := .inr (2, [.null, .null, .null, .null, .null, .null, .int 0])) (r := []) (fs := [.int 0, .int 0, .null]) (n := 1) (kk := 3) rfl rfl (zlh (rfl) rfl) rfl).trans ((zst_p 3 (pc' := 11) (L' := [.ref l.length]) (st' := [.int (zi 5), .int (zi 1), .ref (l.length + 1), .ref (l.length + 1), .ref l.length]) rfl).trans ((zst_4u (L1 := [.ref (l.length + 1), .int (zi 1), .int (zi 5)]) (rest := [.ref (l.length + 1), .ref l.length]) rfl rfl rfl (cT1_5 l (.inr (2, [.null, .null, .null, .null, .null, .null, .int 0])) [] 1 (zlh (rfl) rfl) _ _)).trans ((zq_put0 (l := l) (r := ([] ++ zbT1_5 (l.length + 1))) (fs := [.null, .null, .null, .null, .null, .null, .int 0]) (fs' := [.ref (l.length + 1), .null, .null, .null, .null, .null, .int 0]) rfl (Nat.le_of_ble_eq_true rfl) rfl rfl).trans ((zst_p 1 (pc' := 18) (L' := [.ref l.length]) (st' := [.ref l.length]) rfl).trans ((zq_new (h := .inr (2, [.ref (l.length + 1), .null, .null, .null, .null, .null, .int 0])) (r := ([] ++ zbT1_5 (l.length + 1))) (fs := [.int 0, .int 0, .null]) (n := 3) (kk := 3) rfl rfl (zlh (zln (rfl) (zbT1_5_len _) rfl) rfl) rfl).trans ((zst_p 3 (pc' := 25) (L' := [.ref l.length]) (st' := [.int (zi 15), .int (zi 1), .ref (l.length + 3), .ref (l.length + 3), .ref l.length]) rfl).trans ((zst_4u (L1 := [.ref (l.length + 3), .int (zi 1), .int (zi 15)]) (rest := [.ref (l.length + 3), .ref l.length]) rfl rfl rfl (cT1_15 l (.inr (2, [.ref (l.length + 1), .null, .null, .null, .null, .null, .int 0])) ([] ++ zbT1_5 (l.length + 1)) 3 (zlh (zln (rfl) (zbT1_5_len _) rfl) rfl) _ _)).trans ((zq_put0 (l := l) (r := (([] ++ zbT1_5 (l.length + 1)) ++ zbT1_15 (l.length + 3))) (fs := [.ref (l.length + 1), .null, .null, .null, .null, .null, .int 0]) (fs' := [.ref (l.length + 1), .ref (l.length + 3), .null, .null, .null, .null, .int 0]) rfl (Nat.le_of_ble_eq_true rfl) rfl rfl).trans ((zst_p 1 (pc' := 32) (L' := [.ref l.length]) (st' := [.ref l.length]) rfl).trans ((zq_new (h := .inr (2, [.ref (l.length + 1), .ref (l.length + 3), .null, .null, .null, .null, .int 0])) (r := (([] ++ zbT1_5 (l.length + 1)) ++ zbT1_15 (l.length + 3))) (fs := [.int 0, .int 0, .null]) (n := 5) (kk := 3) rfl rfl (zlh (zln (zln (rfl) (zbT1_5_len _) rfl) (zbT1_15_len _) rfl) rfl) rfl).trans ((zst_p 3 (pc' := 40) (L' := [.ref l.length]) (st' := [.int (zi 12), .int (zi 6), .ref (l.length + 5), .ref (l.length + 5), .ref l.length]) rfl).trans ((zst_4u (L1 := [.ref (l.length + 5), .int (zi 6), .int (zi 12)]) (rest := [.ref (l.length + 5), .ref l.length]) rfl rfl rfl (cT6_12 l (.inr (2, [.ref (l.length + 1), .ref (l.length + 3), .null, .null, .null, .null, .int 0])) (([] ++ zbT1_5 (l.length + 1)) ++ zbT1_15 (l.length + 3)) 5 (zlh (zln (zln (rfl) (zbT1_5_len _) rfl) (zbT1_15_len _) rfl) rfl) _ _)).trans ((zq_put0 (l := l) (r := ((([] ++ zbT1_5 (l.length + 1)) ++ zbT1_15 (l.length + 3)) ++ zbT6_12 (l.length + 5))) (fs := [.ref (l.length + 1), .ref (l.length + 3), .null, .null, .null, .null, .int 0]) (fs' := [.ref (l.length + 1), .ref (l.length + 3), .ref (l.length + 5), .null, .null, .null, .int 0]) rfl (Nat.le_of_ble_eq_true rfl) rfl rfl).trans ((zst_p 1 (pc' := 47) (L' := [.ref l.length]) (st' := [.ref l.length]) rfl).trans ((zq_new (h := .inr (2, [.ref (l.length + 1), .ref (l.length + 3), .ref (l.length + 5), .null, .null, .null, .int 0])) (r := ((([] ++ zbT1_5 (l.length + 1)) ++ zbT1_15 (l.length + 3)) ++ zbT6_12 (l.length + 5))) (fs := [.int 0, .int 0, .null]) (n := 7) (kk := 3) rfl rfl (zlh (zln (zln (zln (rfl) (zbT1_5_len _) rfl) (zbT1_15_len _) rfl) (zbT6_12_len _) rfl) rfl) rfl).trans ((zst_p 3 (pc' := 54) (L' := [.ref l.length]) (st' := [.int (zi 5), .int (zi 72), .ref (l.length + 7), .ref (l.length + 7), .ref l.length]) rfl).trans ((zst_4u (L1 := [.ref (l.length + 7), .int (zi 72), .int (zi 5)]) (rest := [.ref (l.length + 7), .ref l.length]) rfl rfl rfl (cT72_5 l (.inr (2, [.ref (l.length + 1), .ref (l.length + 3), .ref (l.length + 5), .null, .null, .null, .int 0])) ((([] ++ zbT1_5 (l.length + 1)) ++ zbT1_15 (l.length + 3)) ++ zbT6_12 (l.length + 5)) 7 (zlh (zln (zln (zln (rfl) (zbT1_5_len _) rfl) (zbT1_15_len _) rfl) (zbT6_12_len _) rfl) rfl) _ _)).trans ((zq_put0 (l := l) (r := (((([] ++ zbT1_5 (l.length + 1)) ++ zbT1_15 (l.length + 3)) ++ zbT6_12 (l.length + 5)) ++ zbT72_5 (l.length + 7))) (fs := [.ref (l.length + 1), .ref (l.length + 3), .ref (l.length + 5), .null, .null, .null, .int 0]) (fs' := [.ref (l.length + 1), .ref (l.length + 3), .ref (l.length + 5), .ref (l.length + 7), .null, .null, .int 0]) rfl (Nat.le_of_ble_eq_true rfl) rfl rfl).trans ((zst_p 1 (pc' := 61) (L' := [.ref l.length]) (st' := [.ref l.length]) rfl).trans ((zq_new (h := .inr (2, [.ref (l.length + 1), .ref (l.length + 3), .ref (l.length + 5), .ref (l.length + 7), .null, .null, .int 0])) (r := (((([] ++ zbT1_5 (l.length + 1)) ++ zbT1_15 (l.length + 3)) ++ zbT6_12 (l.length + 5)) ++ zbT72_5 (l.length + 7))) (fs := [.int 0, .int 0, .null]) (n := 9) (kk := 3) rfl rfl (zlh (zln (zln (zln (zln (rfl) (zbT1_5_len _) rfl) (zbT1_15_len _) rfl) (zbT6_12_len _) rfl) (zbT72_5_len _) rfl) rfl) rfl).trans ((zst_p 3 (pc' := 68) (L' := [.ref l.length]) (st' := [.int (zi 3), .int (zi 64), .ref (l.length + 9), .ref (l.length + 9), .ref l.length]) rfl).trans ((zst_4u (L1 := [.ref (l.length + 9), .int (zi 64), .int (zi 3)]) (rest := [.ref (l.length + 9), .ref l.length]) rfl rfl rfl (cT64_3 l (.inr (2, [.ref (l.length + 1), .ref (l.length + 3), .ref (l.length + 5), .ref (l.length + 7), .null, .null, .int 0])) (((([] ++ zbT1_5 (l.length + 1)) ++ zbT1_15 (l.length + 3)) ++ zbT6_12 (l.length + 5)) ++ zbT72_5 (l.length + 7)) 9 (zlh (zln (zln (zln (zln (rfl) (zbT1_5_len _) rfl) (zbT1_15_len _) rfl) (zbT6_12_len _) rfl) (zbT72_5_len _) rfl) rfl) _ _)).trans ((zq_put0 (l := l) (r := ((((([] ++ zbT1_5 (l.length + 1)) ++ zbT1_15 (l.length + 3)) ++ zbT6_12 (l.length + 5)) ++ zbT72_5 (l.length + 7)) ++ zbT64_3 (l.length + 9))) (fs := [.ref (l.length + 1), .ref (l.length + 3), .ref (l.length + 5), .ref (l.length + 7), .null, .null, .int 0]) (fs' := [.ref (l.length + 1), .ref (l.length + 3), .ref (l.length + 5), .ref (l.length + 7), .ref (l.length + 9), .null, .int 0]) rfl (Nat.le_of_ble_eq_true rfl) rfl rfl).trans ((zst_p 1 (pc' := 75) (L' := [.ref l.length]) (st' := [.ref l.length]) rfl).trans ((zq_new (h := .inr (2, [.ref (l.length + 1), .ref (l.length + 3), .ref (l.length + 5), .ref (l.length + 7), .ref (l.length + 9), .null, .int 0])) (r := ((((([] ++ zbT1_5 (l.length + 1)) ++ zbT1_15 (l.length + 3)) ++ zbT6_12 (l.length + 5)) ++ zbT72_5 (l.length + 7)) ++ zbT64_3 (l.length + 9))) (fs := [.int 0, .int 0, .null]) (n := 11) (kk := 3) rfl rfl (zlh (zln (zln (zln (zln (zln (rfl) (zbT1_5_len _) rfl) (zbT1_15_len _) rfl) (zbT6_12_len _) rfl) (zbT72_5_len _) rfl) (zbT64_3_len _) rfl) rfl) rfl).trans ((zst_p 3 (pc' := 82) (L' := [.ref l.length]) (st' := [.int (zi 1), .int (zi 6), .ref (l.length + 11), .ref (l.length + 11), .ref l.length]) rfl).trans ((zst_4u (L1 := [.ref (l.length + 11), .int (zi 6), .int (zi 1)]) (rest := [.ref (l.length + 11), .ref l.length]) rfl rfl rfl (cT6_1 l (.inr (2, [.ref (l.length + 1), .ref (l.length + 3), .ref (l.length + 5), .ref (l.length + 7), .ref (l.length + 9), .null, .int 0])) ((((([] ++ zbT1_5 (l.length + 1)) ++ zbT1_15 (l.length + 3)) ++ zbT6_12 (l.length + 5)) ++ zbT72_5 (l.length + 7)) ++ zbT64_3 (l.length + 9)) 11 (zlh (zln (zln (zln (zln (zln (rfl) (zbT1_5_len _) rfl) (zbT1_15_len _) rfl) (zbT6_12_len _) rfl) (zbT72_5_len _) rfl) (zbT64_3_len _) rfl) rfl) _ _)).trans ((zq_put0 (l := l) (r := (((((([] ++ zbT1_5 (l.length + 1)) ++ zbT1_15 (l.length + 3)) ++ zbT6_12 (l.length + 5)) ++ zbT72_5 (l.length + 7)) ++ zbT64_3 (l.length + 9)) ++ zbT6_1 (l.length + 11))) (fs := [.ref (l.length + 1), .ref (l.length + 3), .ref (l.length + 5), .ref (l.length + 7), .ref (l.length + 9), .null, .int 0]) (fs' := [.ref (l.length + 1), .ref (l.length + 3), .ref (l.length + 5), .ref (l.length + 7), .ref (l.length + 9), .ref (l.length + 11), .int 0]) rfl (Nat.le_of_ble_eq_true rfl) rfl rfl).trans ((zst_3 rfl rfl).trans (zfin rfl (by omega) (by omega))))))))))))))))))))))))))))))))))
theorem cMch (l : List ZE) (h : ZE) (r0 : List ZE) (n : Nat) (hn : (h :: r0).length = n) (a b : Nat) : zev X 16 0 [.ref (l.length + n)] [] (zLc l (h :: (r0 ++ (.inr (2, [.null, .null, .null, .null, .null, .null, .int 0]) :: []))) a b) = some (.inl none, zLc l (h :: (r0 ++ zbMch (l.length + n))) (a + 12) (b + 668)) := zct_app cMch0 l (h :: r0) n hn a b
end
